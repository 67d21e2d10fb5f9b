/-! book of the class -/
theorem a_bk0_s : ∀ i, i < 6 → (if i = 0 then (1 : Int32) else if i = 2 then 8 else if i = 3 then 1 else if i = 4 then 1 else 0) = nI (a_bk0 (2 + i)) := by decide
theorem a_bk0_z : ∀ i, 7 ≤ i → a_bk0 i = 0 := fun i hi => by
  unfold a_bk0
  rw [if_neg (by omega), if_neg (by omega), if_neg (by omega), if_neg (by omega)]
theorem x_init0 {h : z_T} {Q : z_T → Prop} (k : ∀ h', x_fr (fun _ _ => True) h h' → xBr h' (z_n h) a_bk0 (fun _ => 0) 0 → z_I h' (z_n h) 0 = nI 0 → Q h') : p_W (fX0_init (z_n h) (z_al h 0 0)) Q := by
  have n0 : z_n (z_al h 0 0) = z_n h + 1 := rfl
  have okb : z_ok (z_al h 0 0) (z_n h) 0 = true := z_al_ok
  have fb : x_fr (fun _ _ => True) h (z_al h 0 0) := x_fr.rf.al
  have ib : ∀ k, z_I (z_al h 0 0) (z_n h) k = nI 0 := fun k => z_al_I
  have hb : z_n h ≤ z_n h := Nat.le_refl _
  unfold fX0_init
  generalize z_al h 0 0 = H0 at *
  refine p_new6 okb (fun H1 n1 => ?_)
  have e1 := n1.1
  refine p_newR (n1.ok okb) (fun H2 n2 => ?_)
  have e2 := n2.1
  have ok2 := n2.ok (n1.ok okb)
  refine p_newR ok2 (fun H3 n3 => ?_)
  have e3 := n3.1
  have ok3 := n3.ok ok2
  refine p_newR ok3 (fun H4 n4 => ?_)
  have e4 := n4.1
  have ok4 := n4.ok ok3
  refine p_newR ok4 (fun H5 n5 => ?_)
  have e5 := n5.1
  have ok5 := n5.ok ok4
  refine p_newR ok5 (fun H6 n6 => ?_)
  have e6 := n6.1
  have ok6 := n6.ok ok5
  refine p_newR ok6 (fun H7 n7 => ?_)
  have e7 := n7.1
  have ok7 := n7.ok ok6
  have m1' : z_n H1 = z_n h + 2 := by omega
  have m2 : z_n H2 = z_n h + 3 := by omega
  have m3 : z_n H3 = z_n h + 4 := by omega
  have m4 : z_n H4 = z_n h + 5 := by omega
  have m5 : z_n H5 = z_n h + 6 := by omega
  have m6 : z_n H6 = z_n h + 7 := by omega
  have F7 := n7.xfr (n6.xfr (n5.xfr (n4.xfr (n3.xfr (n2.xfr (n1.xfr fb hb) hb) hb) hb) hb) hb) hb
  have iB : ∀ k, z_I H7 (z_n h) k = nI 0 := fun k => n7.I (by omega) (n6.I (by omega) (n5.I (by omega) (n4.I (by omega) (n3.I (by omega) (n2.I (by omega) (n1.I (by omega) (ib k)))))))
  have a1 := n7.ok (n6.ok (n5.ok (n4.ok (n3.ok (n2.ok n1.a)))))
  have N1 := n7.N (by omega) (n6.N (by omega) (n5.N (by omega) (n4.N (by omega) (n3.N (by omega) (n2.N (by omega) n1.2.2.2.1)))))
  have R1 := n7.R (by omega) (by omega) (n6.R (by omega) (by omega) (n5.R (by omega) (by omega) (n4.R (by omega) (by omega) (n3.R (by omega) (by omega) (n2.R (by omega) (by omega) n1.2.2.2.2.1)))))
  have I1 : ∀ i, z_I H7 (z_n H0) i = _ := fun i => n7.I (by omega) (n6.I (by omega) (n5.I (by omega) (n4.I (by omega) (n3.I (by omega) (n2.I (by omega) (n1.2.2.2.2.2.1 i))))))
  rw [n0] at a1 N1 R1 I1
  have a2 := n7.ok (n6.ok (n5.ok (n4.ok (n3.ok n2.a))))
  have N2 := n7.N (by omega) (n6.N (by omega) (n5.N (by omega) (n4.N (by omega) (n3.N (by omega) n2.2.2.2.1))))
  have R2 := n7.R (by omega) (by omega) (n6.R (by omega) (by omega) (n5.R (by omega) (by omega) (n4.R (by omega) (by omega) (n3.R (by omega) (by omega) n2.2.2.2.2.1))))
  rw [m1'] at a2 N2 R2
  have a3 := n7.ok (n6.ok (n5.ok (n4.ok n3.a)))
  have N3 := n7.N (by omega) (n6.N (by omega) (n5.N (by omega) (n4.N (by omega) n3.2.2.2.1)))
  have R3 := n7.R (by omega) (by omega) (n6.R (by omega) (by omega) (n5.R (by omega) (by omega) (n4.R (by omega) (by omega) n3.2.2.2.2.1)))
  have I3 : ∀ i, z_I H7 (z_n H2) i = 0 := fun i => n7.I (by omega) (n6.I (by omega) (n5.I (by omega) (n4.I (by omega) (n3.2.2.2.2.2.1 i))))
  rw [m2] at a3 N3 R3 I3
  have a4 := n7.ok (n6.ok (n5.ok n4.a))
  have N4 := n7.N (by omega) (n6.N (by omega) (n5.N (by omega) n4.2.2.2.1))
  have R4 := n7.R (by omega) (by omega) (n6.R (by omega) (by omega) (n5.R (by omega) (by omega) n4.2.2.2.2.1))
  have I4 : ∀ i, z_I H7 (z_n H3) i = 0 := fun i => n7.I (by omega) (n6.I (by omega) (n5.I (by omega) (n4.2.2.2.2.2.1 i)))
  rw [m3] at a4 N4 R4 I4
  have a5 := n7.ok (n6.ok n5.a)
  have N5 := n7.N (by omega) (n6.N (by omega) n5.2.2.2.1)
  have R5 := n7.R (by omega) (by omega) (n6.R (by omega) (by omega) n5.2.2.2.2.1)
  rw [m4] at a5 N5 R5
  have a6 := n7.ok n6.a
  have N6 := n7.N (by omega) n6.2.2.2.1
  have R6 := n7.R (by omega) (by omega) n6.2.2.2.2.1
  have I6 : ∀ i, z_I H7 (z_n H5) i = 0 := fun i => n7.I (by omega) (n6.2.2.2.2.2.1 i)
  rw [m5] at a6 N6 R6 I6
  have a7 := n7.a
  have N7 := n7.2.2.2.1
  have R7 := n7.2.2.2.2.1
  have I7 := n7.2.2.2.2.2.1
  rw [m6] at a7 N7 R7 I7
  refine p_some.mpr (k H7 F7 ⟨⟨⟨ok7, a1, N1, R1, a2, N2, R2, a3, N3, R3, a4, N4, R4, a5, N5, R5, a6, N6, R6, a7, N7, R7⟩, iB 1, iB 2, fun i hi => ?_, fun t ht => ?_, fun t ht => ?_, fun d hd => ?_, fun d hd => ?_⟩, ⟨fun t ht => absurd ht (Nat.not_lt_zero _), fun t ht => absurd ht (Nat.not_lt_zero _)⟩, iB 3⟩ (iB 0))
  · exact (I1 i).trans (a_bk0_s i hi)
  · rw [a_bk0_z _ (by omega)]; exact I3 t
  · rw [a_bk0_z _ (by omega)]; exact I4 t
  · rw [a_bk0_z _ (by omega)]; exact I6 (d + 1)
  · rw [a_bk0_z _ (by omega)]; exact I7 (d + 1)
theorem x_openL {h : z_T} {L lim : Nat} {by8 : Nat → Nat} {TB : Nat → Int32} {Q : z_T → Prop} (s : SX h) (T : xTp h L TB) (hT : ∀ i, i < L → TB i = a_sb (by8 i)) (hb : BY L by8) (hl : lim ≤ 900) (k : ∀ h', x_fr (fun o _ => o ≠ 13) h h' → xL by8 L lim h' (a_lex by8 L lim 0) → Q h') : p_W (fX6_open 13 (nI lim) h) Q := by
  unfold fX6_open
  refine p_gd.mpr ⟨xk13 s, p_nm.mpr (p_nm.mpr (p_nm.mpr (p_bi.mpr ?_)))⟩
  rw [show (0 : Int32) = nI 0 from rfl]
  have f1 : x_fr (fun o _ => o ≠ 13) h (z_sI (z_sI (z_sI h 13 1 (nI lim)) 13 2 (nI 0)) 13 8 (nI 0)) := ((x_fr.rf.sI (fun _ => by omega)).sI (fun _ => by omega)).sI (fun _ => by omega)
  have i1 : z_I (z_sI (z_sI (z_sI h 13 1 (nI lim)) 13 2 (nI 0)) 13 8 (nI 0)) 13 1 = nI lim := (q_In (by omega)).trans ((q_In (by omega)).trans (q_Ie rfl rfl))
  have i2 : z_I (z_sI (z_sI (z_sI h 13 1 (nI lim)) 13 2 (nI 0)) 13 8 (nI 0)) 13 2 = nI 0 := (q_In (by omega)).trans (q_Ie rfl rfl)
  have i8 : z_I (z_sI (z_sI (z_sI h 13 1 (nI lim)) 13 2 (nI 0)) 13 8 (nI 0)) 13 8 = nI 0 := q_Ie rfl rfl
  generalize z_sI (z_sI (z_sI h 13 1 (nI lim)) 13 2 (nI 0)) 13 8 (nI 0) = h1 at *
  have s1 := f1.s s
  have h0 := s.1
  have h01 := s1.1
  have T1 : xTape h1 L lim by8 := ⟨(f1.I 9 1 (by omega) (by omega)).trans T.1, i1, fun i hi => (f1.I 10 i (by omega) (by omega)).trans ((T.2 i hi).trans (hT i hi))⟩
  refine x_adv s1 T1 hb hl (Nat.zero_le L) i2 (fun h2 f2 t2 => ?_)
  exact p_some.mpr (k h2 (f1.tr (f2.w (fun o k _ c => by unfold xGo; omega))) ⟨f2.s s1, T1.fr s1 f2, t2, a_lex_E, hb, hl, (f2.I 13 8 (by omega) (by unfold xGo; omega)).trans i8⟩)
def xC0 (o k : Nat) : Prop := o ≠ 13 ∧ (o ≠ 9 ∨ k ≠ 1)
def xC1 (o k : Nat) : Prop := xC0 o k ∧ nC 15 o k ∧ (o ≠ 15 ∨ k ≠ 0) ∧ (o ≠ 14 ∨ (k ≠ 1 ∧ k ≠ 2)) ∧ (o ≠ 30 ∨ k ≠ 2)
theorem x_opBook {h : z_T} {L : Nat} {by8 : Nat → Nat} {TB : Nat → Int32} {ans : Nat → Nat} {Q : Int32 × z_T → Prop} (s : SX h) (T : xTp h L TB) (hT : ∀ i, i < L → TB i = a_sb (by8 i)) (hb : BY L by8)
    (k0 : ∀ h' e, a_book by8 L = .inl e → x_fr xC0 h h' → z_I h' 9 1 = nI 0 → z_I h' 13 8 = nI e.1 → Q (m1 - nI e.2, h')) (k1 : ∀ h' bk nm n, a_book by8 L = .inr (bk, nm, n) → x_fr xC1 h h' → z_I h' 9 1 = nI 0 → z_I h' 13 8 = nI 0 → xNow h' (z_n h) bk ans 0 → xNm h' (z_n h) bk nm → z_R h' 14 1 = none → z_R h' 14 2 = none → z_I h' 30 2 = nI 0 → Q (nI n, h')) : p_W (fX11_book 0 h) Q := by
  have h0 := s.1
  unfold fX11_book
  refine p_nm.mpr (p_nm.mpr (p_bi.mpr ?_))
  refine x_init0 (fun h5 f5 R5 i5 => ?_)
  have s5 := f5.s s
  have bk5 := z_ok_lt (xb_0 R5.1.1)
  have T5 : xTp h5 L TB := ⟨(f5.I 9 1 (by omega) trivial).trans T.1, fun i hi => (f5.I 10 i (by omega) trivial).trans (T.2 i hi)⟩
  obtain ⟨bo, hbo⟩ : ∃ bo, z_n h = bo := ⟨_, rfl⟩
  rw [hbo] at R5 i5 k1 bk5 h0 ⊢
  simp (disch := first | assumption | omega) only [p_some, p_gd, p_br, p_bi, p_nm, p_mp, p_Sl, p_Sr, p_bis, p_gdt, Nat.not_lt_zero, Nat.reduceEqDiff, Nat.reduceLT, Nat.reduceLeDiff, true_and, and_true, true_implies, false_implies, not_true_eq_false, not_false_eq_true, implies_true, and_self, ne_eq, decide_true, decide_false, Bool.not_true, Bool.not_false, if_true, if_false, reduceIte, xk0 s5, xr0_2 s5, xk13 s5, r_lit]
  refine x_openL s5 T5 hT hb (Nat.le_refl 900) (fun h6 f6 l6 => ?_)
  have s6 := l6.1
  have R6 := R5.fr h0 f6 (fun j k hj => by omega)
  simp (disch := first | assumption | omega) only [p_some, p_gd, p_br, p_bi, p_nm, p_mp, p_Sl, p_Sr, p_bis, p_gdt, Nat.not_lt_zero, Nat.reduceEqDiff, Nat.reduceLT, Nat.reduceLeDiff, true_and, and_true, true_implies, false_implies, not_true_eq_false, not_false_eq_true, implies_true, and_self, ne_eq, decide_true, decide_false, Bool.not_true, Bool.not_false, if_true, if_false, reduceIte, xk0 s6, xr0_2 s6, xb_0 R6.1.1]
  unfold fX0_readLines fX0_readLines_b2
  unfold a_book at k0 k1
  refine x_bkLoop h0 480 h6 a_bk0 (fun _ => 0) 0 0 _ (by omega) ⟨0, Nat.zero_le _, Nat.le_refl _, fun q => Nat.lt_of_le_of_lt (Nat.zero_le _) (a_lex_lt q)⟩ BKS0 l6 R6 ((f6.I bo 0 bk5 (by omega)).trans i5) (fun h7 e q f g => ?_) (fun h7 bk nm n told q f g R7 i7 => ?_)
  · have s7 := f.s s6
    simp (disch := first | assumption | omega) only [p_some, p_gd, p_br, p_bi, p_nm, p_mp, p_Sl, p_Sr, p_bis, p_gdt, Nat.not_lt_zero, Nat.reduceEqDiff, Nat.reduceLT, Nat.reduceLeDiff, true_and, and_true, true_implies, false_implies, not_true_eq_false, not_false_eq_true, implies_true, and_self, ne_eq, decide_true, decide_false, Bool.not_true, Bool.not_false, if_true, if_false, reduceIte, xk0 s7, xr0_0 s7, xk9 s7, r_lit]
    have F : x_fr (fun o k => o < bo ∧ xC0 o k) h h7 := (f5.w (fun o k _ c => trivial)).tr ((f6.w (fun o k _ c => c.2.1)).tr (f.w (fun o k _ c => by have c1 := c.2; unfold xC0 at c1; unfold xBf xGF; omega)))
    have F8 : x_fr xC0 h (z_sI h7 9 1 (nI 0)) := (F.w (fun o k ho c => ⟨by omega, c⟩)).sI (fun _ => by unfold xC0; omega)
    have s8 : SX (z_sI h7 9 1 (nI 0)) := s7
    have i9 : z_I (z_sI h7 9 1 (nI 0)) 9 1 = nI 0 := q_Ie rfl rfl
    have g8 : z_I (z_sI h7 9 1 (nI 0)) 13 8 = nI e.1 := (q_In (by omega)).trans g.1
    have g3 : z_I (z_sI h7 9 1 (nI 0)) 13 3 = nI e.2 := (q_In (by omega)).trans g.2
    generalize z_sI h7 9 1 (nI 0) = h8 at *
    simp (disch := first | assumption | omega) only [p_some, p_gd, p_br, p_bi, p_nm, p_mp, p_Sl, p_Sr, p_bis, p_gdt, Nat.not_lt_zero, Nat.reduceEqDiff, Nat.reduceLT, Nat.reduceLeDiff, true_and, and_true, true_implies, false_implies, not_true_eq_false, not_false_eq_true, implies_true, and_self, ne_eq, decide_true, decide_false, Bool.not_true, Bool.not_false, if_true, if_false, reduceIte, xr0_2 s8, xk13 s8, g3, r_m1]
    exact k0 h8 e q F8 i9 g8
  · have s7 := f.s s6
    obtain ⟨b, N⟩ := a_lines_ok 480 _ _ _ _ _ _ BKS0 q
    dsimp only at b N
    have F : x_fr (fun o k => o < bo ∧ xC0 o k) h h7 := (f5.w (fun o k _ c => trivial)).tr ((f6.w (fun o k _ c => c.2.1)).tr (f.w (fun o k _ c => by have c1 := c.2; unfold xC0 at c1; unfold xBf xGF; omega)))
    simp (disch := first | assumption | omega) only [p_some, p_gd, p_br, p_bi, p_nm, p_mp, p_Sl, p_Sr, p_bis, p_gdt, Nat.not_lt_zero, Nat.reduceEqDiff, Nat.reduceLT, Nat.reduceLeDiff, true_and, and_true, true_implies, false_implies, not_true_eq_false, not_false_eq_true, implies_true, and_self, ne_eq, decide_true, decide_false, Bool.not_true, Bool.not_false, if_true, if_false, reduceIte, xk0 s7, xr0_0 s7, xk9 s7, r_lit, s_10]
    have F8 : x_fr xC0 h (z_sI h7 9 1 (nI 0)) := (F.w (fun o k ho c => ⟨by omega, c⟩)).sI (fun _ => by unfold xC0; omega)
    have R8 : xBr (z_sI h7 9 1 (nI 0)) bo bk nm told := R7.fr (C := fun o k => o ≠ 9) h0 (x_fr.rf.sI (fun _ => by omega)) (fun j k hj => by omega)
    have s8 : SX (z_sI h7 9 1 (nI 0)) := s7
    have i9 : z_I (z_sI h7 9 1 (nI 0)) 9 1 = nI 0 := q_Ie rfl rfl
    have g8 : z_I (z_sI h7 9 1 (nI 0)) 13 8 = nI 0 := (q_In (by omega)).trans g
    have i8 : z_I (z_sI h7 9 1 (nI 0)) bo 0 = nI n := (q_In (by omega)).trans i7
    generalize z_sI h7 9 1 (nI 0) = h8 at *
    have h08 := s8.1
    have bk8 := z_ok_lt (xb_0 R8.1.1)
    unfold fX8_begin
    simp (disch := first | assumption | omega) only [p_some, p_gd, p_br, p_bi, p_nm, p_mp, p_Sl, p_Sr, p_bis, p_gdt, Nat.not_lt_zero, Nat.reduceEqDiff, Nat.reduceLT, Nat.reduceLeDiff, true_and, and_true, true_implies, false_implies, not_true_eq_false, not_false_eq_true, implies_true, and_self, ne_eq, decide_true, decide_false, Bool.not_true, Bool.not_false, if_true, if_false, reduceIte, xr0_3 s8, xk14 s8, xr14_0 s8, xo_0 (s8.st (Or.inl rfl)).2.2]
    refine x_begin (ans := ans) b (s8.st (Or.inl rfl)).2.2 R8.1 (Or.inl rfl) (Or.inr h0) (fun h9 f9 N9 => ?_)
    have s9 := f9.s s8
    have hM1 : xM 14 1 := by unfold xM; omega
    have hM2 : xM 14 2 := by unfold xM; omega
    simp (disch := first | assumption | omega) only [p_some, p_gd, p_br, p_bi, p_nm, p_mp, p_Sl, p_Sr, p_bis, p_gdt, Nat.not_lt_zero, Nat.reduceEqDiff, Nat.reduceLT, Nat.reduceLeDiff, true_and, and_true, true_implies, false_implies, not_true_eq_false, not_false_eq_true, implies_true, and_self, ne_eq, decide_true, decide_false, Bool.not_true, Bool.not_false, if_true, if_false, reduceIte, xk14 s9]
    have fA' : x_fr (fun o k => o ≠ 14 ∨ (k ≠ 1 ∧ k ≠ 2)) h9 (z_sR (z_sR h9 14 1 none) 14 2 none) := (x_fr.rf.sR (fun _ => ⟨by omega, hM1⟩)).sR (fun _ => ⟨by omega, hM2⟩)
    have fA : x_fr (fun o _ => o ≠ 14) h9 (z_sR (z_sR h9 14 1 none) 14 2 none) := fA'.w (fun o k _ c => Or.inl c)
    have rA1 : z_R (z_sR (z_sR h9 14 1 none) 14 2 none) 14 1 = none := (q_Rn (by omega)).trans (q_Re rfl rfl)
    have rA2 : z_R (z_sR (z_sR h9 14 1 none) 14 2 none) 14 2 = none := q_Re rfl rfl
    generalize z_sR (z_sR h9 14 1 none) 14 2 none = hA at *
    have sA := fA.s s9
    have h09 := s9.1
    have nA := f9.1
    have N9' := N9.fr (C := fun o _ => o ≠ 14) fA (Or.inl rfl) (Or.inr h0) (fun a k ha => by omega) (fun a k ha => by omega)
    have bA := N9'.2.2.1.1
    simp (disch := first | assumption | omega) only [p_some, p_gd, p_br, p_bi, p_nm, p_mp, p_Sl, p_Sr, p_bis, p_gdt, Nat.not_lt_zero, Nat.reduceEqDiff, Nat.reduceLT, Nat.reduceLeDiff, true_and, and_true, true_implies, false_implies, not_true_eq_false, not_false_eq_true, implies_true, and_self, ne_eq, decide_true, decide_false, Bool.not_true, Bool.not_false, if_true, if_false, reduceIte, xk0 sA, xr0_5 sA, xk30 sA, r_lit, q_okI, xb_0 bA]
    have fB : x_fr (fun o k => o ≠ 30 ∨ k ≠ 2) hA (z_sI hA 30 2 (nI 0)) := x_fr.rf.sI (fun _ => by omega)
    have iB : z_I (z_sI hA 30 2 (nI 0)) 30 2 = nI 0 := q_Ie rfl rfl
    have rB1 : z_R (z_sI hA 30 2 (nI 0)) 14 1 = none := rA1
    have rB2 : z_R (z_sI hA 30 2 (nI 0)) 14 2 = none := rA2
    have NB := N9'.fr (C := fun o k => o ≠ 30 ∨ k ≠ 2) fB (Or.inl rfl) (Or.inr h0) (fun a k ha => by omega) (fun a k ha => by omega)
    generalize z_sI hA 30 2 (nI 0) = hB at *
    have sB := fB.s sA
    have h0A := sA.1
    have nB := fA.1
    have c9 : ∀ j k, j < 8 → nC 15 (bo + j) k ∧ (bo + j ≠ 15 ∨ k ≠ 0) := fun j k hj => by unfold nC; omega
    have gB : x_fr (fun o k => nC 15 o k ∧ (o ≠ 15 ∨ k ≠ 0) ∧ o ≠ 14 ∧ (o ≠ 30 ∨ k ≠ 2)) h8 hB := (f9.w (fun o k _ c => ⟨c.1, c.2.1⟩)).tr ((fA.w (fun o k _ c => c.2.2.1)).tr (fB.w (fun o k _ c => c.2.2.2)))
    have cB : ∀ j k, j < 8 → nC 15 (bo + j) k ∧ (bo + j ≠ 15 ∨ k ≠ 0) ∧ bo + j ≠ 14 ∧ (bo + j ≠ 30 ∨ k ≠ 2) := fun j k hj => by unfold nC; omega
    have RB := R8.fr h0 gB cB
    have en : z_I hB bo 0 = nI n := (gB.I bo 0 bk8 (cB 0 0 (by omega))).trans i8
    have f9' : x_fr (fun o k => nC 15 o k ∧ (o ≠ 15 ∨ k ≠ 0)) h8 h9 := f9
    rw [en]
    refine k1 hB bk nm n q ((F8.w (fun o k _ c => c.1)).tr ((f9'.w (fun o k _ c => ⟨c.2.1, c.2.2.1⟩)).tr ((fA'.w (fun o k _ c => c.2.2.2.1)).tr (fB.w (fun o k _ c => c.2.2.2.2))))) ?_ ?_ ⟨sB, NB, Or.inr h0⟩ RB.2.1 rB1 rB2 iB
    · exact (gB.I 9 1 (by omega) (by unfold nC; omega)).trans i9
    · exact (gB.I 13 8 (by omega) (by unfold nC; omega)).trans g8
