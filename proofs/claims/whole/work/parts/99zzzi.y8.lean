/-! sentence of the class -/
def a_sen (by8 : Nat → Nat) (L : Nat) (f : Nat → Nat) (nD : Nat) : (Nat × Nat) ⊕ ((Nat → Nat) × Nat × Nat) := a_bd (a_co (a_ne by8 L 200) (a_one (a_ne by8 L 200) f nD 8) (fun _ => 0) 0 0 (a_lex by8 L 200 0)) fun v => if v.2.2.2.1 = 0 then .inr (v.1, v.2.1, v.2.2.1) else .inl (1, v.2.2.2.2.2.1)
theorem x_init7 {h : z_T} {Q : z_T → Prop} (k : ∀ h', x_fr (fun _ _ => True) h h' → (∀ bk, xSn h' (z_n h) bk (fun _ => 0) 0 0) → Q h') : p_W (fX7_init (z_n h) (z_al h 7 0)) Q := by
  have n0 : z_n (z_al h 7 0) = z_n h + 1 := rfl
  have okb : z_ok (z_al h 7 0) (z_n h) 7 = true := z_al_ok
  have fb : x_fr (fun _ _ => True) h (z_al h 7 0) := x_fr.rf.al
  have ib : ∀ k, z_I (z_al h 7 0) (z_n h) k = nI 0 := fun k => z_al_I
  unfold fX7_init
  generalize z_al h 7 0 = H0 at *
  refine p_newR okb (fun H1 n1 => ?_)
  refine p_newR (n1.ok okb) (fun H2 n2 => ?_)
  refine p_newR (n2.ok (n1.ok okb)) (fun H3 n3 => ?_)
  have e1 := n1.1
  have e2 := n2.1
  have a1 := n3.ok (n2.ok n1.a)
  have a2 := n3.ok n2.a
  have a3 := n3.a
  have N1 : z_N H3 (z_n H0) = 40 := n3.N (by omega) (n2.N (by omega) n1.2.2.2.1)
  have N2 : z_N H3 (z_n H1) = 40 := n3.N (by omega) n2.2.2.2.1
  have N3 : z_N H3 (z_n H2) = 40 := n3.2.2.2.1
  have R1 : z_R H3 (z_n h) 0 = some (z_n H0) := n3.R (by omega) (Or.inr (by decide)) (n2.R (by omega) (Or.inr (by decide)) n1.2.2.2.2.1)
  have R2 : z_R H3 (z_n h) 1 = some (z_n H1) := n3.R (by omega) (Or.inr (by decide)) n2.2.2.2.2.1
  have R3 : z_R H3 (z_n h) 2 = some (z_n H2) := n3.2.2.2.2.1
  have I3 : z_I H3 (z_n h) 3 = nI 0 := n3.I (by omega) (n2.I (by omega) (n1.I (by omega) (ib 3)))
  have I4 : z_I H3 (z_n h) 4 = nI 0 := n3.I (by omega) (n2.I (by omega) (n1.I (by omega) (ib 4)))
  have g2 : z_n H1 = z_n h + 2 := by omega
  have g3 : z_n H2 = z_n h + 3 := by omega
  rw [g3] at a3 N3 R3
  rw [g2] at a2 N2 R2
  rw [n0] at a1 N1 R1
  exact p_some.mpr (k H3 (n3.xfr (n2.xfr (n1.xfr fb (Nat.le_refl _)) (Nat.le_refl _)) (Nat.le_refl _)) (fun bk => ⟨⟨n3.ok (n2.ok (n1.ok okb)), R1, R2, R3, a1, N1, a2, N2, a3, N3⟩, I3, I4, fun i hi => absurd hi (Nat.not_lt_zero _)⟩))
theorem x_opSentence {h : z_T} {L bo n : Nat} {by8 bk ans nm : Nat → Nat} {TB : Nat → Int32} {Q : Int32 × z_T → Prop} (W : xNow h bo bk ans n) (b : BOK bk) (N : NMO bk nm) (M : xNm h bo bk nm) (T : xTp h L TB) (hT : ∀ i, i < L → TB i = a_sb (by8 i)) (hb : BY L by8)
    (k0 : ∀ h' e, a_sen by8 L (fun d => nm (8 + d)) (bk 1) = .inl e → x_fr xC0 h h' → z_I h' 9 1 = nI 0 → z_I h' 13 8 = nI e.1 → Q (m1 - nI e.2, h')) (k1 : ∀ h' cf c o, a_sen by8 L (fun d => nm (8 + d)) (bk 1) = .inr (cf, c, o) → x_fr (fun o k => xC0 o k ∧ (o ≠ 14 ∨ k ≠ 2)) h h' → z_I h' 9 1 = nI 0 → z_I h' 13 8 = nI 0 → z_R h' 14 2 = some (z_n h) → xSn h' (z_n h) bk cf c o → Q (nI o, h')) : p_W (fX11_sentence 0 h) Q := by
  obtain ⟨s, NN, hbo⟩ := W
  have h0 := s.1
  have B := NN.2.2.1
  have R : xBN h bo bk nm := ⟨B, M⟩
  have bl := z_ok_lt (xb_19 B.1)
  have rb := NN.2.1
  unfold fX11_sentence
  refine p_nm.mpr (p_nm.mpr (p_bi.mpr ?_))
  refine x_init7 (fun h5 f5 S5 => ?_)
  have s5 := f5.s s
  have P5 : xTp h5 L TB := ⟨(f5.I 9 1 (by omega) trivial).trans T.1, fun i hi => (f5.I 10 i (by omega) trivial).trans (T.2 i hi)⟩
  have R5 := R.fr hbo f5 (fun j k hj => trivial)
  have S5 := S5 bk
  have so5 := z_ok_lt S5.1.1
  obtain ⟨so, hso⟩ : ∃ so, z_n h = so := ⟨_, rfl⟩
  rw [hso] at S5 k1 h0 bl so5 ⊢
  simp (disch := first | assumption | omega) only [p_some, p_gd, p_br, p_bi, p_nm, p_mp, p_Sl, p_Sr, p_bis, p_gdt, Nat.not_lt_zero, Nat.reduceEqDiff, Nat.reduceLT, Nat.reduceLeDiff, true_and, and_true, true_implies, false_implies, not_true_eq_false, not_false_eq_true, implies_true, and_self, ne_eq, decide_true, decide_false, Bool.not_true, Bool.not_false, if_true, if_false, reduceIte, xk0 s5, xr0_2 s5, xk13 s5, r_lit]
  refine x_openL s5 P5 hT hb (show 200 ≤ 900 by omega) (fun h6 f6 l6 => ?_)
  have s6 := l6.1
  have S6 := S5.fr h0 f6 (fun k => by omega) (fun k => by omega) (by omega) (by omega)
  have R6 := R5.fr hbo f6 (fun j k hj => by omega)
  have rb6 : z_R h6 15 0 = some bo := (f6.R 15 0 (by have := s5.1; omega) (by omega)).trans ((f5.R 15 0 (by omega) trivial).trans rb)
  simp (disch := first | assumption | omega) only [p_some, p_gd, p_br, p_bi, p_nm, p_mp, p_Sl, p_Sr, p_bis, p_gdt, Nat.not_lt_zero, Nat.reduceEqDiff, Nat.reduceLT, Nat.reduceLeDiff, true_and, and_true, true_implies, false_implies, not_true_eq_false, not_false_eq_true, implies_true, and_self, ne_eq, decide_true, decide_false, Bool.not_true, Bool.not_false, if_true, if_false, reduceIte, xk0 s6, xr0_2 s6, xr0_3 s6, xk14 s6, xr14_0 s6, xo_0 (s6.st (Or.inl rfl)).2.2, rb6, S6.1.1]
  unfold fX7_readWhole fX7_readWhole_b21
  unfold a_sen at k0 k1
  simp (disch := first | assumption | omega) only [p_some, p_gd, p_br, p_bi, p_nm, p_mp, p_Sl, p_Sr, p_bis, p_gdt, Nat.not_lt_zero, Nat.reduceEqDiff, Nat.reduceLT, Nat.reduceLeDiff, true_and, and_true, true_implies, false_implies, not_true_eq_false, not_false_eq_true, implies_true, and_self, ne_eq, decide_true, decide_false, Bool.not_true, Bool.not_false, if_true, if_false, reduceIte, S6.1.1, r_lit]
  have fin : ∀ h7, x_fr (xSf so) h6 h7 → x_fr (fun o k => o < so ∧ xC0 o k) h h7 := fun h7 f => (f5.w (fun o k _ c => trivial)).tr ((f6.w (fun o k _ c => c.2.1)).tr (f.w (fun o k _ c => by have c1 := c.2; unfold xC0 at c1; unfold xSf xGF; omega)))
  have bad : ∀ h7 e, (a_bd (a_co (a_ne by8 L 200) (a_one (a_ne by8 L 200) (fun d => nm (8 + d)) (bk 1) 8) (fun _ => 0) 0 0 (a_lex by8 L 200 0)) fun v => if v.2.2.2.1 = 0 then Sum.inr (v.1, v.2.1, v.2.2.1) else Sum.inl (1, v.2.2.2.2.2.1)) = .inl e → x_fr (xSf so) h6 h7 → xF h7 e → Q (m1 - nI e.2, z_sI h7 9 1 (nI 0)) := fun h7 e q f g => by
    refine k0 _ e q (((fin h7 f).w (fun o k ho c => ⟨by omega, c⟩)).sI (fun _ => by unfold xC0; omega)) (q_Ie rfl rfl) ((q_In (by omega)).trans g.1)
  have rd := x_readCond h0 (by omega) hbo (x_readOne (by8 := by8) (L := L) (lim := 200) b N h0 (by omega) hbo 10 8 (by omega) (by omega)) (fun cf c o t v W q => a_one_r b.2.1 8 cf c o t v W q) (fun _ => 0) 0 0 h6 (a_lex by8 L 200 0)
  rw [show 9 - 8 = 1 from rfl] at rd
  refine rd _ (by omega) (by omega) ⟨fun i hi => absurd hi (Nat.not_lt_zero _), fun i hi => absurd hi (by omega)⟩ l6 S6 R6 (fun h7 e q f g => ?_) (fun h7 w q f l7 S7 => ?_)
  · have s7 := f.s s6
    simp (disch := first | assumption | omega) only [p_some, p_gd, p_br, p_bi, p_nm, p_mp, p_Sl, p_Sr, p_bis, p_gdt, Nat.not_lt_zero, Nat.reduceEqDiff, Nat.reduceLT, Nat.reduceLeDiff, true_and, and_true, true_implies, false_implies, not_true_eq_false, not_false_eq_true, implies_true, and_self, ne_eq, decide_true, decide_false, Bool.not_true, Bool.not_false, if_true, if_false, reduceIte, xk0 s7, xr0_0 s7, xk9 s7]
    have B7 := bad h7 e (by rw [q, a_bdl]) f g
    have g3 : z_I (z_sI h7 9 1 (nI 0)) 13 3 = nI e.2 := (q_In (by omega)).trans g.2
    have s8 : SX (z_sI h7 9 1 (nI 0)) := s7
    generalize z_sI h7 9 1 (nI 0) = h8 at *
    simp (disch := first | assumption | omega) only [p_some, p_gd, p_br, p_bi, p_nm, p_mp, p_Sl, p_Sr, p_bis, p_gdt, Nat.not_lt_zero, Nat.reduceEqDiff, Nat.reduceLT, Nat.reduceLeDiff, true_and, and_true, true_implies, false_implies, not_true_eq_false, not_false_eq_true, implies_true, and_self, ne_eq, decide_true, decide_false, Bool.not_true, Bool.not_false, if_true, if_false, reduceIte, xr0_2 s8, xk13 s8, g3, r_m1]
    exact B7
  · have s7 := l7.1
    simp (disch := first | assumption | omega) only [p_some, p_gd, p_br, p_bi, p_nm, p_mp, p_Sl, p_Sr, p_bis, p_gdt, Nat.not_lt_zero, Nat.reduceEqDiff, Nat.reduceLT, Nat.reduceLeDiff, true_and, and_true, true_implies, false_implies, not_true_eq_false, not_false_eq_true, implies_true, and_self, ne_eq, decide_true, decide_false, Bool.not_true, Bool.not_false, if_true, if_false, reduceIte, s_10, xk13 s7]
    refine x_takeEnd l7 (fun h9 c f9 g9 => ?_) (fun c => ?_)
    · have s9 := f9.s s7
      simp (disch := first | assumption | omega) only [p_some, p_gd, p_br, p_bi, p_nm, p_mp, p_Sl, p_Sr, p_bis, p_gdt, Nat.not_lt_zero, Nat.reduceEqDiff, Nat.reduceLT, Nat.reduceLeDiff, true_and, and_true, true_implies, false_implies, not_true_eq_false, not_false_eq_true, implies_true, and_self, ne_eq, decide_true, decide_false, Bool.not_true, Bool.not_false, if_true, if_false, reduceIte, xk0 s9, xr0_0 s9, xk9 s9]
      have B7 := bad h9 _ (by rw [q, a_bdr, if_neg c]) (f.tr (xSf.gf f9)) g9
      have g3 : z_I (z_sI h9 9 1 (nI 0)) 13 3 = nI w.2.2.2.2.2.1 := (q_In (by omega)).trans g9.2
      have s8 : SX (z_sI h9 9 1 (nI 0)) := s9
      generalize z_sI h9 9 1 (nI 0) = h8 at *
      simp (disch := first | assumption | omega) only [p_some, p_gd, p_br, p_bi, p_nm, p_mp, p_Sl, p_Sr, p_bis, p_gdt, Nat.not_lt_zero, Nat.reduceEqDiff, Nat.reduceLT, Nat.reduceLeDiff, true_and, and_true, true_implies, false_implies, not_true_eq_false, not_false_eq_true, implies_true, and_self, ne_eq, decide_true, decide_false, Bool.not_true, Bool.not_false, if_true, if_false, reduceIte, xr0_2 s8, xk13 s8, g3, r_m1]
      exact B7
    · simp (disch := first | assumption | omega) only [p_some, p_gd, p_br, p_bi, p_nm, p_mp, p_Sl, p_Sr, p_bis, p_gdt, Nat.not_lt_zero, Nat.reduceEqDiff, Nat.reduceLT, Nat.reduceLeDiff, true_and, and_true, true_implies, false_implies, not_true_eq_false, not_false_eq_true, implies_true, and_self, ne_eq, decide_true, decide_false, Bool.not_true, Bool.not_false, if_true, if_false, reduceIte, s_10, xk0 s7, xr0_0 s7, xk9 s7]
      rw [q, a_bdr, if_pos c] at k1
      have F8 : x_fr xC0 h (z_sI h7 9 1 (nI 0)) := ((fin h7 f).w (fun o k ho c => ⟨by omega, c⟩)).sI (fun _ => by unfold xC0; omega)
      have S8 : xSn (z_sI h7 9 1 (nI 0)) so bk w.1 w.2.1 w.2.2.1 := S7.fr (C := fun o k => o ≠ 9) h0 (x_fr.rf.sI (fun _ => by omega)) (fun k => by omega) (fun k => by omega) (by omega) (by omega)
      have s8 : SX (z_sI h7 9 1 (nI 0)) := s7
      have i9 : z_I (z_sI h7 9 1 (nI 0)) 9 1 = nI 0 := q_Ie rfl rfl
      have g8 : z_I (z_sI h7 9 1 (nI 0)) 13 8 = nI 0 := (q_In (by omega)).trans l7.2.2.2.2.2.2
      generalize z_sI h7 9 1 (nI 0) = h8 at *
      have hM : xM 14 2 := by unfold xM; omega
      simp (disch := first | assumption | omega) only [p_some, p_gd, p_br, p_bi, p_nm, p_mp, p_Sl, p_Sr, p_bis, p_gdt, Nat.not_lt_zero, Nat.reduceEqDiff, Nat.reduceLT, Nat.reduceLeDiff, true_and, and_true, true_implies, false_implies, not_true_eq_false, not_false_eq_true, implies_true, and_self, ne_eq, decide_true, decide_false, Bool.not_true, Bool.not_false, if_true, if_false, reduceIte, xr0_3 s8, xk14 s8, S8.1.1]
      have fA : x_fr (fun o k => o ≠ 14 ∨ k ≠ 2) h8 (z_sR h8 14 2 (some so)) := x_fr.rf.sR (fun _ => ⟨by omega, hM⟩)
      have e8 : z_I (z_sR h8 14 2 (some so)) so 4 = nI w.2.2.1 := S8.2.2.1
      rw [e8]
      exact k1 _ w.1 w.2.1 w.2.2.1 rfl ((F8.w (fun o k _ c => c.1)).tr (fA.w (fun o k _ c => c.2))) i9 g8 (q_Re rfl rfl) (S8.fr h0 fA (fun k => by omega) (fun k => by omega) (by omega) (by omega))
