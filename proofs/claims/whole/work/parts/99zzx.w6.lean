/-! nights of the class, the call -/
def xD0 (o k : Nat) : Prop := xC0 o k ∧ (o ≠ 79 ∨ (k ≠ 2 ∧ k ≠ 3)) ∧ o ≠ 80 ∧ o ≠ 81
def xD1 (o k : Nat) : Prop := xD0 o k ∧ (o ≠ 79 ∨ k < 4) ∧ (o < 64 ∨ 68 ≤ o)
theorem x_opNights {h : z_T} {L bo n : Nat} {by8 bk ans nm : Nat → Nat} {TB : Nat → Int32} {Q : Int32 × z_T → Prop} (W : xNow h bo bk ans n) (b : BOK bk) (N : NMO bk nm) (M : xNm h bo bk nm) (T : xTp h L TB) (hT : ∀ i, i < L → TB i = a_sb (by8 i)) (hb : BY L by8)
    (k0 : ∀ h' e, a_ntr by8 L bk nm = .inl e → x_fr xD0 h h' → z_I h' 9 1 = nI 0 → z_I h' 13 8 = nI e.1 → Q (-nI 2 - nI e.2, h')) (k1 : ∀ h' w, a_ntr by8 L bk nm = .inr w → x_fr xD1 h h' → z_I h' 9 1 = nI 0 → z_I h' 13 8 = nI 0 → z_I h' 79 5 = nI (a_ntj bk w).2.1 → z_I h' 79 6 = nI (a_ntj bk w).2.2.2.2.2.1 → z_I h' 79 7 = nI (a_ntj bk w).2.2.2.2.2.2 → Q (a_jI (a_ntj bk w).1, h')) : p_W (fX11_nights 0 h) Q := by
  obtain ⟨s, NN, hbo⟩ := W
  have h0 := s.1
  have R : xBN h bo bk nm := ⟨NN.2.2.1, M⟩
  have rb := NN.2.1
  unfold fX11_nights
  simp (disch := first | assumption | omega) only [p_some, p_gd, p_br, p_bi, p_nm, p_mp, p_Sl, p_Sr, p_bis, p_gdt, Nat.not_lt_zero, Nat.reduceEqDiff, Nat.reduceLT, Nat.reduceLeDiff, true_and, and_true, true_implies, false_implies, not_true_eq_false, not_false_eq_true, implies_true, and_self, ne_eq, decide_true, decide_false, Bool.not_true, Bool.not_false, if_true, if_false, reduceIte, xk0 s, xr0_2 s, xk13 s, r_lit]
  refine x_openL s T hT hb (show 400 ≤ 900 by omega) (fun h6 f6 l6 => ?_)
  have s6 := l6.1
  have h06 := s6.1
  have R6 := R.fr hbo f6 (fun j k hj => by omega)
  have rb6 : z_R h6 15 0 = some bo := (f6.R 15 0 (by omega) (by omega)).trans rb
  simp (disch := first | assumption | omega) only [p_some, p_gd, p_br, p_bi, p_nm, p_mp, p_Sl, p_Sr, p_bis, p_gdt, Nat.not_lt_zero, Nat.reduceEqDiff, Nat.reduceLT, Nat.reduceLeDiff, true_and, and_true, true_implies, false_implies, not_true_eq_false, not_false_eq_true, implies_true, and_self, ne_eq, decide_true, decide_false, Bool.not_true, Bool.not_false, if_true, if_false, reduceIte, xk0 s6, xr0_8 s6, xr0_2 s6, xr0_3 s6, xk14 s6, xr14_0 s6, xo_0 (s6.st (Or.inl rfl)).2.2, rb6, xk79 s6]
  refine x_readLines b N hbo l6 R6 (fun h7 e q f g => ?_) (fun h7 w q f g8 g2 rd => ?_)
  · have s7 := f.s s6
    have F7 : x_fr xD0 h (z_sI h7 9 1 (nI 0)) := ((f6.w (fun o k _ c => by unfold xD0 xC0 at c; omega)).tr (f.w (fun o k _ c => by unfold xD0 xC0 at c; unfold xNg xGF; omega))).sI (fun _ => by unfold xD0 xC0; omega)
    have B7 := k0 (z_sI h7 9 1 (nI 0)) e q F7 (q_Ie rfl rfl) ((q_In (by omega)).trans g.1)
    have g3 : z_I (z_sI h7 9 1 (nI 0)) 13 3 = nI e.2 := (q_In (by omega)).trans g.2
    have s8 : SX (z_sI h7 9 1 (nI 0)) := s7
    simp (disch := first | assumption | omega) only [p_some, p_gd, p_br, p_bi, p_nm, p_mp, p_Sl, p_Sr, p_bis, p_gdt, Nat.not_lt_zero, Nat.reduceEqDiff, Nat.reduceLT, Nat.reduceLeDiff, true_and, and_true, true_implies, false_implies, not_true_eq_false, not_false_eq_true, implies_true, and_self, ne_eq, decide_true, decide_false, Bool.not_true, Bool.not_false, if_true, if_false, reduceIte, xk0 s7, xr0_0 s7, xk9 s7, r_lit]
    generalize z_sI h7 9 1 (nI 0) = h8 at *
    simp (disch := first | assumption | omega) only [p_some, p_gd, p_br, p_bi, p_nm, p_mp, p_Sl, p_Sr, p_bis, p_gdt, Nat.not_lt_zero, Nat.reduceEqDiff, Nat.reduceLT, Nat.reduceLeDiff, true_and, and_true, true_implies, false_implies, not_true_eq_false, not_false_eq_true, implies_true, and_self, ne_eq, decide_true, decide_false, Bool.not_true, Bool.not_false, if_true, if_false, reduceIte, xr0_2 s8, xk13 s8, g3, r_lit]
    exact B7
  · have s7 := f.s s6
    have h07 := s7.1
    obtain ⟨asked, W⟩ := a_ntr_ok q
    have F7 : x_fr xD0 h (z_sI h7 9 1 (nI 0)) := ((f6.w (fun o k _ c => by unfold xD0 xC0 at c; omega)).tr (f.w (fun o k _ c => by unfold xD0 xC0 at c; unfold xNg xGF; omega))).sI (fun _ => by unfold xD0 xC0; omega)
    have y1 : z_I (z_sI h7 9 1 (nI 0)) 9 1 = nI 0 := q_Ie rfl rfl
    have y8 : z_I (z_sI h7 9 1 (nI 0)) 13 8 = nI 0 := (q_In (by omega)).trans g8
    have y2 : z_I (z_sI h7 9 1 (nI 0)) 79 2 = nI w.1 := (q_In (by omega)).trans g2
    have rd8 : xRd (z_sI h7 9 1 (nI 0)) w.2.1 w.2.2 w.1 := fun i hi => ⟨(q_In (by omega)).trans (rd i hi).1, (q_In (by omega)).trans (rd i hi).2⟩
    have s8 : SX (z_sI h7 9 1 (nI 0)) := s7
    have R8 := R.fr hbo F7 (fun j k hj => by unfold xD0 xC0; omega)
    have rb8 : z_R (z_sI h7 9 1 (nI 0)) 15 0 = some bo := (F7.R 15 0 (by omega) (by unfold xD0 xC0; omega)).trans rb
    simp (disch := first | assumption | omega) only [p_some, p_gd, p_br, p_bi, p_nm, p_mp, p_Sl, p_Sr, p_bis, p_gdt, Nat.not_lt_zero, Nat.reduceEqDiff, Nat.reduceLT, Nat.reduceLeDiff, true_and, and_true, true_implies, false_implies, not_true_eq_false, not_false_eq_true, implies_true, and_self, ne_eq, decide_true, decide_false, Bool.not_true, Bool.not_false, if_true, if_false, reduceIte, xk0 s7, xr0_0 s7, xk9 s7, s_10]
    generalize z_sI h7 9 1 (nI 0) = h8 at *
    simp (disch := first | assumption | omega) only [p_some, p_gd, p_br, p_bi, p_nm, p_mp, p_Sl, p_Sr, p_bis, p_gdt, Nat.not_lt_zero, Nat.reduceEqDiff, Nat.reduceLT, Nat.reduceLeDiff, true_and, and_true, true_implies, false_implies, not_true_eq_false, not_false_eq_true, implies_true, and_self, ne_eq, decide_true, decide_false, Bool.not_true, Bool.not_false, if_true, if_false, reduceIte, xk0 s8, xr0_6 s8, xr0_3 s8, xk14 s8, xr14_0 s8, xo_0 (s8.st (Or.inl rfl)).2.2, rb8, xk64 s8]
    refine x_begin (ans := fun _ => 0) b (xns64 s8) R8.1 (by unfold isN; omega) hbo (fun h9 f9 N9 => ?_)
    have s9 := f9.s s8
    have h08 := s8.1
    have h09 := s9.1
    simp (disch := first | assumption | omega) only [p_some, p_gd, p_br, p_bi, p_nm, p_mp, p_Sl, p_Sr, p_bis, p_gdt, Nat.not_lt_zero, Nat.reduceEqDiff, Nat.reduceLT, Nat.reduceLeDiff, true_and, and_true, true_implies, false_implies, not_true_eq_false, not_false_eq_true, implies_true, and_self, ne_eq, decide_true, decide_false, Bool.not_true, Bool.not_false, if_true, if_false, reduceIte, xk0 s9, xr0_8 s9, xr0_6 s9, xk79 s9]
    unfold fX3_judge fX3_judge_b17
    simp (disch := first | assumption | omega) only [p_some, p_gd, p_br, p_bi, p_nm, p_mp, p_Sl, p_Sr, p_bis, p_gdt, Nat.not_lt_zero, Nat.reduceEqDiff, Nat.reduceLT, Nat.reduceLeDiff, true_and, and_true, true_implies, false_implies, not_true_eq_false, not_false_eq_true, implies_true, and_self, ne_eq, decide_true, decide_false, Bool.not_true, Bool.not_false, if_true, if_false, reduceIte, xk79 s9, r_lit]
    have f10 : x_fr (fun o k => o ≠ 79 ∨ k < 5) h9 (z_sI (z_sI (z_sI h9 79 5 (nI 0)) 79 6 (nI 0)) 79 7 (nI 0)) := ((x_fr.rf.sI (fun _ => by omega)).sI (fun _ => by omega)).sI (fun _ => by omega)
    have i5 : z_I (z_sI (z_sI (z_sI h9 79 5 (nI 0)) 79 6 (nI 0)) 79 7 (nI 0)) 79 5 = nI 0 := by rw [q_In (by omega), q_In (by omega), q_Ie rfl rfl]
    have i6 : z_I (z_sI (z_sI (z_sI h9 79 5 (nI 0)) 79 6 (nI 0)) 79 7 (nI 0)) 79 6 = nI 0 := by rw [q_In (by omega), q_Ie rfl rfl]
    have i7 : z_I (z_sI (z_sI (z_sI h9 79 5 (nI 0)) 79 6 (nI 0)) 79 7 (nI 0)) 79 7 = nI 0 := q_Ie rfl rfl
    have N10 : xNi (z_sI (z_sI (z_sI h9 79 5 (nI 0)) 79 6 (nI 0)) 79 7 (nI 0)) 64 bo bk (fun _ => 0) 0 := N9.fr f10 (by unfold isN; omega) hbo (fun j k hj => by omega) (fun j k hj => by omega)
    have s10 : SX (z_sI (z_sI (z_sI h9 79 5 (nI 0)) 79 6 (nI 0)) 79 7 (nI 0)) := s9
    generalize z_sI (z_sI (z_sI h9 79 5 (nI 0)) 79 6 (nI 0)) 79 7 (nI 0) = h10 at *
    have g10 : ∀ o k, o = 79 ∨ o = 80 ∨ o = 81 ∨ o = 9 ∨ o = 13 → k < 5 ∨ o ≠ 79 → z_I h10 o k = z_I h8 o k := fun o k ho hk => (f10.I o k (by omega) (by omega)).trans (f9.I o k (by omega) (by unfold nC; omega))
    refine x_jgLoop b hbo W w.1 h10 0 (0, 0, (fun _ => 0), 0, 0) (by omega) ⟨Nat.zero_le _, Nat.zero_le _, fun q => absurd rfl q⟩ s10 N10 (fun i hi => ⟨(g10 80 i (by omega) (by omega)).trans (rd8 i hi).1, (g10 81 i (by omega) (by omega)).trans (rd8 i hi).2⟩) ((g10 79 2 (by omega) (by omega)).trans y2) i5 i6 i7 (fun q => absurd rfl q) (fun h11 f11 a0 a1 a2 => ?_)
    simp (disch := first | assumption | omega) only [p_some, p_gd, p_br, p_bi, p_nm, p_mp, p_Sl, p_Sr, p_bis, p_gdt, Nat.not_lt_zero, Nat.reduceEqDiff, Nat.reduceLT, Nat.reduceLeDiff, true_and, and_true, true_implies, false_implies, not_true_eq_false, not_false_eq_true, implies_true, and_self, ne_eq, decide_true, decide_false, Bool.not_true, Bool.not_false, if_true, if_false, reduceIte]
    have h010 := s10.1
    exact k1 h11 w q ((F7.w (fun o k _ c => c.1)).tr ((f9.w (fun o k _ c => by unfold xD1 xD0 xC0 at c; unfold nC; omega)).tr ((f10.w (fun o k _ c => by unfold xD1 xD0 xC0 at c; omega)).tr (f11.w (fun o k _ c => by unfold xD1 xD0 xC0 at c; unfold xJg xJf nC; omega))))) ((f11.I 9 1 (by omega) (by unfold xJg xJf nC; omega)).trans ((g10 9 1 (by omega) (by omega)).trans y1)) ((f11.I 13 8 (by omega) (by unfold xJg xJf nC; omega)).trans ((g10 13 8 (by omega) (by omega)).trans y8)) a0 a1 a2
