/-! the class opens its plan -/
theorem a_mk_0 : a_mk 0 = 0 := by decide
theorem a_q_0 {bk : Nat → Nat} {q : Nat} : a_q bk 0 q = a_w bk q := by
  have h : a_qp bk 0 q 6 = 1 := rfl
  unfold a_q
  rw [h, Nat.mul_one]
theorem x_open {h : z_T} {bo n : Nat} {bk : Nat → Nat} {Q : z_T → Prop} (s : SX h) (b : BOK bk) (B : xBk h bo bk) (hb : bo = 1 ∨ 83 ≤ bo) (hn : n ≤ 4) (hb0 : bk 0 ≤ 6)
    (k : ∀ h', x_fr (fun o _ => o < 68 ∨ 79 ≤ o) h h' → xPl h' bo bk → xKI h' bk n → ¬ z_I h' 78 0 = nI 0 → Q h') : p_W (fX5_open 68 bo (nI n) h) Q := by
  have h0 := s.1
  unfold fX5_open
  simp (disch := first | assumption | omega) only [p_some, p_gd, p_br, p_bi, p_nm, p_mp, p_Sl, p_Sr, p_bis, p_gdt, q_IL, q_IR, q_LI, q_LR, q_RI, q_RL, q_KI, q_KL, q_KR, q_NI, q_NL, q_NR, q_nI, q_nL, q_nR, q_okI, q_okL, q_okR, q_Ie, q_In, q_Le, q_Ln, SM_I, SM_L, s_c0, s_cg0, s_cl0, s_cge, s_cle, r_le, r_lt, r_eq, r_md, r_2, r_3, r_lit, r_litL, r_m1, nI_add, nI_1, nI_clamp, nI_leI, nI_ltI, nI_eq, pk_sub, q_ix, nI_l, lN_add, lN_mul, r_m1n, r_m1n', r_m1lt, r_m1nlt, r_m1le, r_m1nle, Nat.not_lt_zero, Nat.reduceEqDiff, Nat.reduceLT, Nat.reduceLeDiff, true_and, and_true, true_implies, false_implies, not_true_eq_false, not_false_eq_true, implies_true, and_self, ne_eq, decide_true, decide_false, Bool.not_true, Bool.not_false, if_true, if_false, reduceIte, xb_0, xb_1, xb_2, xb_3, xb_4, xb_5, xb_6, xb_7, xb_8, xb_9, xb_10, xb_11, xb_12, xb_13, xb_14, xb_15, xb_16, xb_17, xb_18, xb_19, xb_20, xb_21, xo_0, xo_1, xo_2, xo_3, xo_4, xo_5, xo_6, xo_7, xo_8, xo_9, xk68 s, xb_0 B.1]
  have f1 : x_fr (fun o _ => o < 68 ∨ 79 ≤ o) h (z_sR h 68 5 (some bo)) := x_fr.rf.sR (fun _ => ⟨by omega, by unfold xM; omega⟩)
  have P1 : xPl (z_sR h 68 5 (some bo)) bo bk := ⟨q_Re rfl rfl, B.fr f1 hb (fun j k hj => by omega), hb⟩
  have s1 := f1.s s
  generalize z_sR h 68 5 (some bo) = h1 at f1 P1 s1 ⊢
  unfold fX5_open_b7
  refine p_for 729 (fun j w => w.1 = nI j ∧ x_fr (fun o _ => o ≠ 78) h1 w.2 ∧ ∀ y, y < j → z_I w.2 78 y = nI 0) ?_ ?_ 0 (by omega) ⟨rfl, x_fr.rf, fun y hy => absurd hy (by omega)⟩
  · rintro j ⟨x, h2⟩ hj ⟨e1, f2, g⟩
    dsimp only at e1 f2 g
    subst e1
    have s2 := f2.s s1
    unfold fX5_open_b7_i
    simp (disch := first | assumption | omega) only [p_some, p_gd, p_br, p_bi, p_nm, p_mp, p_Sl, p_Sr, p_bis, p_gdt, q_IL, q_IR, q_LI, q_LR, q_RI, q_RL, q_KI, q_KL, q_KR, q_NI, q_NL, q_NR, q_nI, q_nL, q_nR, q_okI, q_okL, q_okR, q_Ie, q_In, q_Le, q_Ln, SM_I, SM_L, s_c0, s_cg0, s_cl0, s_cge, s_cle, r_le, r_lt, r_eq, r_md, r_2, r_3, r_lit, r_litL, r_m1, nI_add, nI_1, nI_clamp, nI_leI, nI_ltI, nI_eq, pk_sub, q_ix, nI_l, lN_add, lN_mul, r_m1n, r_m1n', r_m1lt, r_m1nlt, r_m1le, r_m1nle, Nat.not_lt_zero, Nat.reduceEqDiff, Nat.reduceLT, Nat.reduceLeDiff, true_and, and_true, true_implies, false_implies, not_true_eq_false, not_false_eq_true, implies_true, and_self, ne_eq, decide_true, decide_false, Bool.not_true, Bool.not_false, if_true, if_false, reduceIte, xb_0, xb_1, xb_2, xb_3, xb_4, xb_5, xb_6, xb_7, xb_8, xb_9, xb_10, xb_11, xb_12, xb_13, xb_14, xb_15, xb_16, xb_17, xb_18, xb_19, xb_20, xb_21, xo_0, xo_1, xo_2, xo_3, xo_4, xo_5, xo_6, xo_7, xo_8, xo_9, xk68 s2, xr68_4 s2, xk78 s2, xn78 s2, s_nar0, show ¬ 729 ≤ j by omega]
    refine ⟨f2.sI (fun _ => by omega), fun y hy => ?_⟩
    by_cases e : y = j
    · rw [q_Ie rfl e]
    · rw [q_In (by omega)]; exact g y (by omega)
  · rintro ⟨x, h2⟩ ⟨e1, f2, g⟩
    dsimp only at e1 f2 g
    subst e1
    have s2 := f2.s s1
    have h01 := s1.1
    have P2 := P1.fr s1 f2 (by omega) (fun j k hj => by omega)
    unfold fX5_open_b7_i
    simp (disch := first | assumption | omega) only [p_some, p_gd, p_br, p_bi, p_nm, p_mp, p_Sl, p_Sr, p_bis, p_gdt, q_IL, q_IR, q_LI, q_LR, q_RI, q_RL, q_KI, q_KL, q_KR, q_NI, q_NL, q_NR, q_nI, q_nL, q_nR, q_okI, q_okL, q_okR, q_Ie, q_In, q_Le, q_Ln, SM_I, SM_L, s_c0, s_cg0, s_cl0, s_cge, s_cle, r_le, r_lt, r_eq, r_md, r_2, r_3, r_lit, r_litL, r_m1, nI_add, nI_1, nI_clamp, nI_leI, nI_ltI, nI_eq, pk_sub, q_ix, nI_l, lN_add, lN_mul, r_m1n, r_m1n', r_m1lt, r_m1nlt, r_m1le, r_m1nle, Nat.not_lt_zero, Nat.reduceEqDiff, Nat.reduceLT, Nat.reduceLeDiff, true_and, and_true, true_implies, false_implies, not_true_eq_false, not_false_eq_true, implies_true, and_self, ne_eq, decide_true, decide_false, Bool.not_true, Bool.not_false, if_true, if_false, reduceIte, xb_0, xb_1, xb_2, xb_3, xb_4, xb_5, xb_6, xb_7, xb_8, xb_9, xb_10, xb_11, xb_12, xb_13, xb_14, xb_15, xb_16, xb_17, xb_18, xb_19, xb_20, xb_21, xo_0, xo_1, xo_2, xo_3, xo_4, xo_5, xo_6, xo_7, xo_8, xo_9, xk68 s2, xr68_4 s2, xk78 s2, xn78 s2, Nat.le_refl]
    unfold fX5_open_b31
    refine p_for 7 (fun j w => w.1 = nI j ∧ x_fr (fun o _ => o ≠ 70) h2 w.2 ∧ ∀ q, q < j → z_L w.2 70 q = lN (a_w bk q)) ?_ ?_ 0 (by omega) ⟨rfl, x_fr.rf, fun y hy => absurd hy (by omega)⟩
    · rintro j ⟨x, h3⟩ hj ⟨e1, f3, g3⟩
      dsimp only at e1 f3 g3
      subst e1
      have h02 := s2.1
      have s3 := f3.s s2
      have P3 := P2.fr s2 f3 (by omega) (fun j k hj => by omega)
      have r1 := P3.1
      have hw := b.w (q := j) (by omega)
      unfold fX5_open_b31_i
      simp (disch := first | assumption | omega) only [p_some, p_gd, p_br, p_bi, p_nm, p_mp, p_Sl, p_Sr, p_bis, p_gdt, q_IL, q_IR, q_LI, q_LR, q_RI, q_RL, q_KI, q_KL, q_KR, q_NI, q_NL, q_NR, q_nI, q_nL, q_nR, q_okI, q_okL, q_okR, q_Ie, q_In, q_Le, q_Ln, SM_I, SM_L, s_c0, s_cg0, s_cl0, s_cge, s_cle, r_le, r_lt, r_eq, r_md, r_2, r_3, r_lit, r_litL, r_m1, nI_add, nI_1, nI_clamp, nI_leI, nI_ltI, nI_eq, pk_sub, q_ix, nI_l, lN_add, lN_mul, r_m1n, r_m1n', r_m1lt, r_m1nlt, r_m1le, r_m1nle, Nat.not_lt_zero, Nat.reduceEqDiff, Nat.reduceLT, Nat.reduceLeDiff, true_and, and_true, true_implies, false_implies, not_true_eq_false, not_false_eq_true, implies_true, and_self, ne_eq, decide_true, decide_false, Bool.not_true, Bool.not_false, if_true, if_false, reduceIte, xb_0, xb_1, xb_2, xb_3, xb_4, xb_5, xb_6, xb_7, xb_8, xb_9, xb_10, xb_11, xb_12, xb_13, xb_14, xb_15, xb_16, xb_17, xb_18, xb_19, xb_20, xb_21, xo_0, xo_1, xo_2, xo_3, xo_4, xo_5, xo_6, xo_7, xo_8, xo_9, xk68 s3, xr68_0 s3, xk69 s3, xn69 s3, xr69_0 s3, r1, xb_0 P3.2.1.1, x_weightOf P3.2.1, xk70 s3, xn70 s3, show ¬ 7 ≤ j by omega]
      refine ⟨f3.sL (fun _ => by omega), fun q hq => ?_⟩
      by_cases e : q = j
      · rw [q_Le rfl e, e]
      · rw [q_Ln (by omega)]; exact g3 q (by omega)
    · rintro ⟨x, h3⟩ ⟨e1, f3, g3⟩
      dsimp only at e1 f3 g3
      subst e1
      have h02 := s2.1
      have s3 := f3.s s2
      have P3 := P2.fr s2 f3 (by omega) (fun j k hj => by omega)
      have K3 : xKI h3 bk n := fun y hy hk => by
        rw [f3.I 78 y (by omega) (by omega), g y hy] at hk
        exact absurd rfl hk
      have R3 : xRw h3 bk 0 := fun q hq => by
        rw [a_aq_0, a_q_0]
        exact g3 q hq
      have c6 := x_choose (bo := bo) b hn hb0 6 n (by omega) h3 0 Q (by rw [a_aq_0]; omega) (by omega) s3 P3 R3 K3 (fun h4 f4 K4 _ k4 => by
        have g4 : x_fr (fun o _ => o < 68 ∨ 79 ≤ o) h h4 := f1.tr ((f2.w (fun o k _ c => by omega)).tr ((f3.w (fun o k _ c => by omega)).tr (f4.w (fun o k _ c => by unfold xCc; omega))))
        exact k h4 g4 (P3.fr s3 f4 (by unfold xCc; rw [a_aq_0]; omega) (fun j k hj => by unfold xCc; rw [a_aq_0]; omega)) K4 k4)
      rw [a_mk_0] at c6
      unfold fX5_open_b31_i
      rw [p_brT (show (7 : Int32) ≤ nI 7 by decide)]
      simp (disch := first | assumption | omega) only [p_some, p_gd, p_br, p_bi, p_nm, p_mp, p_Sl, p_Sr, p_bis, p_gdt, Nat.not_lt_zero, Nat.reduceEqDiff, Nat.reduceLT, Nat.reduceLeDiff, true_and, and_true, true_implies, false_implies, not_true_eq_false, not_false_eq_true, implies_true, and_self, ne_eq, decide_true, decide_false, Bool.not_true, Bool.not_false, if_true, if_false, reduceIte, xk68 s3, r_lit]
      exact c6
