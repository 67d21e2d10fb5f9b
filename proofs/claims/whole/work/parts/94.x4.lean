/-! a night of the class: begun, copied, drawn -/
theorem x_begin {h : z_T} {o bo : Nat} {bk ans : Nat → Nat} {Q : z_T → Prop} (b : BOK bk) (s : xNs h o) (B : xBk h bo bk) (ho : isN o) (hb : bo = 1 ∨ 83 ≤ bo)
    (k : ∀ h', x_fr (fun a k => nC o a k ∧ (a ≠ o ∨ k ≠ 0)) h h' → xNi h' o bo bk ans 0 → Q h') : p_W (fX2_begin o bo h) Q := by
  have hd : bo + 7 < o ∨ o + 3 < bo := by unfold isN at ho; omega
  unfold fX2_begin
  simp (disch := first | assumption | omega) only [p_some, p_gd, p_br, p_bi, p_nm, p_mp, p_Sl, p_Sr, p_bis, p_gdt, q_IL, q_IR, q_LI, q_LR, q_RI, q_RL, q_KI, q_KL, q_KR, q_NI, q_NL, q_NR, q_nI, q_nL, q_nR, q_okI, q_okL, q_okR, q_Ie, q_In, q_Le, q_Ln, SM_I, SM_L, s_c0, s_cg0, s_cl0, s_cge, s_cle, r_le, r_lt, r_eq, r_md, r_2, r_3, r_lit, r_litL, r_m1, nI_add, nI_1, nI_clamp, nI_leI, nI_ltI, nI_eq, pk_sub, q_ix, nI_l, lN_add, lN_mul, r_m1n, r_m1n', r_m1lt, r_m1nlt, r_m1le, r_m1nle, Nat.not_lt_zero, Nat.reduceEqDiff, Nat.reduceLT, Nat.reduceLeDiff, true_and, and_true, true_implies, false_implies, not_true_eq_false, not_false_eq_true, implies_true, and_self, ne_eq, decide_true, decide_false, Bool.not_true, Bool.not_false, if_true, if_false, reduceIte, xb_0, xb_1, xb_2, xb_3, xb_4, xb_5, xb_6, xb_7, xb_8, xb_9, xb_10, xb_11, xb_12, xb_13, xb_14, xb_15, xb_16, xb_17, xb_18, xb_19, xb_20, xb_21, xo_0, xo_1, xo_2, xo_3, xo_4, xo_5, xo_6, xo_7, xo_8, xo_9, xo_0 s, xb_0 B.1]
  have f0 : x_fr (fun a k => a ≠ o ∨ (k ≠ 0 ∧ k ≠ 1)) h (z_sI (z_sR h o 0 (some bo)) o 1 (nI 0)) := (x_fr.rf.sR (fun _ => ⟨by omega, by unfold isN at ho; unfold xM; omega⟩)).sI (fun _ => by omega)
  have r0 : z_R (z_sI (z_sR h o 0 (some bo)) o 1 (nI 0)) o 0 = some bo := by simp (disch := first | assumption | omega) only [q_IL, q_IR, q_LI, q_LR, q_RI, q_RL, q_KI, q_KL, q_KR, q_NI, q_NL, q_NR, q_nI, q_nL, q_nR, q_okI, q_okL, q_okR, q_Ie, q_In, q_Le, q_Ln, SM_I, SM_L, s_c0, s_cg0, s_cl0, s_cge, s_cle, r_le, r_lt, r_eq, r_md, r_2, r_3, r_lit, r_litL, r_m1, nI_add, nI_1, nI_clamp, nI_leI, nI_ltI, nI_eq, pk_sub, q_ix, nI_l, lN_add, lN_mul, r_m1n, r_m1n', r_m1lt, r_m1nlt, r_m1le, r_m1nle, Nat.not_lt_zero, Nat.reduceEqDiff, Nat.reduceLT, Nat.reduceLeDiff, true_and, and_true, true_implies, false_implies, not_true_eq_false, not_false_eq_true, implies_true, and_self, ne_eq, decide_true, decide_false, Bool.not_true, Bool.not_false, if_true, if_false, reduceIte, mk0, mk1, mk2, mk3, mk4, mk5, mk6, mk7, mk8, mk9, mk10, mk11, mk12, mk13, mk14, mk15, mk16, mk17, mk18, mk19, mk20, mk21, mk22, mn1, mn2, mn3, mn4, mn5, mn6, mn7, mn8, mn9, mn10, mn11, mn12, mn13, mn14, mn15, mn16, mn17, mn18, mn19, mn20, mn21, mn22, mr1, mr6, mr7, mr8, mr9, mr10, mr21, mr22, mr23, mr25, mr26, mr29, mr30, mr32, mr33, mr34, mr43, mr47, mr53, mr54, mr55, mr56, q_Re]
  have i0 : z_I (z_sI (z_sR h o 0 (some bo)) o 1 (nI 0)) o 1 = nI 0 := q_Ie rfl rfl
  generalize z_sI (z_sR h o 0 (some bo)) o 1 (nI 0) = h0 at f0 r0 i0 ⊢
  have s0 := s.fr f0 ho
  have B0 : xBk h0 bo bk := B.fr f0 hb (fun j k hj => by omega)
  unfold fX2_begin_b12
  refine p_for 8 (fun j w => w.1 = nI j ∧ x_fr (fun a k => a ≠ o + 2) h0 w.2 ∧ ∀ q, q < j → z_I w.2 (o + 2) q = nI 0) ?_ ?_ 0 (by omega) ⟨rfl, x_fr.rf, fun j hj => absurd hj (by omega)⟩
  · rintro j ⟨x, h1⟩ hj ⟨e1, f, g1⟩
    dsimp only at e1 f g1
    subst e1
    have s1 := s0.fr f ho
    unfold fX2_begin_b12_i
    simp (disch := first | assumption | omega) only [p_some, p_gd, p_br, p_bi, p_nm, p_mp, p_Sl, p_Sr, p_bis, p_gdt, q_IL, q_IR, q_LI, q_LR, q_RI, q_RL, q_KI, q_KL, q_KR, q_NI, q_NL, q_NR, q_nI, q_nL, q_nR, q_okI, q_okL, q_okR, q_Ie, q_In, q_Le, q_Ln, SM_I, SM_L, s_c0, s_cg0, s_cl0, s_cge, s_cle, r_le, r_lt, r_eq, r_md, r_2, r_3, r_lit, r_litL, r_m1, nI_add, nI_1, nI_clamp, nI_leI, nI_ltI, nI_eq, pk_sub, q_ix, nI_l, lN_add, lN_mul, r_m1n, r_m1n', r_m1lt, r_m1nlt, r_m1le, r_m1nle, Nat.not_lt_zero, Nat.reduceEqDiff, Nat.reduceLT, Nat.reduceLeDiff, true_and, and_true, true_implies, false_implies, not_true_eq_false, not_false_eq_true, implies_true, and_self, ne_eq, decide_true, decide_false, Bool.not_true, Bool.not_false, if_true, if_false, reduceIte, xb_0, xb_1, xb_2, xb_3, xb_4, xb_5, xb_6, xb_7, xb_8, xb_9, xb_10, xb_11, xb_12, xb_13, xb_14, xb_15, xb_16, xb_17, xb_18, xb_19, xb_20, xb_21, xo_0, xo_1, xo_2, xo_3, xo_4, xo_5, xo_6, xo_7, xo_8, xo_9, xo_0 s1, xo_2 s1, xo_6 s1, xo_7 s1, show ¬ 8 ≤ j by omega]
    refine ⟨f.sI (fun _ => by omega), fun q hq => ?_⟩
    by_cases c : q = j
    · rw [q_Ie rfl c]
    · rw [q_In (by omega)]; exact g1 q (by omega)
  · rintro ⟨x, h1⟩ ⟨e1, f, g1⟩
    dsimp only at e1 f g1
    subst e1
    have s1 := s0.fr f ho
    unfold fX2_begin_b12_i
    simp (disch := first | assumption | omega) only [p_some, p_gd, p_br, p_bi, p_nm, p_mp, p_Sl, p_Sr, p_bis, p_gdt, q_IL, q_IR, q_LI, q_LR, q_RI, q_RL, q_KI, q_KL, q_KR, q_NI, q_NL, q_NR, q_nI, q_nL, q_nR, q_okI, q_okL, q_okR, q_Ie, q_In, q_Le, q_Ln, SM_I, SM_L, s_c0, s_cg0, s_cl0, s_cge, s_cle, r_le, r_lt, r_eq, r_md, r_2, r_3, r_lit, r_litL, r_m1, nI_add, nI_1, nI_clamp, nI_leI, nI_ltI, nI_eq, pk_sub, q_ix, nI_l, lN_add, lN_mul, r_m1n, r_m1n', r_m1lt, r_m1nlt, r_m1le, r_m1nle, Nat.not_lt_zero, Nat.reduceEqDiff, Nat.reduceLT, Nat.reduceLeDiff, true_and, and_true, true_implies, false_implies, not_true_eq_false, not_false_eq_true, implies_true, and_self, ne_eq, decide_true, decide_false, Bool.not_true, Bool.not_false, if_true, if_false, reduceIte, xb_0, xb_1, xb_2, xb_3, xb_4, xb_5, xb_6, xb_7, xb_8, xb_9, xb_10, xb_11, xb_12, xb_13, xb_14, xb_15, xb_16, xb_17, xb_18, xb_19, xb_20, xb_21, xo_0, xo_1, xo_2, xo_3, xo_4, xo_5, xo_6, xo_7, xo_8, xo_9, xo_0 s1, xo_2 s1, xo_6 s1, xo_7 s1, Nat.le_refl]
    unfold fX2_begin_b36
    refine p_for 7 (fun j w => w.1 = nI j ∧ x_fr (fun a k => a ≠ o + 2 ∧ a ≠ o + 3) h0 w.2 ∧ (∀ q, q < 8 → z_I w.2 (o + 2) q = nI 0) ∧ ∀ q, q < j → z_L w.2 (o + 3) q = lN (a_w bk q)) ?_ ?_ 0 (by omega) ⟨rfl, f.w (fun a k _ c => c.1), g1, fun j hj => absurd hj (by omega)⟩
    · rintro j ⟨x, h2⟩ hj ⟨e1, f2, g2, g3⟩
      dsimp only at e1 f2 g2 g3
      subst e1
      have s2 := s0.fr f2 ho
      have B2 : xBk h2 bo bk := B0.fr f2 hb (fun j k hj => by omega)
      have r2 : z_R h2 o 0 = some bo := (f2.R _ _ (z_ok_lt (xo_0 s0)) (by omega)).trans r0
      have hw : a_w bk j < 2 ^ 31 := by
        have := b.w hj
        omega
      unfold fX2_begin_b36_i
      simp (disch := first | assumption | omega) only [p_some, p_gd, p_br, p_bi, p_nm, p_mp, p_Sl, p_Sr, p_bis, p_gdt, q_IL, q_IR, q_LI, q_LR, q_RI, q_RL, q_KI, q_KL, q_KR, q_NI, q_NL, q_NR, q_nI, q_nL, q_nR, q_okI, q_okL, q_okR, q_Ie, q_In, q_Le, q_Ln, SM_I, SM_L, s_c0, s_cg0, s_cl0, s_cge, s_cle, r_le, r_lt, r_eq, r_md, r_2, r_3, r_lit, r_litL, r_m1, nI_add, nI_1, nI_clamp, nI_leI, nI_ltI, nI_eq, pk_sub, q_ix, nI_l, lN_add, lN_mul, r_m1n, r_m1n', r_m1lt, r_m1nlt, r_m1le, r_m1nle, Nat.not_lt_zero, Nat.reduceEqDiff, Nat.reduceLT, Nat.reduceLeDiff, true_and, and_true, true_implies, false_implies, not_true_eq_false, not_false_eq_true, implies_true, and_self, ne_eq, decide_true, decide_false, Bool.not_true, Bool.not_false, if_true, if_false, reduceIte, xb_0, xb_1, xb_2, xb_3, xb_4, xb_5, xb_6, xb_7, xb_8, xb_9, xb_10, xb_11, xb_12, xb_13, xb_14, xb_15, xb_16, xb_17, xb_18, xb_19, xb_20, xb_21, xo_0, xo_1, xo_2, xo_3, xo_4, xo_5, xo_6, xo_7, xo_8, xo_9, xo_0 s2, xo_3 s2, xo_8 s2, xo_9 s2, r2, xb_0 B2.1, x_weightOf B2, show ¬ 7 ≤ j by omega]
      refine ⟨f2.sL (fun _ => by omega), fun q hq => g2 q hq, fun q hq => ?_⟩
      by_cases c : q = j
      · rw [q_Le rfl c, c]
      · rw [q_Ln (by omega)]; exact g3 q (by omega)
    · rintro ⟨x, h2⟩ ⟨e1, f2, g2, g3⟩
      dsimp only at e1 f2 g2 g3
      subst e1
      have s2 := s0.fr f2 ho
      unfold fX2_begin_b36_i
      simp (disch := first | assumption | omega) only [p_some, p_gd, p_br, p_bi, p_nm, p_mp, p_Sl, p_Sr, p_bis, p_gdt, q_IL, q_IR, q_LI, q_LR, q_RI, q_RL, q_KI, q_KL, q_KR, q_NI, q_NL, q_NR, q_nI, q_nL, q_nR, q_okI, q_okL, q_okR, q_Ie, q_In, q_Le, q_Ln, SM_I, SM_L, s_c0, s_cg0, s_cl0, s_cge, s_cle, r_le, r_lt, r_eq, r_md, r_2, r_3, r_lit, r_litL, r_m1, nI_add, nI_1, nI_clamp, nI_leI, nI_ltI, nI_eq, pk_sub, q_ix, nI_l, lN_add, lN_mul, r_m1n, r_m1n', r_m1lt, r_m1nlt, r_m1le, r_m1nle, Nat.not_lt_zero, Nat.reduceEqDiff, Nat.reduceLT, Nat.reduceLeDiff, true_and, and_true, true_implies, false_implies, not_true_eq_false, not_false_eq_true, implies_true, and_self, ne_eq, decide_true, decide_false, Bool.not_true, Bool.not_false, if_true, if_false, reduceIte, xb_0, xb_1, xb_2, xb_3, xb_4, xb_5, xb_6, xb_7, xb_8, xb_9, xb_10, xb_11, xb_12, xb_13, xb_14, xb_15, xb_16, xb_17, xb_18, xb_19, xb_20, xb_21, xo_0, xo_1, xo_2, xo_3, xo_4, xo_5, xo_6, xo_7, xo_8, xo_9, xo_0 s2, xo_3 s2, xo_8 s2, xo_9 s2, Nat.le_refl]
      refine k h2 ((f0.w (fun a k _ c => by unfold nC at c; omega)).tr (f2.w (fun a k _ c => by unfold nC at c; omega))) ⟨s2, (f2.R _ _ (z_ok_lt (xo_0 s0)) (by omega)).trans r0, B0.fr f2 hb (fun j k hj => by omega), (f2.I _ _ (z_ok_lt (xo_0 s0)) (by omega)).trans i0, fun i hi => absurd hi (by omega), fun t ht => ?_, fun q hq => ?_⟩
      · rw [g2 t ht]; rfl
      · rw [g3 q hq]; rfl
