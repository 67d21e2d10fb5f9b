/-! images of the state, both sides -/
def mKi (i o k : Nat) : Prop := mKp o k ∧ (o ≠ 20 ∨ k < 357 * i ∨ 357 * i + 357 ≤ k) ∧ (o ≠ 21 ∨ k < 14 * i ∨ 14 * i + 14 ≤ k) ∧ (o ≠ 22 ∨ k ≠ i)
def mKr (o k : Nat) : Prop := mKp o k ∧ o ≠ 2 ∧ o ≠ 5 ∧ (o ≠ 0 ∨ k ≠ 24)
theorem s_nar1 : vp_nar .boolean (nI 1) = nI 1 := by decide
theorem m_image {h : z_T} {Q : Int32 × z_T → Prop} (s : SM h) (x : Int32) (k0 : ∀ h', m_fr mKp h h' → ¬ z_ix x 2 = true → Q (nI 0, h'))
    (k1 : ∀ h' i, i < 2 → x = nI i → m_fr (mKi i) h h' → (∀ k, k < 357 → z_I h' 20 (357 * i + k) = z_I h 2 k) → (∀ k, k < 14 → z_L h' 21 (14 * i + k) = z_L h 5 k) → z_I h' 22 i = nI 1 → Q (nI 1, h')) : p_W (fX12_image 0 x h) Q := by
  have s0 : SM (z_sI h 0 0 (nI 0)) := s
  unfold fX12_image
  simp (disch := first | assumption | omega) only [p_some, p_gd, p_br, p_bi, p_nm, p_mp, p_Sl, p_Sr, p_bis, p_gdt, q_IL, q_IR, q_LI, q_LR, q_RI, q_RL, q_KI, q_KL, q_KR, q_NI, q_NL, q_NR, q_nI, q_nL, q_nR, q_okI, q_okL, q_okR, q_Ie, q_In, q_Le, q_Ln, SM_I, SM_L, s_c0, s_cg0, s_cl0, s_cge, s_cle, r_le, r_lt, r_eq, r_md, r_2, r_3, r_lit, r_litL, r_m1, nI_add, nI_1, nI_clamp, nI_leI, nI_ltI, nI_eq, pk_sub, q_ix, nI_l, lN_add, lN_mul, r_m1n, r_m1n', r_m1lt, r_m1nlt, r_m1le, r_m1nle, Nat.not_lt_zero, Nat.reduceEqDiff, Nat.reduceLT, Nat.reduceLeDiff, true_and, and_true, true_implies, false_implies, not_true_eq_false, not_false_eq_true, implies_true, and_self, ne_eq, decide_true, decide_false, Bool.not_true, Bool.not_false, if_true, if_false, reduceIte, mk0, mk1, mk2, mk3, mk4, mk5, mk6, mk7, mk8, mk9, mk10, mk11, mk12, mk13, mk14, mk15, mk16, mk17, mk18, mk19, mk20, mk21, mk22, mn1, mn2, mn3, mn4, mn5, mn6, mn7, mn8, mn9, mn10, mn11, mn12, mn13, mn14, mn15, mn16, mn17, mn18, mn19, mn20, mn21, mn22, mr1, mr6, mr7, mr8, mr9, mr10, mr21, mr22, mr23, mr25, mr26, mr29, mr30, mr32, mr33, mr34, mr43, mr47, mr53, mr54, mr55, mr56, m_isInL, bI_0]
  refine ⟨fun c => k0 _ m_fr.t0 c, fun c => ?_⟩
  obtain ⟨i, hi, e⟩ := z_ixn c (by omega)
  subst e
  unfold fX12_image_b18
  refine p_for 357 (fun j w => w.1 = nI j ∧ m_fr (mKi i) h w.2 ∧ ∀ k, k < j → z_I w.2 20 (357 * i + k) = z_I h 2 k) ?_ ?_ 0 (by omega) ⟨rfl, m_fr.t0.w (fun o k c => c.1), fun k hk => absurd hk (by omega)⟩
  · rintro j ⟨y, h1⟩ hj ⟨e1, f, g⟩
    dsimp only at e1 f g
    subst e1
    have s1 := f.s s
    have e2 := f.I 2 j (by unfold mKi mKp; omega)
    unfold fX12_image_b18_i
    simp (disch := first | assumption | omega) only [p_some, p_gd, p_br, p_bi, p_nm, p_mp, p_Sl, p_Sr, p_bis, p_gdt, q_IL, q_IR, q_LI, q_LR, q_RI, q_RL, q_KI, q_KL, q_KR, q_NI, q_NL, q_NR, q_nI, q_nL, q_nR, q_okI, q_okL, q_okR, q_Ie, q_In, q_Le, q_Ln, SM_I, SM_L, s_c0, s_cg0, s_cl0, s_cge, s_cle, r_le, r_lt, r_eq, r_md, r_2, r_3, r_lit, r_litL, r_m1, nI_add, nI_1, nI_clamp, nI_leI, nI_ltI, nI_eq, pk_sub, q_ix, nI_l, lN_add, lN_mul, r_m1n, r_m1n', r_m1lt, r_m1nlt, r_m1le, r_m1nle, Nat.not_lt_zero, Nat.reduceEqDiff, Nat.reduceLT, Nat.reduceLeDiff, true_and, and_true, true_implies, false_implies, not_true_eq_false, not_false_eq_true, implies_true, and_self, ne_eq, decide_true, decide_false, Bool.not_true, Bool.not_false, if_true, if_false, reduceIte, mk0, mk1, mk2, mk3, mk4, mk5, mk6, mk7, mk8, mk9, mk10, mk11, mk12, mk13, mk14, mk15, mk16, mk17, mk18, mk19, mk20, mk21, mk22, mn1, mn2, mn3, mn4, mn5, mn6, mn7, mn8, mn9, mn10, mn11, mn12, mn13, mn14, mn15, mn16, mn17, mn18, mn19, mn20, mn21, mn22, mr1, mr6, mr7, mr8, mr9, mr10, mr21, mr22, mr23, mr25, mr26, mr29, mr30, mr32, mr33, mr34, mr43, mr47, mr53, mr54, mr55, mr56, e2, pk_mul, show ¬ 357 ≤ j by omega]
    refine ⟨f.sI (by unfold mKi; omega), fun k hk => ?_⟩
    by_cases c : k = j
    · rw [q_Ie rfl (by omega), c]
    · rw [q_In (by omega)]; exact g k (by omega)
  · rintro ⟨y, h1⟩ ⟨e1, f, g⟩
    dsimp only at e1 f g
    subst e1
    unfold fX12_image_b18_i
    simp (disch := first | assumption | omega) only [p_some, p_gd, p_br, p_bi, p_nm, p_mp, p_Sl, p_Sr, p_bis, p_gdt, q_IL, q_IR, q_LI, q_LR, q_RI, q_RL, q_KI, q_KL, q_KR, q_NI, q_NL, q_NR, q_nI, q_nL, q_nR, q_okI, q_okL, q_okR, q_Ie, q_In, q_Le, q_Ln, SM_I, SM_L, s_c0, s_cg0, s_cl0, s_cge, s_cle, r_le, r_lt, r_eq, r_md, r_2, r_3, r_lit, r_litL, r_m1, nI_add, nI_1, nI_clamp, nI_leI, nI_ltI, nI_eq, pk_sub, q_ix, nI_l, lN_add, lN_mul, r_m1n, r_m1n', r_m1lt, r_m1nlt, r_m1le, r_m1nle, Nat.not_lt_zero, Nat.reduceEqDiff, Nat.reduceLT, Nat.reduceLeDiff, true_and, and_true, true_implies, false_implies, not_true_eq_false, not_false_eq_true, implies_true, and_self, ne_eq, decide_true, decide_false, Bool.not_true, Bool.not_false, if_true, if_false, reduceIte, mk0, mk1, mk2, mk3, mk4, mk5, mk6, mk7, mk8, mk9, mk10, mk11, mk12, mk13, mk14, mk15, mk16, mk17, mk18, mk19, mk20, mk21, mk22, mn1, mn2, mn3, mn4, mn5, mn6, mn7, mn8, mn9, mn10, mn11, mn12, mn13, mn14, mn15, mn16, mn17, mn18, mn19, mn20, mn21, mn22, mr1, mr6, mr7, mr8, mr9, mr10, mr21, mr22, mr23, mr25, mr26, mr29, mr30, mr32, mr33, mr34, mr43, mr47, mr53, mr54, mr55, mr56, Nat.le_refl]
    unfold fX12_image_b51
    refine p_for 14 (fun j w => w.1 = nI j ∧ m_fr (mKi i) h w.2 ∧ (∀ k, k < 357 → z_I w.2 20 (357 * i + k) = z_I h 2 k) ∧ ∀ k, k < j → z_L w.2 21 (14 * i + k) = z_L h 5 k) ?_ ?_ 0 (by omega) ⟨rfl, f, g, fun k hk => absurd hk (by omega)⟩
    · rintro j ⟨y, h2⟩ hj ⟨e1, f, g, g2⟩
      dsimp only at e1 f g g2
      subst e1
      have s2 := f.s s
      have e2 := f.L 5 j (by unfold mKi mKp; omega)
      unfold fX12_image_b51_i
      simp (disch := first | assumption | omega) only [p_some, p_gd, p_br, p_bi, p_nm, p_mp, p_Sl, p_Sr, p_bis, p_gdt, q_IL, q_IR, q_LI, q_LR, q_RI, q_RL, q_KI, q_KL, q_KR, q_NI, q_NL, q_NR, q_nI, q_nL, q_nR, q_okI, q_okL, q_okR, q_Ie, q_In, q_Le, q_Ln, SM_I, SM_L, s_c0, s_cg0, s_cl0, s_cge, s_cle, r_le, r_lt, r_eq, r_md, r_2, r_3, r_lit, r_litL, r_m1, nI_add, nI_1, nI_clamp, nI_leI, nI_ltI, nI_eq, pk_sub, q_ix, nI_l, lN_add, lN_mul, r_m1n, r_m1n', r_m1lt, r_m1nlt, r_m1le, r_m1nle, Nat.not_lt_zero, Nat.reduceEqDiff, Nat.reduceLT, Nat.reduceLeDiff, true_and, and_true, true_implies, false_implies, not_true_eq_false, not_false_eq_true, implies_true, and_self, ne_eq, decide_true, decide_false, Bool.not_true, Bool.not_false, if_true, if_false, reduceIte, mk0, mk1, mk2, mk3, mk4, mk5, mk6, mk7, mk8, mk9, mk10, mk11, mk12, mk13, mk14, mk15, mk16, mk17, mk18, mk19, mk20, mk21, mk22, mn1, mn2, mn3, mn4, mn5, mn6, mn7, mn8, mn9, mn10, mn11, mn12, mn13, mn14, mn15, mn16, mn17, mn18, mn19, mn20, mn21, mn22, mr1, mr6, mr7, mr8, mr9, mr10, mr21, mr22, mr23, mr25, mr26, mr29, mr30, mr32, mr33, mr34, mr43, mr47, mr53, mr54, mr55, mr56, e2, pk_mul, show ¬ 14 ≤ j by omega]
      refine ⟨f.sL (by unfold mKi; omega), g, fun k hk => ?_⟩
      by_cases c : k = j
      · rw [q_Le rfl (by omega), c]
      · rw [q_Ln (by omega)]; exact g2 k (by omega)
    · rintro ⟨y, h2⟩ ⟨e1, f, g, g2⟩
      dsimp only at e1 f g g2
      subst e1
      have s2 := f.s s
      unfold fX12_image_b51_i
      simp (disch := first | assumption | omega) only [p_some, p_gd, p_br, p_bi, p_nm, p_mp, p_Sl, p_Sr, p_bis, p_gdt, q_IL, q_IR, q_LI, q_LR, q_RI, q_RL, q_KI, q_KL, q_KR, q_NI, q_NL, q_NR, q_nI, q_nL, q_nR, q_okI, q_okL, q_okR, q_Ie, q_In, q_Le, q_Ln, SM_I, SM_L, s_c0, s_cg0, s_cl0, s_cge, s_cle, r_le, r_lt, r_eq, r_md, r_2, r_3, r_lit, r_litL, r_m1, nI_add, nI_1, nI_clamp, nI_leI, nI_ltI, nI_eq, pk_sub, q_ix, nI_l, lN_add, lN_mul, r_m1n, r_m1n', r_m1lt, r_m1nlt, r_m1le, r_m1nle, Nat.not_lt_zero, Nat.reduceEqDiff, Nat.reduceLT, Nat.reduceLeDiff, true_and, and_true, true_implies, false_implies, not_true_eq_false, not_false_eq_true, implies_true, and_self, ne_eq, decide_true, decide_false, Bool.not_true, Bool.not_false, if_true, if_false, reduceIte, mk0, mk1, mk2, mk3, mk4, mk5, mk6, mk7, mk8, mk9, mk10, mk11, mk12, mk13, mk14, mk15, mk16, mk17, mk18, mk19, mk20, mk21, mk22, mn1, mn2, mn3, mn4, mn5, mn6, mn7, mn8, mn9, mn10, mn11, mn12, mn13, mn14, mn15, mn16, mn17, mn18, mn19, mn20, mn21, mn22, mr1, mr6, mr7, mr8, mr9, mr10, mr21, mr22, mr23, mr25, mr26, mr29, mr30, mr32, mr33, mr34, mr43, mr47, mr53, mr54, mr55, mr56, Nat.le_refl, s_nar1]
      exact k1 _ i hi rfl (f.sI (by unfold mKi; omega)) (fun k hk => (q_In (by omega)).trans (g k hk)) g2 (q_Ie rfl rfl)
theorem m_restore {h : z_T} {Q : Int32 × z_T → Prop} (s : SM h) (x : Int32) (k0 : ∀ h', m_fr mKp h h' → (∀ i, i < 2 → x = nI i → z_I h 22 i = nI 0) → Q (nI 0, h'))
    (k1 : ∀ h' i, i < 2 → x = nI i → ¬ z_I h 22 i = nI 0 → m_fr mKr h h' → (∀ k, k < 357 → z_I h' 2 k = z_I h 20 (357 * i + k)) → (∀ k, k < 14 → z_L h' 5 k = z_L h 21 (14 * i + k)) → z_I h' 0 24 = nI 0 → Q (nI 1, h')) : p_W (fX12_restore 0 x h) Q := by
  have s0 : SM (z_sI h 0 0 (nI 0)) := s
  unfold fX12_restore
  simp (disch := first | assumption | omega) only [p_some, p_gd, p_br, p_bi, p_nm, p_mp, p_Sl, p_Sr, p_bis, p_gdt, q_IL, q_IR, q_LI, q_LR, q_RI, q_RL, q_KI, q_KL, q_KR, q_NI, q_NL, q_NR, q_nI, q_nL, q_nR, q_okI, q_okL, q_okR, q_Ie, q_In, q_Le, q_Ln, SM_I, SM_L, s_c0, s_cg0, s_cl0, s_cge, s_cle, r_le, r_lt, r_eq, r_md, r_2, r_3, r_lit, r_litL, r_m1, nI_add, nI_1, nI_clamp, nI_leI, nI_ltI, nI_eq, pk_sub, q_ix, nI_l, lN_add, lN_mul, r_m1n, r_m1n', r_m1lt, r_m1nlt, r_m1le, r_m1nle, Nat.not_lt_zero, Nat.reduceEqDiff, Nat.reduceLT, Nat.reduceLeDiff, true_and, and_true, true_implies, false_implies, not_true_eq_false, not_false_eq_true, implies_true, and_self, ne_eq, decide_true, decide_false, Bool.not_true, Bool.not_false, if_true, if_false, reduceIte, mk0, mk1, mk2, mk3, mk4, mk5, mk6, mk7, mk8, mk9, mk10, mk11, mk12, mk13, mk14, mk15, mk16, mk17, mk18, mk19, mk20, mk21, mk22, mn1, mn2, mn3, mn4, mn5, mn6, mn7, mn8, mn9, mn10, mn11, mn12, mn13, mn14, mn15, mn16, mn17, mn18, mn19, mn20, mn21, mn22, mr1, mr6, mr7, mr8, mr9, mr10, mr21, mr22, mr23, mr25, mr26, mr29, mr30, mr32, mr33, mr34, mr43, mr47, mr53, mr54, mr55, mr56, m_isInL, bI_0]
  refine ⟨fun c => k0 _ m_fr.t0 (fun i hi e => absurd (by rw [e]; exact q_ix (by omega) (by omega)) c), fun c => ?_⟩
  obtain ⟨i, hi, e⟩ := z_ixn c (by omega)
  subst e
  simp (disch := first | assumption | omega) only [p_some, p_gd, p_br, p_bi, p_nm, p_mp, p_Sl, p_Sr, p_bis, p_gdt, q_IL, q_IR, q_LI, q_LR, q_RI, q_RL, q_KI, q_KL, q_KR, q_NI, q_NL, q_NR, q_nI, q_nL, q_nR, q_okI, q_okL, q_okR, q_Ie, q_In, q_Le, q_Ln, SM_I, SM_L, s_c0, s_cg0, s_cl0, s_cge, s_cle, r_le, r_lt, r_eq, r_md, r_2, r_3, r_lit, r_litL, r_m1, nI_add, nI_1, nI_clamp, nI_leI, nI_ltI, nI_eq, pk_sub, q_ix, nI_l, lN_add, lN_mul, r_m1n, r_m1n', r_m1lt, r_m1nlt, r_m1le, r_m1nle, Nat.not_lt_zero, Nat.reduceEqDiff, Nat.reduceLT, Nat.reduceLeDiff, true_and, and_true, true_implies, false_implies, not_true_eq_false, not_false_eq_true, implies_true, and_self, ne_eq, decide_true, decide_false, Bool.not_true, Bool.not_false, if_true, if_false, reduceIte, mk0, mk1, mk2, mk3, mk4, mk5, mk6, mk7, mk8, mk9, mk10, mk11, mk12, mk13, mk14, mk15, mk16, mk17, mk18, mk19, mk20, mk21, mk22, mn1, mn2, mn3, mn4, mn5, mn6, mn7, mn8, mn9, mn10, mn11, mn12, mn13, mn14, mn15, mn16, mn17, mn18, mn19, mn20, mn21, mn22, mr1, mr6, mr7, mr8, mr9, mr10, mr21, mr22, mr23, mr25, mr26, mr29, mr30, mr32, mr33, mr34, mr43, mr47, mr53, mr54, mr55, mr56]
  refine ⟨fun c2 => k0 _ m_fr.t0 (fun j hj e => ?_), fun c2 => ?_⟩
  · rw [nI_eq (by omega) (by omega)] at e
    rw [← e]; exact c2
  unfold fX12_restore_b27
  have kr : ∀ o k, mKr o k → mKp o k := fun o k c => c.1
  refine p_for 357 (fun j w => w.1 = nI j ∧ m_fr mKr h w.2 ∧ ∀ k, k < j → z_I w.2 2 k = z_I h 20 (357 * i + k)) ?_ ?_ 0 (by omega) ⟨rfl, m_fr.t0.w kr, fun k hk => absurd hk (by omega)⟩
  · rintro j ⟨y, h1⟩ hj ⟨e1, f, g⟩
    dsimp only at e1 f g
    subst e1
    have s1 := f.s s
    have e2 := f.I 20 (357 * i + j) (by unfold mKr mKp; omega)
    unfold fX12_restore_b27_i
    simp (disch := first | assumption | omega) only [p_some, p_gd, p_br, p_bi, p_nm, p_mp, p_Sl, p_Sr, p_bis, p_gdt, q_IL, q_IR, q_LI, q_LR, q_RI, q_RL, q_KI, q_KL, q_KR, q_NI, q_NL, q_NR, q_nI, q_nL, q_nR, q_okI, q_okL, q_okR, q_Ie, q_In, q_Le, q_Ln, SM_I, SM_L, s_c0, s_cg0, s_cl0, s_cge, s_cle, r_le, r_lt, r_eq, r_md, r_2, r_3, r_lit, r_litL, r_m1, nI_add, nI_1, nI_clamp, nI_leI, nI_ltI, nI_eq, pk_sub, q_ix, nI_l, lN_add, lN_mul, r_m1n, r_m1n', r_m1lt, r_m1nlt, r_m1le, r_m1nle, Nat.not_lt_zero, Nat.reduceEqDiff, Nat.reduceLT, Nat.reduceLeDiff, true_and, and_true, true_implies, false_implies, not_true_eq_false, not_false_eq_true, implies_true, and_self, ne_eq, decide_true, decide_false, Bool.not_true, Bool.not_false, if_true, if_false, reduceIte, mk0, mk1, mk2, mk3, mk4, mk5, mk6, mk7, mk8, mk9, mk10, mk11, mk12, mk13, mk14, mk15, mk16, mk17, mk18, mk19, mk20, mk21, mk22, mn1, mn2, mn3, mn4, mn5, mn6, mn7, mn8, mn9, mn10, mn11, mn12, mn13, mn14, mn15, mn16, mn17, mn18, mn19, mn20, mn21, mn22, mr1, mr6, mr7, mr8, mr9, mr10, mr21, mr22, mr23, mr25, mr26, mr29, mr30, mr32, mr33, mr34, mr43, mr47, mr53, mr54, mr55, mr56, e2, pk_mul, show ¬ 357 ≤ j by omega]
    refine ⟨f.sI (by unfold mKr; omega), fun k hk => ?_⟩
    by_cases c : k = j
    · rw [q_Ie rfl (by omega), c]
    · rw [q_In (by omega)]; exact g k (by omega)
  · rintro ⟨y, h1⟩ ⟨e1, f, g⟩
    dsimp only at e1 f g
    subst e1
    unfold fX12_restore_b27_i
    simp (disch := first | assumption | omega) only [p_some, p_gd, p_br, p_bi, p_nm, p_mp, p_Sl, p_Sr, p_bis, p_gdt, q_IL, q_IR, q_LI, q_LR, q_RI, q_RL, q_KI, q_KL, q_KR, q_NI, q_NL, q_NR, q_nI, q_nL, q_nR, q_okI, q_okL, q_okR, q_Ie, q_In, q_Le, q_Ln, SM_I, SM_L, s_c0, s_cg0, s_cl0, s_cge, s_cle, r_le, r_lt, r_eq, r_md, r_2, r_3, r_lit, r_litL, r_m1, nI_add, nI_1, nI_clamp, nI_leI, nI_ltI, nI_eq, pk_sub, q_ix, nI_l, lN_add, lN_mul, r_m1n, r_m1n', r_m1lt, r_m1nlt, r_m1le, r_m1nle, Nat.not_lt_zero, Nat.reduceEqDiff, Nat.reduceLT, Nat.reduceLeDiff, true_and, and_true, true_implies, false_implies, not_true_eq_false, not_false_eq_true, implies_true, and_self, ne_eq, decide_true, decide_false, Bool.not_true, Bool.not_false, if_true, if_false, reduceIte, mk0, mk1, mk2, mk3, mk4, mk5, mk6, mk7, mk8, mk9, mk10, mk11, mk12, mk13, mk14, mk15, mk16, mk17, mk18, mk19, mk20, mk21, mk22, mn1, mn2, mn3, mn4, mn5, mn6, mn7, mn8, mn9, mn10, mn11, mn12, mn13, mn14, mn15, mn16, mn17, mn18, mn19, mn20, mn21, mn22, mr1, mr6, mr7, mr8, mr9, mr10, mr21, mr22, mr23, mr25, mr26, mr29, mr30, mr32, mr33, mr34, mr43, mr47, mr53, mr54, mr55, mr56, Nat.le_refl]
    unfold fX12_restore_b60
    refine p_for 14 (fun j w => w.1 = nI j ∧ m_fr mKr h w.2 ∧ (∀ k, k < 357 → z_I w.2 2 k = z_I h 20 (357 * i + k)) ∧ ∀ k, k < j → z_L w.2 5 k = z_L h 21 (14 * i + k)) ?_ ?_ 0 (by omega) ⟨rfl, f, g, fun k hk => absurd hk (by omega)⟩
    · rintro j ⟨y, h2⟩ hj ⟨e1, f, g, g2⟩
      dsimp only at e1 f g g2
      subst e1
      have s2 := f.s s
      have e2 := f.L 21 (14 * i + j) (by unfold mKr mKp; omega)
      unfold fX12_restore_b60_i
      simp (disch := first | assumption | omega) only [p_some, p_gd, p_br, p_bi, p_nm, p_mp, p_Sl, p_Sr, p_bis, p_gdt, q_IL, q_IR, q_LI, q_LR, q_RI, q_RL, q_KI, q_KL, q_KR, q_NI, q_NL, q_NR, q_nI, q_nL, q_nR, q_okI, q_okL, q_okR, q_Ie, q_In, q_Le, q_Ln, SM_I, SM_L, s_c0, s_cg0, s_cl0, s_cge, s_cle, r_le, r_lt, r_eq, r_md, r_2, r_3, r_lit, r_litL, r_m1, nI_add, nI_1, nI_clamp, nI_leI, nI_ltI, nI_eq, pk_sub, q_ix, nI_l, lN_add, lN_mul, r_m1n, r_m1n', r_m1lt, r_m1nlt, r_m1le, r_m1nle, Nat.not_lt_zero, Nat.reduceEqDiff, Nat.reduceLT, Nat.reduceLeDiff, true_and, and_true, true_implies, false_implies, not_true_eq_false, not_false_eq_true, implies_true, and_self, ne_eq, decide_true, decide_false, Bool.not_true, Bool.not_false, if_true, if_false, reduceIte, mk0, mk1, mk2, mk3, mk4, mk5, mk6, mk7, mk8, mk9, mk10, mk11, mk12, mk13, mk14, mk15, mk16, mk17, mk18, mk19, mk20, mk21, mk22, mn1, mn2, mn3, mn4, mn5, mn6, mn7, mn8, mn9, mn10, mn11, mn12, mn13, mn14, mn15, mn16, mn17, mn18, mn19, mn20, mn21, mn22, mr1, mr6, mr7, mr8, mr9, mr10, mr21, mr22, mr23, mr25, mr26, mr29, mr30, mr32, mr33, mr34, mr43, mr47, mr53, mr54, mr55, mr56, e2, pk_mul, show ¬ 14 ≤ j by omega]
      refine ⟨f.sL (by unfold mKr; omega), g, fun k hk => ?_⟩
      by_cases c : k = j
      · rw [q_Le rfl (by omega), c]
      · rw [q_Ln (by omega)]; exact g2 k (by omega)
    · rintro ⟨y, h2⟩ ⟨e1, f, g, g2⟩
      dsimp only at e1 f g g2
      subst e1
      have s2 := f.s s
      unfold fX12_restore_b60_i
      simp (disch := first | assumption | omega) only [p_some, p_gd, p_br, p_bi, p_nm, p_mp, p_Sl, p_Sr, p_bis, p_gdt, q_IL, q_IR, q_LI, q_LR, q_RI, q_RL, q_KI, q_KL, q_KR, q_NI, q_NL, q_NR, q_nI, q_nL, q_nR, q_okI, q_okL, q_okR, q_Ie, q_In, q_Le, q_Ln, SM_I, SM_L, s_c0, s_cg0, s_cl0, s_cge, s_cle, r_le, r_lt, r_eq, r_md, r_2, r_3, r_lit, r_litL, r_m1, nI_add, nI_1, nI_clamp, nI_leI, nI_ltI, nI_eq, pk_sub, q_ix, nI_l, lN_add, lN_mul, r_m1n, r_m1n', r_m1lt, r_m1nlt, r_m1le, r_m1nle, Nat.not_lt_zero, Nat.reduceEqDiff, Nat.reduceLT, Nat.reduceLeDiff, true_and, and_true, true_implies, false_implies, not_true_eq_false, not_false_eq_true, implies_true, and_self, ne_eq, decide_true, decide_false, Bool.not_true, Bool.not_false, if_true, if_false, reduceIte, mk0, mk1, mk2, mk3, mk4, mk5, mk6, mk7, mk8, mk9, mk10, mk11, mk12, mk13, mk14, mk15, mk16, mk17, mk18, mk19, mk20, mk21, mk22, mn1, mn2, mn3, mn4, mn5, mn6, mn7, mn8, mn9, mn10, mn11, mn12, mn13, mn14, mn15, mn16, mn17, mn18, mn19, mn20, mn21, mn22, mr1, mr6, mr7, mr8, mr9, mr10, mr21, mr22, mr23, mr25, mr26, mr29, mr30, mr32, mr33, mr34, mr43, mr47, mr53, mr54, mr55, mr56, Nat.le_refl]
      exact k1 _ i hi rfl c2 (f.sI (by unfold mKr; omega)) (fun k hk => (q_In (by omega)).trans (g k hk)) g2 (q_Ie rfl rfl)
def xSt (o : Nat) : Prop := o = 14 ∨ o = 20 ∨ o = 25
theorem SX.st {h : z_T} {o : Nat} (s : SX h) (hS : xSt o) : z_ok h o 8 = true ∧ z_R h o 0 = some (o + 1) ∧ xNs h (o + 1) := by
  rcases hS with e | e | e <;> subst e
  · exact ⟨xk14 s, xr14_0 s, xns15 s⟩
  · exact ⟨xk20 s, xr20_0 s, xns21 s⟩
  · exact ⟨xk25 s, xr25_0 s, xns26 s⟩
theorem x_stCopy {h : z_T} {o o1 bo n : Nat} {bk ans : Nat → Nat} {Q : z_T → Prop} (s : SX h) (hS : xSt o) (hS1 : xSt o1) (hne : o ≠ o1) (N : xNi h (o1 + 1) bo bk ans n) (hn : n ≤ 12) (hb : bo = 1 ∨ 83 ≤ bo)
    (k : ∀ h', x_fr (fun a k => a < o ∨ o + 5 ≤ a ∨ (a = o ∧ k ≠ 1 ∧ k ≠ 2)) h h' → xNi h' (o + 1) bo bk ans n → z_R h' o 1 = z_R h o1 1 → z_R h' o 2 = z_R h o1 2 → Q h') : p_W (fX8_copy o o1 h) Q := by
  have hi : isN (o + 1) := by unfold isN; unfold xSt at hS; omega
  have hi1 : isN (o1 + 1) := by unfold isN; unfold xSt at hS1; omega
  have hd : o + 5 ≤ o1 ∨ o1 + 5 ≤ o := by unfold xSt at hS hS1; omega
  have h0 := s.1
  unfold fX8_copy
  simp (disch := first | assumption | omega) only [p_some, p_gd, p_br, p_bi, p_nm, p_mp, p_Sl, p_Sr, p_bis, p_gdt, q_IL, q_IR, q_LI, q_LR, q_RI, q_RL, q_KI, q_KL, q_KR, q_NI, q_NL, q_NR, q_nI, q_nL, q_nR, q_okI, q_okL, q_okR, q_Ie, q_In, q_Le, q_Ln, SM_I, SM_L, s_c0, s_cg0, s_cl0, s_cge, s_cle, r_le, r_lt, r_eq, r_md, r_2, r_3, r_lit, r_litL, r_m1, nI_add, nI_1, nI_clamp, nI_leI, nI_ltI, nI_eq, pk_sub, q_ix, nI_l, lN_add, lN_mul, r_m1n, r_m1n', r_m1lt, r_m1nlt, r_m1le, r_m1nle, Nat.not_lt_zero, Nat.reduceEqDiff, Nat.reduceLT, Nat.reduceLeDiff, true_and, and_true, true_implies, false_implies, not_true_eq_false, not_false_eq_true, implies_true, and_self, ne_eq, decide_true, decide_false, Bool.not_true, Bool.not_false, if_true, if_false, reduceIte, xb_0, xb_1, xb_2, xb_3, xb_4, xb_5, xb_6, xb_7, xb_8, xb_9, xb_10, xb_11, xb_12, xb_13, xb_14, xb_15, xb_16, xb_17, xb_18, xb_19, xb_20, xb_21, xo_0, xo_1, xo_2, xo_3, xo_4, xo_5, xo_6, xo_7, xo_8, xo_9, (s.st hS).1, (s.st hS).2.1, (s.st hS1).1, (s.st hS1).2.1, xo_0 (s.st hS).2.2]
  refine x_copy (s.st hS).2.2 N hn hi hi1 (by omega) hb (fun h1 f1 N1 => ?_)
  have s1 := f1.s s
  have g1 : x_fr (fun a k => a < o ∨ o + 5 ≤ a ∨ (a = o ∧ k ≠ 1 ∧ k ≠ 2)) h h1 := f1.w (fun a k _ c => by unfold nC; omega)
  have e1 := f1.R o1 1 (by unfold xSt at hS1; omega) (by unfold nC; omega)
  have e2 := f1.R o1 2 (by unfold xSt at hS1; omega) (by unfold nC; omega)
  have hM1 : xM o 1 := by unfold xM; unfold xSt at hS; omega
  have hM2 : xM o 2 := by unfold xM; unfold xSt at hS; omega
  simp (disch := first | assumption | omega) only [p_some, p_gd, p_br, p_bi, p_nm, p_mp, p_Sl, p_Sr, p_bis, p_gdt, q_IL, q_IR, q_LI, q_LR, q_RI, q_RL, q_KI, q_KL, q_KR, q_NI, q_NL, q_NR, q_nI, q_nL, q_nR, q_okI, q_okL, q_okR, q_Ie, q_In, q_Le, q_Ln, SM_I, SM_L, s_c0, s_cg0, s_cl0, s_cge, s_cle, r_le, r_lt, r_eq, r_md, r_2, r_3, r_lit, r_litL, r_m1, nI_add, nI_1, nI_clamp, nI_leI, nI_ltI, nI_eq, pk_sub, q_ix, nI_l, lN_add, lN_mul, r_m1n, r_m1n', r_m1lt, r_m1nlt, r_m1le, r_m1nle, Nat.not_lt_zero, Nat.reduceEqDiff, Nat.reduceLT, Nat.reduceLeDiff, true_and, and_true, true_implies, false_implies, not_true_eq_false, not_false_eq_true, implies_true, and_self, ne_eq, decide_true, decide_false, Bool.not_true, Bool.not_false, if_true, if_false, reduceIte, xb_0, xb_1, xb_2, xb_3, xb_4, xb_5, xb_6, xb_7, xb_8, xb_9, xb_10, xb_11, xb_12, xb_13, xb_14, xb_15, xb_16, xb_17, xb_18, xb_19, xb_20, xb_21, xo_0, xo_1, xo_2, xo_3, xo_4, xo_5, xo_6, xo_7, xo_8, xo_9, (s1.st hS).1, (s1.st hS1).1]
  refine k _ ((g1.sR (fun _ => ⟨by omega, hM1⟩)).sR (fun _ => ⟨by omega, hM2⟩)) (N1.fr (C := fun a _ => a ≠ o) ((x_fr.rf.sR (fun _ => ⟨by omega, hM1⟩)).sR (fun _ => ⟨by omega, hM2⟩)) hi hb (fun a k ha => by omega) (fun a k ha => by unfold xSt at hS; omega)) ?_ ?_
  · rw [q_Rn (by omega), q_Re rfl rfl, e1]
  · rw [q_Re rfl rfl, q_Rn (by omega), e2]
theorem SX.im {h : z_T} (s : SX h) : ∀ i, i < 2 → z_R h 19 i = some (20 + 5 * i) ∧ xSt (20 + 5 * i)
  | 0, _ => ⟨xr19_0 s, Or.inr (Or.inl rfl)⟩
  | 1, _ => ⟨xr19_1 s, Or.inr (Or.inr rfl)⟩
  | i + 2, hi => absurd hi (by omega)
theorem x_opImage {h : z_T} {bo n : Nat} {bk ans : Nat → Nat} {Q : Int32 × z_T → Prop} (W : xNow h bo bk ans n) (hn : n ≤ 12) (x : Int32) (k0 : ¬ z_ix x 2 = true → Q (nI 0, h))
    (k1 : ∀ h' i, i < 2 → x = nI i → x_fr (fun a _ => a < 20 + 5 * i ∨ 25 + 5 * i ≤ a) h h' → xNi h' (21 + 5 * i) bo bk ans n → z_R h' (20 + 5 * i) 1 = z_R h 14 1 → z_R h' (20 + 5 * i) 2 = z_R h 14 2 → z_I h' (20 + 5 * i) 3 = nI 1 → Q (nI 1, h')) : p_W (fX11_image 0 x h) Q := by
  obtain ⟨s, N, hb⟩ := W
  unfold fX11_image
  rcases r_in x 2 with ⟨i, hi, -, rfl⟩ | q | ⟨j, hj, hj2, rfl⟩
  · have h0 := s.1
    obtain ⟨p1, p2⟩ := s.im i hi
    have p3 := s.st p2
    simp (disch := first | assumption | omega) only [p_some, p_gd, p_br, p_bi, p_nm, p_mp, p_Sl, p_Sr, p_bis, p_gdt, q_IL, q_IR, q_LI, q_LR, q_RI, q_RL, q_KI, q_KL, q_KR, q_NI, q_NL, q_NR, q_nI, q_nL, q_nR, q_okI, q_okL, q_okR, q_Ie, q_In, q_Le, q_Ln, SM_I, SM_L, s_c0, s_cg0, s_cl0, s_cge, s_cle, r_le, r_lt, r_eq, r_md, r_2, r_3, r_lit, r_litL, r_m1, nI_add, nI_1, nI_clamp, nI_leI, nI_ltI, nI_eq, pk_sub, q_ix, nI_l, lN_add, lN_mul, r_m1n, r_m1n', r_m1lt, r_m1nlt, r_m1le, r_m1nle, Nat.not_lt_zero, Nat.reduceEqDiff, Nat.reduceLT, Nat.reduceLeDiff, true_and, and_true, true_implies, false_implies, not_true_eq_false, not_false_eq_true, implies_true, and_self, ne_eq, decide_true, decide_false, Bool.not_true, Bool.not_false, if_true, if_false, reduceIte, xb_0, xb_1, xb_2, xb_3, xb_4, xb_5, xb_6, xb_7, xb_8, xb_9, xb_10, xb_11, xb_12, xb_13, xb_14, xb_15, xb_16, xb_17, xb_18, xb_19, xb_20, xb_21, xo_0, xo_1, xo_2, xo_3, xo_4, xo_5, xo_6, xo_7, xo_8, xo_9, xk0 s, xr0_4 s, xk19 s, xn19 s, p1, xr0_3 s, p3.1, hi]
    refine x_stCopy s p2 (Or.inl rfl) (by omega) N hn hb (fun h1 f1 N1 r1 r2 => ?_)
    have s1 := f1.s s
    have p4 := s1.st p2
    have g1 : x_fr (fun a _ => a < 20 + 5 * i ∨ 25 + 5 * i ≤ a) h h1 := f1.w (fun a k _ c => by omega)
    simp (disch := first | assumption | omega) only [p_some, p_gd, p_br, p_bi, p_nm, p_mp, p_Sl, p_Sr, p_bis, p_gdt, q_IL, q_IR, q_LI, q_LR, q_RI, q_RL, q_KI, q_KL, q_KR, q_NI, q_NL, q_NR, q_nI, q_nL, q_nR, q_okI, q_okL, q_okR, q_Ie, q_In, q_Le, q_Ln, SM_I, SM_L, s_c0, s_cg0, s_cl0, s_cge, s_cle, r_le, r_lt, r_eq, r_md, r_2, r_3, r_lit, r_litL, r_m1, nI_add, nI_1, nI_clamp, nI_leI, nI_ltI, nI_eq, pk_sub, q_ix, nI_l, lN_add, lN_mul, r_m1n, r_m1n', r_m1lt, r_m1nlt, r_m1le, r_m1nle, Nat.not_lt_zero, Nat.reduceEqDiff, Nat.reduceLT, Nat.reduceLeDiff, true_and, and_true, true_implies, false_implies, not_true_eq_false, not_false_eq_true, implies_true, and_self, ne_eq, decide_true, decide_false, Bool.not_true, Bool.not_false, if_true, if_false, reduceIte, xb_0, xb_1, xb_2, xb_3, xb_4, xb_5, xb_6, xb_7, xb_8, xb_9, xb_10, xb_11, xb_12, xb_13, xb_14, xb_15, xb_16, xb_17, xb_18, xb_19, xb_20, xb_21, xo_0, xo_1, xo_2, xo_3, xo_4, xo_5, xo_6, xo_7, xo_8, xo_9, xk0 s1, xr0_4 s1, xk19 s1, xn19 s1, (s1.im i hi).1, p4.1]
    refine k1 _ i hi rfl (g1.sI (fun _ => by omega)) ?_ r1 r2 (q_Ie rfl rfl)
    have N2 : xNi h1 (21 + 5 * i) bo bk ans n := by rw [show 21 + 5 * i = 20 + 5 * i + 1 by omega]; exact N1
    refine N2.fr (C := fun a _ => a ≠ 20 + 5 * i) (x_fr.rf.sI (fun _ => by omega)) (by unfold isN; omega) hb (fun a k ha => by omega) (fun a k ha => by omega)
  · rw [p_brT q]
    simp (disch := first | assumption | omega) only [p_some, p_gd, p_br, p_bi, p_nm, p_mp, p_Sl, p_Sr, p_bis, p_gdt, Nat.not_lt_zero, Nat.reduceEqDiff, Nat.reduceLT, Nat.reduceLeDiff, true_and, and_true, true_implies, false_implies, not_true_eq_false, not_false_eq_true, implies_true, and_self, ne_eq, decide_true, decide_false, Bool.not_true, Bool.not_false, if_true, if_false, reduceIte]
    refine k0 (fun c => ?_)
    obtain ⟨j, hj, rfl⟩ := (z_ix_e (by omega)).mp c
    exact nI_pos (by omega) q
  · simp (disch := first | assumption | omega) only [p_some, p_gd, p_br, p_bi, p_nm, p_mp, p_Sl, p_Sr, p_bis, p_gdt, q_IL, q_IR, q_LI, q_LR, q_RI, q_RL, q_KI, q_KL, q_KR, q_NI, q_NL, q_NR, q_nI, q_nL, q_nR, q_okI, q_okL, q_okR, q_Ie, q_In, q_Le, q_Ln, SM_I, SM_L, s_c0, s_cg0, s_cl0, s_cge, s_cle, r_le, r_lt, r_eq, r_md, r_2, r_3, r_lit, r_litL, r_m1, nI_add, nI_1, nI_clamp, nI_leI, nI_ltI, nI_eq, pk_sub, q_ix, nI_l, lN_add, lN_mul, r_m1n, r_m1n', r_m1lt, r_m1nlt, r_m1le, r_m1nle, Nat.not_lt_zero, Nat.reduceEqDiff, Nat.reduceLT, Nat.reduceLeDiff, true_and, and_true, true_implies, false_implies, not_true_eq_false, not_false_eq_true, implies_true, and_self, ne_eq, decide_true, decide_false, Bool.not_true, Bool.not_false, if_true, if_false, reduceIte, xb_0, xb_1, xb_2, xb_3, xb_4, xb_5, xb_6, xb_7, xb_8, xb_9, xb_10, xb_11, xb_12, xb_13, xb_14, xb_15, xb_16, xb_17, xb_18, xb_19, xb_20, xb_21, xo_0, xo_1, xo_2, xo_3, xo_4, xo_5, xo_6, xo_7, xo_8, xo_9, xk0 s, xr0_4 s, xk19 s, xn19 s, show ¬ j < 2 by omega]
    refine k0 (fun c => ?_)
    obtain ⟨l, hl, e⟩ := (z_ix_e (by omega)).mp c
    rw [nI_eq (by omega) (by omega)] at e
    omega
theorem x_opRestore {h : z_T} {bo1 n1 : Nat → Nat} {bk1 ans1 : Nat → Nat → Nat} {Q : Int32 × z_T → Prop} (s : SX h) (im : ∀ i, i < 2 → ¬ z_I h (20 + 5 * i) 3 = nI 0 → xNi h (21 + 5 * i) (bo1 i) (bk1 i) (ans1 i) (n1 i) ∧ (bo1 i = 1 ∨ 83 ≤ bo1 i) ∧ n1 i ≤ 12) (x : Int32) (k0 : (∀ i, i < 2 → x = nI i → z_I h (20 + 5 * i) 3 = nI 0) → Q (nI 0, h))
    (k1 : ∀ h' i, i < 2 → x = nI i → ¬ z_I h (20 + 5 * i) 3 = nI 0 → x_fr (fun a k => (a < 14 ∨ 19 ≤ a ∨ (a = 14 ∧ k = 3)) ∧ (a ≠ 30 ∨ k ≠ 2)) h h' → xNow h' (bo1 i) (bk1 i) (ans1 i) (n1 i) → z_R h' 14 1 = z_R h (20 + 5 * i) 1 → z_R h' 14 2 = z_R h (20 + 5 * i) 2 → z_I h' 30 2 = nI 0 → Q (nI 1, h')) : p_W (fX11_restore 0 x h) Q := by
  unfold fX11_restore
  rcases r_in x 2 with ⟨i, hi, -, rfl⟩ | q | ⟨j, hj, hj2, rfl⟩
  · have h0 := s.1
    obtain ⟨p1, p2⟩ := s.im i hi
    have p3 := s.st p2
    simp (disch := first | assumption | omega) only [p_some, p_gd, p_br, p_bi, p_nm, p_mp, p_Sl, p_Sr, p_bis, p_gdt, q_IL, q_IR, q_LI, q_LR, q_RI, q_RL, q_KI, q_KL, q_KR, q_NI, q_NL, q_NR, q_nI, q_nL, q_nR, q_okI, q_okL, q_okR, q_Ie, q_In, q_Le, q_Ln, SM_I, SM_L, s_c0, s_cg0, s_cl0, s_cge, s_cle, r_le, r_lt, r_eq, r_md, r_2, r_3, r_lit, r_litL, r_m1, nI_add, nI_1, nI_clamp, nI_leI, nI_ltI, nI_eq, pk_sub, q_ix, nI_l, lN_add, lN_mul, r_m1n, r_m1n', r_m1lt, r_m1nlt, r_m1le, r_m1nle, Nat.not_lt_zero, Nat.reduceEqDiff, Nat.reduceLT, Nat.reduceLeDiff, true_and, and_true, true_implies, false_implies, not_true_eq_false, not_false_eq_true, implies_true, and_self, ne_eq, decide_true, decide_false, Bool.not_true, Bool.not_false, if_true, if_false, reduceIte, xb_0, xb_1, xb_2, xb_3, xb_4, xb_5, xb_6, xb_7, xb_8, xb_9, xb_10, xb_11, xb_12, xb_13, xb_14, xb_15, xb_16, xb_17, xb_18, xb_19, xb_20, xb_21, xo_0, xo_1, xo_2, xo_3, xo_4, xo_5, xo_6, xo_7, xo_8, xo_9, xk0 s, xr0_4 s, xk19 s, xn19 s, p1, xr0_3 s, xk14 s, p3.1, show ¬ 2 ≤ i by omega]
    refine ⟨fun c => k0 (fun j hj e => ?_), fun c => ?_⟩
    · rw [nI_eq (by omega) (by omega)] at e
      rw [← e]; exact c
    obtain ⟨N, hb, hn⟩ := im i hi c
    have N0 : xNi h (20 + 5 * i + 1) (bo1 i) (bk1 i) (ans1 i) (n1 i) := by rw [show 20 + 5 * i + 1 = 21 + 5 * i by omega]; exact N
    refine x_stCopy s (Or.inl rfl) p2 (by omega) N0 hn hb (fun h1 f1 N1 r1 r2 => ?_)
    have s1 := f1.s s
    have g1 : x_fr (fun a k => (a < 14 ∨ 19 ≤ a ∨ (a = 14 ∧ k = 3)) ∧ (a ≠ 30 ∨ k ≠ 2)) h h1 := f1.w (fun a k _ c => by omega)
    simp (disch := first | assumption | omega) only [p_some, p_gd, p_br, p_bi, p_nm, p_mp, p_Sl, p_Sr, p_bis, p_gdt, q_IL, q_IR, q_LI, q_LR, q_RI, q_RL, q_KI, q_KL, q_KR, q_NI, q_NL, q_NR, q_nI, q_nL, q_nR, q_okI, q_okL, q_okR, q_Ie, q_In, q_Le, q_Ln, SM_I, SM_L, s_c0, s_cg0, s_cl0, s_cge, s_cle, r_le, r_lt, r_eq, r_md, r_2, r_3, r_lit, r_litL, r_m1, nI_add, nI_1, nI_clamp, nI_leI, nI_ltI, nI_eq, pk_sub, q_ix, nI_l, lN_add, lN_mul, r_m1n, r_m1n', r_m1lt, r_m1nlt, r_m1le, r_m1nle, Nat.not_lt_zero, Nat.reduceEqDiff, Nat.reduceLT, Nat.reduceLeDiff, true_and, and_true, true_implies, false_implies, not_true_eq_false, not_false_eq_true, implies_true, and_self, ne_eq, decide_true, decide_false, Bool.not_true, Bool.not_false, if_true, if_false, reduceIte, xb_0, xb_1, xb_2, xb_3, xb_4, xb_5, xb_6, xb_7, xb_8, xb_9, xb_10, xb_11, xb_12, xb_13, xb_14, xb_15, xb_16, xb_17, xb_18, xb_19, xb_20, xb_21, xo_0, xo_1, xo_2, xo_3, xo_4, xo_5, xo_6, xo_7, xo_8, xo_9, xk0 s1, xr0_5 s1, xk30 s1]
    have g2 := g1.sI (a := 30) (b := 2) (v := nI 0) (fun _ => by omega)
    exact k1 _ i hi rfl c g2 ⟨g2.s s, N1.fr (C := fun a _ => a ≠ 30) (x_fr.rf.sI (fun _ => by omega)) (Or.inl rfl) hb (fun a k ha => by omega) (fun a k ha => by omega), hb⟩ r1 r2 (q_Ie rfl rfl)
  · rw [p_brT q]
    simp (disch := first | assumption | omega) only [p_some, p_gd, p_br, p_bi, p_nm, p_mp, p_Sl, p_Sr, p_bis, p_gdt, Nat.not_lt_zero, Nat.reduceEqDiff, Nat.reduceLT, Nat.reduceLeDiff, true_and, and_true, true_implies, false_implies, not_true_eq_false, not_false_eq_true, implies_true, and_self, ne_eq, decide_true, decide_false, Bool.not_true, Bool.not_false, if_true, if_false, reduceIte]
    refine k0 (fun i hi e => ?_)
    rw [e] at q
    exact absurd q (nI_pos (by omega))
  · simp (disch := first | assumption | omega) only [p_some, p_gd, p_br, p_bi, p_nm, p_mp, p_Sl, p_Sr, p_bis, p_gdt, q_IL, q_IR, q_LI, q_LR, q_RI, q_RL, q_KI, q_KL, q_KR, q_NI, q_NL, q_NR, q_nI, q_nL, q_nR, q_okI, q_okL, q_okR, q_Ie, q_In, q_Le, q_Ln, SM_I, SM_L, s_c0, s_cg0, s_cl0, s_cge, s_cle, r_le, r_lt, r_eq, r_md, r_2, r_3, r_lit, r_litL, r_m1, nI_add, nI_1, nI_clamp, nI_leI, nI_ltI, nI_eq, pk_sub, q_ix, nI_l, lN_add, lN_mul, r_m1n, r_m1n', r_m1lt, r_m1nlt, r_m1le, r_m1nle, Nat.not_lt_zero, Nat.reduceEqDiff, Nat.reduceLT, Nat.reduceLeDiff, true_and, and_true, true_implies, false_implies, not_true_eq_false, not_false_eq_true, implies_true, and_self, ne_eq, decide_true, decide_false, Bool.not_true, Bool.not_false, if_true, if_false, reduceIte, xb_0, xb_1, xb_2, xb_3, xb_4, xb_5, xb_6, xb_7, xb_8, xb_9, xb_10, xb_11, xb_12, xb_13, xb_14, xb_15, xb_16, xb_17, xb_18, xb_19, xb_20, xb_21, xo_0, xo_1, xo_2, xo_3, xo_4, xo_5, xo_6, xo_7, xo_8, xo_9, xk0 s, xr0_4 s, xk19 s, xn19 s, hj]
    refine k0 (fun i hi e => ?_)
    rw [nI_eq (by omega) (by omega)] at e
    omega
