/-! the reference: what was, acts, draws -/
def a_u (f : Nat → Nat) (n v : Nat) : Nat → Nat := fun i => if i = n then v else f i
def a_push (pa : Nat → Nat × (Nat → Nat)) (v : Nat × (Nat → Nat)) : Nat → Nat × (Nat → Nat) := fun j => match j with
  | 0 => v
  | j + 1 => pa j
def mU (h : z_T) (k : Nat) (pa : Nat → Nat × (Nat → Nat)) : Prop := z_I h 0 24 = nI k ∧ ∀ j, j < k → z_I h 8 (13 * (k - 1 - j)) = nI (pa j).1 ∧ ∀ i, i < (pa j).1 → z_I h 8 (13 * (k - 1 - j) + 1 + i) = nI ((pa j).2 i)
theorem mU.fr {h h' : z_T} {k : Nat} {pa : Nat → Nat × (Nat → Nat)} {C : Nat → Nat → Prop} (f : m_fr C h h') (c1 : C 0 24) (c2 : ∀ k, C 8 k) (hU : mU h k pa) : mU h' k pa :=
  ⟨(f.I 0 24 c1).trans hU.1, fun j hj => ⟨(f.I 8 _ (c2 _)).trans (hU.2 j hj).1, fun i hi => (f.I 8 _ (c2 _)).trans ((hU.2 j hj).2 i hi)⟩⟩
theorem m_keepB {h : z_T} {k : Nat} (s : SM h) (hk : k ≤ 7) (e : z_I h 0 24 = nI k) : p_W (fX12_keep_b44 0 h) (fun h2 => m_fr (fun o k => o ≠ 8 ∧ (o ≠ 0 ∨ k ≠ 24)) h h2 ∧ z_I h2 0 24 = nI (k + 1) ∧ (∀ j, j < 13 → z_I h2 8 (13 * k + j) = z_I h 2 (36 + j)) ∧ ∀ j, j < 13 * k → z_I h2 8 j = z_I h 8 j) := by
  unfold fX12_keep_b44 fX12_keep_b46
  refine p_for 13 (fun i w => w.1 = nI i ∧ m_fr (fun o k => o ≠ 8 ∧ (o ≠ 0 ∨ k ≠ 24)) h w.2 ∧ z_I w.2 0 24 = nI k ∧ (∀ j, j < i → z_I w.2 8 (13 * k + j) = z_I h 2 (36 + j)) ∧ ∀ j, j < 13 * k → z_I w.2 8 j = z_I h 8 j) ?_ ?_ 0 (by omega) ⟨rfl, m_fr.rf, e, fun j hj => absurd hj (by omega), fun _ _ => rfl⟩
  · rintro i ⟨x, h1⟩ hi ⟨e1, f, e2, g1, g2⟩
    dsimp only at e1 f e2 g1 g2
    subst e1
    have s1 := f.s s
    have e3 := f.I 2 (36 + i) (by omega)
    unfold fX12_keep_b46_i
    simp (disch := first | assumption | omega) only [p_some, p_gd, p_br, p_bi, p_nm, p_mp, p_Sl, p_Sr, p_bis, p_gdt, q_IL, q_IR, q_LI, q_LR, q_RI, q_RL, q_KI, q_KL, q_KR, q_NI, q_NL, q_NR, q_nI, q_nL, q_nR, q_okI, q_okL, q_okR, q_Ie, q_In, q_Le, q_Ln, SM_I, SM_L, s_c0, s_cg0, s_cl0, s_cge, s_cle, r_le, r_lt, r_eq, r_md, r_2, r_3, r_lit, r_litL, r_m1, nI_add, nI_1, nI_clamp, nI_leI, nI_ltI, nI_eq, pk_sub, q_ix, nI_l, lN_add, lN_mul, r_m1n, r_m1n', r_m1lt, r_m1nlt, r_m1le, r_m1nle, Nat.not_lt_zero, Nat.reduceEqDiff, Nat.reduceLT, Nat.reduceLeDiff, true_and, and_true, true_implies, false_implies, not_true_eq_false, not_false_eq_true, implies_true, and_self, ne_eq, decide_true, decide_false, Bool.not_true, Bool.not_false, if_true, if_false, reduceIte, mk0, mk1, mk2, mk3, mk4, mk5, mk6, mk7, mk8, mk9, mk10, mk11, mk12, mk13, mk14, mk15, mk16, mk17, mk18, mk19, mk20, mk21, mk22, mn1, mn2, mn3, mn4, mn5, mn6, mn7, mn8, mn9, mn10, mn11, mn12, mn13, mn14, mn15, mn16, mn17, mn18, mn19, mn20, mn21, mn22, mr1, mr6, mr7, mr8, mr9, mr10, mr21, mr22, mr23, mr25, mr26, mr29, mr30, mr32, mr33, mr34, mr43, mr47, mr53, mr54, mr55, mr56, e2, pk_mul, show ¬ 13 ≤ i by omega]
    refine ⟨f.sI (by omega), fun j hj => ?_, fun j hj => ?_⟩
    · by_cases c : j = i
      · subst c
        simp (disch := first | assumption | omega) only [q_IL, q_IR, q_LI, q_LR, q_RI, q_RL, q_KI, q_KL, q_KR, q_NI, q_NL, q_NR, q_nI, q_nL, q_nR, q_okI, q_okL, q_okR, q_Ie, q_In, q_Le, q_Ln, SM_I, SM_L, s_c0, s_cg0, s_cl0, s_cge, s_cle, r_le, r_lt, r_eq, r_md, r_2, r_3, r_lit, r_litL, r_m1, nI_add, nI_1, nI_clamp, nI_leI, nI_ltI, nI_eq, pk_sub, q_ix, nI_l, lN_add, lN_mul, r_m1n, r_m1n', r_m1lt, r_m1nlt, r_m1le, r_m1nle, Nat.not_lt_zero, Nat.reduceEqDiff, Nat.reduceLT, Nat.reduceLeDiff, true_and, and_true, true_implies, false_implies, not_true_eq_false, not_false_eq_true, implies_true, and_self, ne_eq, decide_true, decide_false, Bool.not_true, Bool.not_false, if_true, if_false, reduceIte, mk0, mk1, mk2, mk3, mk4, mk5, mk6, mk7, mk8, mk9, mk10, mk11, mk12, mk13, mk14, mk15, mk16, mk17, mk18, mk19, mk20, mk21, mk22, mn1, mn2, mn3, mn4, mn5, mn6, mn7, mn8, mn9, mn10, mn11, mn12, mn13, mn14, mn15, mn16, mn17, mn18, mn19, mn20, mn21, mn22, mr1, mr6, mr7, mr8, mr9, mr10, mr21, mr22, mr23, mr25, mr26, mr29, mr30, mr32, mr33, mr34, mr43, mr47, mr53, mr54, mr55, mr56, e3]
      · simp (disch := first | assumption | omega) only [q_IL, q_IR, q_LI, q_LR, q_RI, q_RL, q_KI, q_KL, q_KR, q_NI, q_NL, q_NR, q_nI, q_nL, q_nR, q_okI, q_okL, q_okR, q_Ie, q_In, q_Le, q_Ln, SM_I, SM_L, s_c0, s_cg0, s_cl0, s_cge, s_cle, r_le, r_lt, r_eq, r_md, r_2, r_3, r_lit, r_litL, r_m1, nI_add, nI_1, nI_clamp, nI_leI, nI_ltI, nI_eq, pk_sub, q_ix, nI_l, lN_add, lN_mul, r_m1n, r_m1n', r_m1lt, r_m1nlt, r_m1le, r_m1nle, Nat.not_lt_zero, Nat.reduceEqDiff, Nat.reduceLT, Nat.reduceLeDiff, true_and, and_true, true_implies, false_implies, not_true_eq_false, not_false_eq_true, implies_true, and_self, ne_eq, decide_true, decide_false, Bool.not_true, Bool.not_false, if_true, if_false, reduceIte, mk0, mk1, mk2, mk3, mk4, mk5, mk6, mk7, mk8, mk9, mk10, mk11, mk12, mk13, mk14, mk15, mk16, mk17, mk18, mk19, mk20, mk21, mk22, mn1, mn2, mn3, mn4, mn5, mn6, mn7, mn8, mn9, mn10, mn11, mn12, mn13, mn14, mn15, mn16, mn17, mn18, mn19, mn20, mn21, mn22, mr1, mr6, mr7, mr8, mr9, mr10, mr21, mr22, mr23, mr25, mr26, mr29, mr30, mr32, mr33, mr34, mr43, mr47, mr53, mr54, mr55, mr56]
        exact g1 j (by omega)
    · simp (disch := first | assumption | omega) only [q_IL, q_IR, q_LI, q_LR, q_RI, q_RL, q_KI, q_KL, q_KR, q_NI, q_NL, q_NR, q_nI, q_nL, q_nR, q_okI, q_okL, q_okR, q_Ie, q_In, q_Le, q_Ln, SM_I, SM_L, s_c0, s_cg0, s_cl0, s_cge, s_cle, r_le, r_lt, r_eq, r_md, r_2, r_3, r_lit, r_litL, r_m1, nI_add, nI_1, nI_clamp, nI_leI, nI_ltI, nI_eq, pk_sub, q_ix, nI_l, lN_add, lN_mul, r_m1n, r_m1n', r_m1lt, r_m1nlt, r_m1le, r_m1nle, Nat.not_lt_zero, Nat.reduceEqDiff, Nat.reduceLT, Nat.reduceLeDiff, true_and, and_true, true_implies, false_implies, not_true_eq_false, not_false_eq_true, implies_true, and_self, ne_eq, decide_true, decide_false, Bool.not_true, Bool.not_false, if_true, if_false, reduceIte, mk0, mk1, mk2, mk3, mk4, mk5, mk6, mk7, mk8, mk9, mk10, mk11, mk12, mk13, mk14, mk15, mk16, mk17, mk18, mk19, mk20, mk21, mk22, mn1, mn2, mn3, mn4, mn5, mn6, mn7, mn8, mn9, mn10, mn11, mn12, mn13, mn14, mn15, mn16, mn17, mn18, mn19, mn20, mn21, mn22, mr1, mr6, mr7, mr8, mr9, mr10, mr21, mr22, mr23, mr25, mr26, mr29, mr30, mr32, mr33, mr34, mr43, mr47, mr53, mr54, mr55, mr56]
      exact g2 j hj
  · rintro ⟨x, h1⟩ ⟨e1, f, e2, g1, g2⟩
    dsimp only at e1 f e2 g1 g2
    subst e1
    have s1 := f.s s
    unfold fX12_keep_b46_i
    simp (disch := first | assumption | omega) only [p_some, p_gd, p_br, p_bi, p_nm, p_mp, p_Sl, p_Sr, p_bis, p_gdt, q_IL, q_IR, q_LI, q_LR, q_RI, q_RL, q_KI, q_KL, q_KR, q_NI, q_NL, q_NR, q_nI, q_nL, q_nR, q_okI, q_okL, q_okR, q_Ie, q_In, q_Le, q_Ln, SM_I, SM_L, s_c0, s_cg0, s_cl0, s_cge, s_cle, r_le, r_lt, r_eq, r_md, r_2, r_3, r_lit, r_litL, r_m1, nI_add, nI_1, nI_clamp, nI_leI, nI_ltI, nI_eq, pk_sub, q_ix, nI_l, lN_add, lN_mul, r_m1n, r_m1n', r_m1lt, r_m1nlt, r_m1le, r_m1nle, Nat.not_lt_zero, Nat.reduceEqDiff, Nat.reduceLT, Nat.reduceLeDiff, true_and, and_true, true_implies, false_implies, not_true_eq_false, not_false_eq_true, implies_true, and_self, ne_eq, decide_true, decide_false, Bool.not_true, Bool.not_false, if_true, if_false, reduceIte, mk0, mk1, mk2, mk3, mk4, mk5, mk6, mk7, mk8, mk9, mk10, mk11, mk12, mk13, mk14, mk15, mk16, mk17, mk18, mk19, mk20, mk21, mk22, mn1, mn2, mn3, mn4, mn5, mn6, mn7, mn8, mn9, mn10, mn11, mn12, mn13, mn14, mn15, mn16, mn17, mn18, mn19, mn20, mn21, mn22, mr1, mr6, mr7, mr8, mr9, mr10, mr21, mr22, mr23, mr25, mr26, mr29, mr30, mr32, mr33, mr34, mr43, mr47, mr53, mr54, mr55, mr56, e2, Nat.le_refl]
    exact ⟨f.sI (by omega), g1, g2⟩
theorem m_keep {h : z_T} {bk ans : Nat → Nat} {n k : Nat} {pa : Nat → Nat × (Nat → Nat)} {Q : z_T → Prop} (s : SM h) (hN : mNi h bk n ans) (hn : n ≤ 12) (hU : mU h k pa) (hk : k ≤ 8) (hpa : ∀ j, j < k → (pa j).1 ≤ 12)
    (kk : ∀ h', m_fr (fun o k => o ≠ 8 ∧ (o ≠ 0 ∨ k ≠ 24)) h h' → mU h' (min (k + 1) 8) (a_push pa (n, ans)) → Q h') : p_W (fX12_keep 0 h) Q := by
  unfold fX12_keep
  simp (disch := first | assumption | omega) only [p_some, p_gd, p_br, p_bi, p_nm, p_mp, p_Sl, p_Sr, p_bis, p_gdt, q_IL, q_IR, q_LI, q_LR, q_RI, q_RL, q_KI, q_KL, q_KR, q_NI, q_NL, q_NR, q_nI, q_nL, q_nR, q_okI, q_okL, q_okR, q_Ie, q_In, q_Le, q_Ln, SM_I, SM_L, s_c0, s_cg0, s_cl0, s_cge, s_cle, r_le, r_lt, r_eq, r_md, r_2, r_3, r_lit, r_litL, r_m1, nI_add, nI_1, nI_clamp, nI_leI, nI_ltI, nI_eq, pk_sub, q_ix, nI_l, lN_add, lN_mul, r_m1n, r_m1n', r_m1lt, r_m1nlt, r_m1le, r_m1nle, Nat.not_lt_zero, Nat.reduceEqDiff, Nat.reduceLT, Nat.reduceLeDiff, true_and, and_true, true_implies, false_implies, not_true_eq_false, not_false_eq_true, implies_true, and_self, ne_eq, decide_true, decide_false, Bool.not_true, Bool.not_false, if_true, if_false, reduceIte, mk0, mk1, mk2, mk3, mk4, mk5, mk6, mk7, mk8, mk9, mk10, mk11, mk12, mk13, mk14, mk15, mk16, mk17, mk18, mk19, mk20, mk21, mk22, mn1, mn2, mn3, mn4, mn5, mn6, mn7, mn8, mn9, mn10, mn11, mn12, mn13, mn14, mn15, mn16, mn17, mn18, mn19, mn20, mn21, mn22, mr1, mr6, mr7, mr8, mr9, mr10, mr21, mr22, mr23, mr25, mr26, mr29, mr30, mr32, mr33, mr34, mr43, mr47, mr53, mr54, mr55, mr56, hU.1]
  refine ⟨fun c => ?_, fun c => ?_⟩
  · subst c
    unfold fX12_keep_b11
    refine p_for 91 (fun i w => w.1 = nI i ∧ m_fr (fun o k => o ≠ 8 ∧ (o ≠ 0 ∨ k ≠ 24)) h w.2 ∧ (∀ j, j < i → z_I w.2 8 j = z_I h 8 (j + 13)) ∧ ∀ j, i ≤ j → z_I w.2 8 j = z_I h 8 j) ?_ ?_ 0 (by omega) ⟨rfl, m_fr.rf, fun j hj => absurd hj (by omega), fun _ _ => rfl⟩
    · rintro i ⟨x, h1⟩ hi ⟨e1, f, g1, g2⟩
      dsimp only at e1 f g1 g2
      subst e1
      have s1 := f.s s
      have e3 := g2 (i + 13) (by omega)
      unfold fX12_keep_b11_i
      simp (disch := first | assumption | omega) only [p_some, p_gd, p_br, p_bi, p_nm, p_mp, p_Sl, p_Sr, p_bis, p_gdt, q_IL, q_IR, q_LI, q_LR, q_RI, q_RL, q_KI, q_KL, q_KR, q_NI, q_NL, q_NR, q_nI, q_nL, q_nR, q_okI, q_okL, q_okR, q_Ie, q_In, q_Le, q_Ln, SM_I, SM_L, s_c0, s_cg0, s_cl0, s_cge, s_cle, r_le, r_lt, r_eq, r_md, r_2, r_3, r_lit, r_litL, r_m1, nI_add, nI_1, nI_clamp, nI_leI, nI_ltI, nI_eq, pk_sub, q_ix, nI_l, lN_add, lN_mul, r_m1n, r_m1n', r_m1lt, r_m1nlt, r_m1le, r_m1nle, Nat.not_lt_zero, Nat.reduceEqDiff, Nat.reduceLT, Nat.reduceLeDiff, true_and, and_true, true_implies, false_implies, not_true_eq_false, not_false_eq_true, implies_true, and_self, ne_eq, decide_true, decide_false, Bool.not_true, Bool.not_false, if_true, if_false, reduceIte, mk0, mk1, mk2, mk3, mk4, mk5, mk6, mk7, mk8, mk9, mk10, mk11, mk12, mk13, mk14, mk15, mk16, mk17, mk18, mk19, mk20, mk21, mk22, mn1, mn2, mn3, mn4, mn5, mn6, mn7, mn8, mn9, mn10, mn11, mn12, mn13, mn14, mn15, mn16, mn17, mn18, mn19, mn20, mn21, mn22, mr1, mr6, mr7, mr8, mr9, mr10, mr21, mr22, mr23, mr25, mr26, mr29, mr30, mr32, mr33, mr34, mr43, mr47, mr53, mr54, mr55, mr56, e3, show ¬ 91 ≤ i by omega]
      refine ⟨f.sI (by omega), fun j hj => ?_, fun j hj => ?_⟩
      · by_cases c : j = i
        · subst c
          simp (disch := first | assumption | omega) only [q_IL, q_IR, q_LI, q_LR, q_RI, q_RL, q_KI, q_KL, q_KR, q_NI, q_NL, q_NR, q_nI, q_nL, q_nR, q_okI, q_okL, q_okR, q_Ie, q_In, q_Le, q_Ln, SM_I, SM_L, s_c0, s_cg0, s_cl0, s_cge, s_cle, r_le, r_lt, r_eq, r_md, r_2, r_3, r_lit, r_litL, r_m1, nI_add, nI_1, nI_clamp, nI_leI, nI_ltI, nI_eq, pk_sub, q_ix, nI_l, lN_add, lN_mul, r_m1n, r_m1n', r_m1lt, r_m1nlt, r_m1le, r_m1nle, Nat.not_lt_zero, Nat.reduceEqDiff, Nat.reduceLT, Nat.reduceLeDiff, true_and, and_true, true_implies, false_implies, not_true_eq_false, not_false_eq_true, implies_true, and_self, ne_eq, decide_true, decide_false, Bool.not_true, Bool.not_false, if_true, if_false, reduceIte, mk0, mk1, mk2, mk3, mk4, mk5, mk6, mk7, mk8, mk9, mk10, mk11, mk12, mk13, mk14, mk15, mk16, mk17, mk18, mk19, mk20, mk21, mk22, mn1, mn2, mn3, mn4, mn5, mn6, mn7, mn8, mn9, mn10, mn11, mn12, mn13, mn14, mn15, mn16, mn17, mn18, mn19, mn20, mn21, mn22, mr1, mr6, mr7, mr8, mr9, mr10, mr21, mr22, mr23, mr25, mr26, mr29, mr30, mr32, mr33, mr34, mr43, mr47, mr53, mr54, mr55, mr56]
        · simp (disch := first | assumption | omega) only [q_IL, q_IR, q_LI, q_LR, q_RI, q_RL, q_KI, q_KL, q_KR, q_NI, q_NL, q_NR, q_nI, q_nL, q_nR, q_okI, q_okL, q_okR, q_Ie, q_In, q_Le, q_Ln, SM_I, SM_L, s_c0, s_cg0, s_cl0, s_cge, s_cle, r_le, r_lt, r_eq, r_md, r_2, r_3, r_lit, r_litL, r_m1, nI_add, nI_1, nI_clamp, nI_leI, nI_ltI, nI_eq, pk_sub, q_ix, nI_l, lN_add, lN_mul, r_m1n, r_m1n', r_m1lt, r_m1nlt, r_m1le, r_m1nle, Nat.not_lt_zero, Nat.reduceEqDiff, Nat.reduceLT, Nat.reduceLeDiff, true_and, and_true, true_implies, false_implies, not_true_eq_false, not_false_eq_true, implies_true, and_self, ne_eq, decide_true, decide_false, Bool.not_true, Bool.not_false, if_true, if_false, reduceIte, mk0, mk1, mk2, mk3, mk4, mk5, mk6, mk7, mk8, mk9, mk10, mk11, mk12, mk13, mk14, mk15, mk16, mk17, mk18, mk19, mk20, mk21, mk22, mn1, mn2, mn3, mn4, mn5, mn6, mn7, mn8, mn9, mn10, mn11, mn12, mn13, mn14, mn15, mn16, mn17, mn18, mn19, mn20, mn21, mn22, mr1, mr6, mr7, mr8, mr9, mr10, mr21, mr22, mr23, mr25, mr26, mr29, mr30, mr32, mr33, mr34, mr43, mr47, mr53, mr54, mr55, mr56]
          exact g1 j (by omega)
      · simp (disch := first | assumption | omega) only [q_IL, q_IR, q_LI, q_LR, q_RI, q_RL, q_KI, q_KL, q_KR, q_NI, q_NL, q_NR, q_nI, q_nL, q_nR, q_okI, q_okL, q_okR, q_Ie, q_In, q_Le, q_Ln, SM_I, SM_L, s_c0, s_cg0, s_cl0, s_cge, s_cle, r_le, r_lt, r_eq, r_md, r_2, r_3, r_lit, r_litL, r_m1, nI_add, nI_1, nI_clamp, nI_leI, nI_ltI, nI_eq, pk_sub, q_ix, nI_l, lN_add, lN_mul, r_m1n, r_m1n', r_m1lt, r_m1nlt, r_m1le, r_m1nle, Nat.not_lt_zero, Nat.reduceEqDiff, Nat.reduceLT, Nat.reduceLeDiff, true_and, and_true, true_implies, false_implies, not_true_eq_false, not_false_eq_true, implies_true, and_self, ne_eq, decide_true, decide_false, Bool.not_true, Bool.not_false, if_true, if_false, reduceIte, mk0, mk1, mk2, mk3, mk4, mk5, mk6, mk7, mk8, mk9, mk10, mk11, mk12, mk13, mk14, mk15, mk16, mk17, mk18, mk19, mk20, mk21, mk22, mn1, mn2, mn3, mn4, mn5, mn6, mn7, mn8, mn9, mn10, mn11, mn12, mn13, mn14, mn15, mn16, mn17, mn18, mn19, mn20, mn21, mn22, mr1, mr6, mr7, mr8, mr9, mr10, mr21, mr22, mr23, mr25, mr26, mr29, mr30, mr32, mr33, mr34, mr43, mr47, mr53, mr54, mr55, mr56]
        exact g2 j (by omega)
    · rintro ⟨x, h1⟩ ⟨e1, f, g1, g2⟩
      dsimp only at e1 f g1 g2
      subst e1
      have s1 := f.s s
      unfold fX12_keep_b11_i
      simp (disch := first | assumption | omega) only [p_some, p_gd, p_br, p_bi, p_nm, p_mp, p_Sl, p_Sr, p_bis, p_gdt, q_IL, q_IR, q_LI, q_LR, q_RI, q_RL, q_KI, q_KL, q_KR, q_NI, q_NL, q_NR, q_nI, q_nL, q_nR, q_okI, q_okL, q_okR, q_Ie, q_In, q_Le, q_Ln, SM_I, SM_L, s_c0, s_cg0, s_cl0, s_cge, s_cle, r_le, r_lt, r_eq, r_md, r_2, r_3, r_lit, r_litL, r_m1, nI_add, nI_1, nI_clamp, nI_leI, nI_ltI, nI_eq, pk_sub, q_ix, nI_l, lN_add, lN_mul, r_m1n, r_m1n', r_m1lt, r_m1nlt, r_m1le, r_m1nle, Nat.not_lt_zero, Nat.reduceEqDiff, Nat.reduceLT, Nat.reduceLeDiff, true_and, and_true, true_implies, false_implies, not_true_eq_false, not_false_eq_true, implies_true, and_self, ne_eq, decide_true, decide_false, Bool.not_true, Bool.not_false, if_true, if_false, reduceIte, mk0, mk1, mk2, mk3, mk4, mk5, mk6, mk7, mk8, mk9, mk10, mk11, mk12, mk13, mk14, mk15, mk16, mk17, mk18, mk19, mk20, mk21, mk22, mn1, mn2, mn3, mn4, mn5, mn6, mn7, mn8, mn9, mn10, mn11, mn12, mn13, mn14, mn15, mn16, mn17, mn18, mn19, mn20, mn21, mn22, mr1, mr6, mr7, mr8, mr9, mr10, mr21, mr22, mr23, mr25, mr26, mr29, mr30, mr32, mr33, mr34, mr43, mr47, mr53, mr54, mr55, mr56, Nat.le_refl]
      refine p_mono (m_keepB (k := 7) (h := z_sI h1 0 24 (nI 7)) s1 (by omega) (q_Ie rfl rfl)) (fun h2 q => ?_)
      obtain ⟨f2, e2, q1, q2⟩ := q
      refine kk h2 ((f.sI (by omega)).tr f2) ⟨e2, fun j hj => ?_⟩
      have e4 : ∀ j, z_I (z_sI h1 0 24 (nI 7)) 8 j = z_I h1 8 j := fun j => q_In (by omega)
      have e5 : ∀ j, z_I (z_sI h1 0 24 (nI 7)) 2 j = z_I h 2 j := fun j => (q_In (by omega)).trans (f.I 2 j (by omega))
      match j, hj with
      | 0, _ =>
        refine ⟨?_, fun i hi => ?_⟩
        · have := q1 0 (by omega)
          rw [e5, hN.2.1] at this
          exact this
        · have hi' : i < n := hi
          have := q1 (1 + i) (by omega)
          rw [e5, show 36 + (1 + i) = 37 + i by omega, hN.2.2 i hi'] at this
          rw [show 13 * (min (8 + 1) 8 - 1 - 0) + 1 + i = 13 * 7 + (1 + i) by omega]
          exact this
      | j + 1, hj =>
        have hu := hU.2 j (by omega)
        refine ⟨?_, fun i hi => ?_⟩
        · rw [q2 _ (by omega), e4, g1 _ (by omega), show 13 * (min (8 + 1) 8 - 1 - (j + 1)) + 13 = 13 * (8 - 1 - j) by omega]
          exact hu.1
        · have hi' : i < (pa j).1 := hi
          have h12 := hpa j (by omega)
          rw [q2 _ (by omega), e4, g1 _ (by omega), show 13 * (min (8 + 1) 8 - 1 - (j + 1)) + 1 + i + 13 = 13 * (8 - 1 - j) + 1 + i by omega]
          exact hu.2 i hi'
  · refine p_mono (m_keepB (k := k) s (by omega) hU.1) (fun h2 q => ?_)
    obtain ⟨f2, e2, q1, q2⟩ := q
    refine kk h2 f2 ⟨by rw [e2, Nat.min_eq_left (by omega)], fun j hj => ?_⟩
    match j, hj with
    | 0, _ =>
      refine ⟨?_, fun i hi => ?_⟩
      · have := q1 0 (by omega)
        rw [hN.2.1] at this
        rw [show 13 * (min (k + 1) 8 - 1 - 0) = 13 * k + 0 by omega]
        exact this
      · have hi' : i < n := hi
        have := q1 (1 + i) (by omega)
        rw [show 36 + (1 + i) = 37 + i by omega, hN.2.2 i hi'] at this
        rw [show 13 * (min (k + 1) 8 - 1 - 0) + 1 + i = 13 * k + (1 + i) by omega]
        exact this
    | j + 1, hj =>
      have hu := hU.2 j (by omega)
      refine ⟨?_, fun i hi => ?_⟩
      · rw [q2 _ (by omega), show 13 * (min (k + 1) 8 - 1 - (j + 1)) = 13 * (k - 1 - j) by omega]
        exact hu.1
      · have hi' : i < (pa j).1 := hi
        have h12 := hpa j (by omega)
        rw [q2 _ (by omega), show 13 * (min (k + 1) 8 - 1 - (j + 1)) + 1 + i = 13 * (k - 1 - j) + 1 + i by omega]
        exact hu.2 i hi'
theorem m_undo {h : z_T} {bk ans : Nat → Nat} {n k : Nat} {pa : Nat → Nat × (Nat → Nat)} {Q : Int32 × z_T → Prop} (s : SM h) (hN : mNi h bk n ans) (hU : mU h k pa) (hk : k ≤ 8) (hpa : ∀ j, j < k → (pa j).1 ≤ 12)
    (k0 : ∀ h', m_fr mKp h h' → k = 0 → Q (m1, h')) (k1 : ∀ h', m_fr (fun o j => mKp o j ∧ (o ≠ 2 ∨ j < 36) ∧ (o ≠ 0 ∨ j ≠ 24)) h h' → 0 < k → mNi h' bk (pa 0).1 (pa 0).2 → mU h' (k - 1) (fun j => pa (j + 1)) → Q (nI (k - 1), h')) : p_W (fX12_undo 0 h) Q := by
  unfold fX12_undo
  simp (disch := first | assumption | omega) only [p_some, p_gd, p_br, p_bi, p_nm, p_mp, p_Sl, p_Sr, p_bis, p_gdt, q_IL, q_IR, q_LI, q_LR, q_RI, q_RL, q_KI, q_KL, q_KR, q_NI, q_NL, q_NR, q_nI, q_nL, q_nR, q_okI, q_okL, q_okR, q_Ie, q_In, q_Le, q_Ln, SM_I, SM_L, s_c0, s_cg0, s_cl0, s_cge, s_cle, r_le, r_lt, r_eq, r_md, r_2, r_3, r_lit, r_litL, r_m1, nI_add, nI_1, nI_clamp, nI_leI, nI_ltI, nI_eq, pk_sub, q_ix, nI_l, lN_add, lN_mul, r_m1n, r_m1n', r_m1lt, r_m1nlt, r_m1le, r_m1nle, Nat.not_lt_zero, Nat.reduceEqDiff, Nat.reduceLT, Nat.reduceLeDiff, true_and, and_true, true_implies, false_implies, not_true_eq_false, not_false_eq_true, implies_true, and_self, ne_eq, decide_true, decide_false, Bool.not_true, Bool.not_false, if_true, if_false, reduceIte, mk0, mk1, mk2, mk3, mk4, mk5, mk6, mk7, mk8, mk9, mk10, mk11, mk12, mk13, mk14, mk15, mk16, mk17, mk18, mk19, mk20, mk21, mk22, mn1, mn2, mn3, mn4, mn5, mn6, mn7, mn8, mn9, mn10, mn11, mn12, mn13, mn14, mn15, mn16, mn17, mn18, mn19, mn20, mn21, mn22, mr1, mr6, mr7, mr8, mr9, mr10, mr21, mr22, mr23, mr25, mr26, mr29, mr30, mr32, mr33, mr34, mr43, mr47, mr53, mr54, mr55, mr56, hU.1]
  refine ⟨fun c => k0 _ m_fr.t0 c, fun c => ?_⟩
  unfold fX12_undo_b26
  have hu := hU.2 0 (by omega)
  have h12 := hpa 0 (by omega)
  refine p_for 13 (fun i w => w.1 = nI i ∧ m_fr (fun o j => mKp o j ∧ (o ≠ 2 ∨ j < 36) ∧ (o ≠ 0 ∨ j ≠ 24)) h w.2 ∧ z_I w.2 0 24 = nI (k - 1) ∧ ∀ j, j < i → z_I w.2 2 (36 + j) = z_I h 8 (13 * (k - 1) + j)) ?_ ?_ 0 (by omega) ⟨rfl, (m_fr.rf.sI (by unfold mKp; omega)).sI (by unfold mKp; omega), (q_Ie rfl rfl).trans (pk_sub (by omega)), fun j hj => absurd hj (by omega)⟩
  · rintro i ⟨x, h1⟩ hi ⟨e1, f, e2, g1⟩
    dsimp only at e1 f e2 g1
    subst e1
    have s1 := f.s s
    have e3 := f.I 8 (13 * (k - 1) + i) (by unfold mKp; omega)
    unfold fX12_undo_b26_i
    simp (disch := first | assumption | omega) only [p_some, p_gd, p_br, p_bi, p_nm, p_mp, p_Sl, p_Sr, p_bis, p_gdt, q_IL, q_IR, q_LI, q_LR, q_RI, q_RL, q_KI, q_KL, q_KR, q_NI, q_NL, q_NR, q_nI, q_nL, q_nR, q_okI, q_okL, q_okR, q_Ie, q_In, q_Le, q_Ln, SM_I, SM_L, s_c0, s_cg0, s_cl0, s_cge, s_cle, r_le, r_lt, r_eq, r_md, r_2, r_3, r_lit, r_litL, r_m1, nI_add, nI_1, nI_clamp, nI_leI, nI_ltI, nI_eq, pk_sub, q_ix, nI_l, lN_add, lN_mul, r_m1n, r_m1n', r_m1lt, r_m1nlt, r_m1le, r_m1nle, Nat.not_lt_zero, Nat.reduceEqDiff, Nat.reduceLT, Nat.reduceLeDiff, true_and, and_true, true_implies, false_implies, not_true_eq_false, not_false_eq_true, implies_true, and_self, ne_eq, decide_true, decide_false, Bool.not_true, Bool.not_false, if_true, if_false, reduceIte, mk0, mk1, mk2, mk3, mk4, mk5, mk6, mk7, mk8, mk9, mk10, mk11, mk12, mk13, mk14, mk15, mk16, mk17, mk18, mk19, mk20, mk21, mk22, mn1, mn2, mn3, mn4, mn5, mn6, mn7, mn8, mn9, mn10, mn11, mn12, mn13, mn14, mn15, mn16, mn17, mn18, mn19, mn20, mn21, mn22, mr1, mr6, mr7, mr8, mr9, mr10, mr21, mr22, mr23, mr25, mr26, mr29, mr30, mr32, mr33, mr34, mr43, mr47, mr53, mr54, mr55, mr56, e2, pk_mul, e3, show ¬ 13 ≤ i by omega]
    refine ⟨f.sI (by unfold mKp; omega), fun j hj => ?_⟩
    by_cases c : j = i
    · subst c
      simp (disch := first | assumption | omega) only [q_IL, q_IR, q_LI, q_LR, q_RI, q_RL, q_KI, q_KL, q_KR, q_NI, q_NL, q_NR, q_nI, q_nL, q_nR, q_okI, q_okL, q_okR, q_Ie, q_In, q_Le, q_Ln, SM_I, SM_L, s_c0, s_cg0, s_cl0, s_cge, s_cle, r_le, r_lt, r_eq, r_md, r_2, r_3, r_lit, r_litL, r_m1, nI_add, nI_1, nI_clamp, nI_leI, nI_ltI, nI_eq, pk_sub, q_ix, nI_l, lN_add, lN_mul, r_m1n, r_m1n', r_m1lt, r_m1nlt, r_m1le, r_m1nle, Nat.not_lt_zero, Nat.reduceEqDiff, Nat.reduceLT, Nat.reduceLeDiff, true_and, and_true, true_implies, false_implies, not_true_eq_false, not_false_eq_true, implies_true, and_self, ne_eq, decide_true, decide_false, Bool.not_true, Bool.not_false, if_true, if_false, reduceIte, mk0, mk1, mk2, mk3, mk4, mk5, mk6, mk7, mk8, mk9, mk10, mk11, mk12, mk13, mk14, mk15, mk16, mk17, mk18, mk19, mk20, mk21, mk22, mn1, mn2, mn3, mn4, mn5, mn6, mn7, mn8, mn9, mn10, mn11, mn12, mn13, mn14, mn15, mn16, mn17, mn18, mn19, mn20, mn21, mn22, mr1, mr6, mr7, mr8, mr9, mr10, mr21, mr22, mr23, mr25, mr26, mr29, mr30, mr32, mr33, mr34, mr43, mr47, mr53, mr54, mr55, mr56]
    · simp (disch := first | assumption | omega) only [q_IL, q_IR, q_LI, q_LR, q_RI, q_RL, q_KI, q_KL, q_KR, q_NI, q_NL, q_NR, q_nI, q_nL, q_nR, q_okI, q_okL, q_okR, q_Ie, q_In, q_Le, q_Ln, SM_I, SM_L, s_c0, s_cg0, s_cl0, s_cge, s_cle, r_le, r_lt, r_eq, r_md, r_2, r_3, r_lit, r_litL, r_m1, nI_add, nI_1, nI_clamp, nI_leI, nI_ltI, nI_eq, pk_sub, q_ix, nI_l, lN_add, lN_mul, r_m1n, r_m1n', r_m1lt, r_m1nlt, r_m1le, r_m1nle, Nat.not_lt_zero, Nat.reduceEqDiff, Nat.reduceLT, Nat.reduceLeDiff, true_and, and_true, true_implies, false_implies, not_true_eq_false, not_false_eq_true, implies_true, and_self, ne_eq, decide_true, decide_false, Bool.not_true, Bool.not_false, if_true, if_false, reduceIte, mk0, mk1, mk2, mk3, mk4, mk5, mk6, mk7, mk8, mk9, mk10, mk11, mk12, mk13, mk14, mk15, mk16, mk17, mk18, mk19, mk20, mk21, mk22, mn1, mn2, mn3, mn4, mn5, mn6, mn7, mn8, mn9, mn10, mn11, mn12, mn13, mn14, mn15, mn16, mn17, mn18, mn19, mn20, mn21, mn22, mr1, mr6, mr7, mr8, mr9, mr10, mr21, mr22, mr23, mr25, mr26, mr29, mr30, mr32, mr33, mr34, mr43, mr47, mr53, mr54, mr55, mr56]
      exact g1 j (by omega)
  · rintro ⟨x, h1⟩ ⟨e1, f, e2, g1⟩
    dsimp only at e1 f e2 g1
    subst e1
    have s1 := f.s s
    unfold fX12_undo_b26_i
    simp (disch := first | assumption | omega) only [p_some, p_gd, p_br, p_bi, p_nm, p_mp, p_Sl, p_Sr, p_bis, p_gdt, q_IL, q_IR, q_LI, q_LR, q_RI, q_RL, q_KI, q_KL, q_KR, q_NI, q_NL, q_NR, q_nI, q_nL, q_nR, q_okI, q_okL, q_okR, q_Ie, q_In, q_Le, q_Ln, SM_I, SM_L, s_c0, s_cg0, s_cl0, s_cge, s_cle, r_le, r_lt, r_eq, r_md, r_2, r_3, r_lit, r_litL, r_m1, nI_add, nI_1, nI_clamp, nI_leI, nI_ltI, nI_eq, pk_sub, q_ix, nI_l, lN_add, lN_mul, r_m1n, r_m1n', r_m1lt, r_m1nlt, r_m1le, r_m1nle, Nat.not_lt_zero, Nat.reduceEqDiff, Nat.reduceLT, Nat.reduceLeDiff, true_and, and_true, true_implies, false_implies, not_true_eq_false, not_false_eq_true, implies_true, and_self, ne_eq, decide_true, decide_false, Bool.not_true, Bool.not_false, if_true, if_false, reduceIte, mk0, mk1, mk2, mk3, mk4, mk5, mk6, mk7, mk8, mk9, mk10, mk11, mk12, mk13, mk14, mk15, mk16, mk17, mk18, mk19, mk20, mk21, mk22, mn1, mn2, mn3, mn4, mn5, mn6, mn7, mn8, mn9, mn10, mn11, mn12, mn13, mn14, mn15, mn16, mn17, mn18, mn19, mn20, mn21, mn22, mr1, mr6, mr7, mr8, mr9, mr10, mr21, mr22, mr23, mr25, mr26, mr29, mr30, mr32, mr33, mr34, mr43, mr47, mr53, mr54, mr55, mr56, e2, Nat.le_refl]
    refine k1 h1 f (by omega) ⟨fun j hj => (f.I 2 j (by unfold mKp; omega)).trans (hN.1 j hj), ?_, fun i hi => ?_⟩ ⟨e2, fun j hj => ?_⟩
    · have := g1 0 (by omega)
      rw [this]
      exact hu.1
    · have := g1 (1 + i) (by omega)
      rw [show 36 + (1 + i) = 37 + i by omega] at this
      rw [this, show 13 * (k - 1) + (1 + i) = 13 * (k - 1 - 0) + 1 + i by omega]
      exact hu.2 i hi
    · have hv := hU.2 (j + 1) (by omega)
      rw [show k - 1 - 1 - j = k - 1 - (j + 1) by omega]
      exact ⟨(f.I 8 _ (by unfold mKp; omega)).trans hv.1, fun i hi => (f.I 8 _ (by unfold mKp; omega)).trans (hv.2 i hi)⟩
theorem m_sleep {h : z_T} {bk ans : Nat → Nat} {n k : Nat} {pa : Nat → Nat × (Nat → Nat)} {Q : Int32 × z_T → Prop} (s : SM h) (hN : mNi h bk n ans) (hn : n ≤ 12) (hU : mU h k pa) (hk : k ≤ 8) (hpa : ∀ j, j < k → (pa j).1 ≤ 12)
    (kk : ∀ h', m_fr (fun o j => mKp o j ∧ o ≠ 8 ∧ (o ≠ 0 ∨ j ≠ 24) ∧ (o ≠ 2 ∨ j ≠ 36)) h h' → mU h' (min (k + 1) 8) (a_push pa (n, ans)) → mNi h' bk 0 ans → Q (nI n, h')) : p_W (fX12_sleep 0 h) Q := by
  have s0 : SM (z_sI h 0 0 (nI 0)) := s
  unfold fX12_sleep
  simp (disch := first | assumption | omega) only [p_some, p_gd, p_br, p_bi, p_nm, p_mp, p_Sl, p_Sr, p_bis, p_gdt, q_IL, q_IR, q_LI, q_LR, q_RI, q_RL, q_KI, q_KL, q_KR, q_NI, q_NL, q_NR, q_nI, q_nL, q_nR, q_okI, q_okL, q_okR, q_Ie, q_In, q_Le, q_Ln, SM_I, SM_L, s_c0, s_cg0, s_cl0, s_cge, s_cle, r_le, r_lt, r_eq, r_md, r_2, r_3, r_lit, r_litL, r_m1, nI_add, nI_1, nI_clamp, nI_leI, nI_ltI, nI_eq, pk_sub, q_ix, nI_l, lN_add, lN_mul, r_m1n, r_m1n', r_m1lt, r_m1nlt, r_m1le, r_m1nle, Nat.not_lt_zero, Nat.reduceEqDiff, Nat.reduceLT, Nat.reduceLeDiff, true_and, and_true, true_implies, false_implies, not_true_eq_false, not_false_eq_true, implies_true, and_self, ne_eq, decide_true, decide_false, Bool.not_true, Bool.not_false, if_true, if_false, reduceIte, mk0, mk1, mk2, mk3, mk4, mk5, mk6, mk7, mk8, mk9, mk10, mk11, mk12, mk13, mk14, mk15, mk16, mk17, mk18, mk19, mk20, mk21, mk22, mn1, mn2, mn3, mn4, mn5, mn6, mn7, mn8, mn9, mn10, mn11, mn12, mn13, mn14, mn15, mn16, mn17, mn18, mn19, mn20, mn21, mn22, mr1, mr6, mr7, mr8, mr9, mr10, mr21, mr22, mr23, mr25, mr26, mr29, mr30, mr32, mr33, mr34, mr43, mr47, mr53, mr54, mr55, mr56]
  refine m_keep s0 hN.t0 hn (hU.fr m_fr.t0 (by unfold mKp; omega) (fun k => by unfold mKp; omega)) hk hpa (fun h1 f hU1 => ?_)
  have s1 := f.s s0
  have hN1 := (hN.t0 (v := nI 0)).fr f (fun k => by omega)
  simp (disch := first | assumption | omega) only [p_some, p_gd, p_br, p_bi, p_nm, p_mp, p_Sl, p_Sr, p_bis, p_gdt, q_IL, q_IR, q_LI, q_LR, q_RI, q_RL, q_KI, q_KL, q_KR, q_NI, q_NL, q_NR, q_nI, q_nL, q_nR, q_okI, q_okL, q_okR, q_Ie, q_In, q_Le, q_Ln, SM_I, SM_L, s_c0, s_cg0, s_cl0, s_cge, s_cle, r_le, r_lt, r_eq, r_md, r_2, r_3, r_lit, r_litL, r_m1, nI_add, nI_1, nI_clamp, nI_leI, nI_ltI, nI_eq, pk_sub, q_ix, nI_l, lN_add, lN_mul, r_m1n, r_m1n', r_m1lt, r_m1nlt, r_m1le, r_m1nle, Nat.not_lt_zero, Nat.reduceEqDiff, Nat.reduceLT, Nat.reduceLeDiff, true_and, and_true, true_implies, false_implies, not_true_eq_false, not_false_eq_true, implies_true, and_self, ne_eq, decide_true, decide_false, Bool.not_true, Bool.not_false, if_true, if_false, reduceIte, mk0, mk1, mk2, mk3, mk4, mk5, mk6, mk7, mk8, mk9, mk10, mk11, mk12, mk13, mk14, mk15, mk16, mk17, mk18, mk19, mk20, mk21, mk22, mn1, mn2, mn3, mn4, mn5, mn6, mn7, mn8, mn9, mn10, mn11, mn12, mn13, mn14, mn15, mn16, mn17, mn18, mn19, mn20, mn21, mn22, mr1, mr6, mr7, mr8, mr9, mr10, mr21, mr22, mr23, mr25, mr26, mr29, mr30, mr32, mr33, mr34, mr43, mr47, mr53, mr54, mr55, mr56, hN1.2.1]
  refine kk _ ((m_fr.t0.w (fun o k c => c.1)).tr (f.w (fun o k c => ⟨c.2.1, c.2.2.1⟩)) |>.sI (by omega)) (hU1.fr (C := fun o k => o ≠ 2 ∨ k ≠ 36) (m_fr.rf.sI (by omega)) (by omega) (fun k => by omega)) ⟨fun k hk => (q_In (by omega)).trans (hN1.1 k hk), q_Ie rfl rfl, fun i hi => absurd hi (by omega)⟩
theorem m_ask {h : z_T} {bk ans : Nat → Nat} {n k : Nat} {pa : Nat → Nat × (Nat → Nat)} {Q : Int32 × z_T → Prop} (s : SM h) (b : BOK bk) (hN : mNi h bk n ans) (hO : NOK bk ans n) (hU : mU h k pa) (hk : k ≤ 8) (hpa : ∀ j, j < k → (pa j).1 ≤ 12) (x y : Int32)
    (k0 : ∀ h', m_fr (fun o j => mKp o j ∧ (o ≠ 2 ∨ j ≠ 37 + n)) h h' → ¬ (z_ix x (bk 0) = true ∧ z_ix y 2 = true ∧ n < 12 ∧ 0 < a_all bk (a_u ans n (2 * x.toNatClampNeg + y.toNatClampNeg)) (n + 1)) → Q (m1, h'))
    (k1 : ∀ h', m_fr (fun o j => mKp o j ∧ o ≠ 8 ∧ (o ≠ 0 ∨ j ≠ 24) ∧ (o ≠ 2 ∨ j < 36)) h h' → (z_ix x (bk 0) = true ∧ z_ix y 2 = true ∧ n < 12 ∧ 0 < a_all bk (a_u ans n (2 * x.toNatClampNeg + y.toNatClampNeg)) (n + 1)) → mU h' (min (k + 1) 8) (a_push pa (n, ans)) → mNi h' bk (n + 1) (a_u ans n (2 * x.toNatClampNeg + y.toNatClampNeg)) → Q (nI (n + 1), h')) : p_W (fX12_ask 0 x y h) Q := by
  have hn := hO.1
  have h0 := b.1
  have s0 : SM (z_sI h 0 0 (nI 0)) := s
  have f0 : m_fr (fun o j => mKp o j ∧ (o ≠ 2 ∨ j ≠ 37 + n)) h (z_sI h 0 0 (nI 0)) := m_fr.t0.w (fun o k c => c.1)
  unfold fX12_ask
  simp (disch := first | assumption | omega) only [p_some, p_gd, p_br, p_bi, p_nm, p_mp, p_Sl, p_Sr, p_bis, p_gdt, q_IL, q_IR, q_LI, q_LR, q_RI, q_RL, q_KI, q_KL, q_KR, q_NI, q_NL, q_NR, q_nI, q_nL, q_nR, q_okI, q_okL, q_okR, q_Ie, q_In, q_Le, q_Ln, SM_I, SM_L, s_c0, s_cg0, s_cl0, s_cge, s_cle, r_le, r_lt, r_eq, r_md, r_2, r_3, r_lit, r_litL, r_m1, nI_add, nI_1, nI_clamp, nI_leI, nI_ltI, nI_eq, pk_sub, q_ix, nI_l, lN_add, lN_mul, r_m1n, r_m1n', r_m1lt, r_m1nlt, r_m1le, r_m1nle, Nat.not_lt_zero, Nat.reduceEqDiff, Nat.reduceLT, Nat.reduceLeDiff, true_and, and_true, true_implies, false_implies, not_true_eq_false, not_false_eq_true, implies_true, and_self, ne_eq, decide_true, decide_false, Bool.not_true, Bool.not_false, if_true, if_false, reduceIte, mk0, mk1, mk2, mk3, mk4, mk5, mk6, mk7, mk8, mk9, mk10, mk11, mk12, mk13, mk14, mk15, mk16, mk17, mk18, mk19, mk20, mk21, mk22, mn1, mn2, mn3, mn4, mn5, mn6, mn7, mn8, mn9, mn10, mn11, mn12, mn13, mn14, mn15, mn16, mn17, mn18, mn19, mn20, mn21, mn22, mr1, mr6, mr7, mr8, mr9, mr10, mr21, mr22, mr23, mr25, mr26, mr29, mr30, mr32, mr33, mr34, mr43, mr47, mr53, mr54, mr55, mr56, m_isTest s0 b hN.t0.1, bI_0, m_isInL, hN.2.1]
  refine ⟨fun c => k0 _ f0 (fun q => c q.1), fun c => ⟨fun c2 => k0 _ f0 (fun q => c2 q.2.1), fun c2 => ⟨fun c3 => k0 _ f0 (fun q => by omega), fun c3 => ?_⟩⟩⟩
  have cx := Classical.not_not.mp c
  have cy := Classical.not_not.mp c2
  obtain ⟨t, ht, rfl⟩ := z_ixn c (by omega)
  obtain ⟨st, hst, rfl⟩ := z_ixn c2 (by omega)
  rw [nI_clamp (by omega), nI_clamp (by omega)] at k0 k1
  have f1 : m_fr (fun o j => mKp o j ∧ (o ≠ 2 ∨ j ≠ 37 + n)) h (z_sI (z_sI h 0 0 (nI 0)) 2 (37 + n) (nI (2 * t + st))) := f0.sI (by omega)
  have hB1 : mB (z_sI (z_sI h 0 0 (nI 0)) 2 (37 + n) (nI (2 * t + st))) bk := fun k hk => (f1.I 2 k (by unfold mKp; omega)).trans (hN.1 k hk)
  have hA1 : mA (z_sI (z_sI h 0 0 (nI 0)) 2 (37 + n) (nI (2 * t + st))) (n + 1) (a_u ans n (2 * t + st)) := fun i hi => by
    unfold a_u
    by_cases e : i = n
    · rw [if_pos e, e]; exact q_Ie rfl rfl
    · rw [if_neg e]; exact (f1.I 2 _ (by unfold mKp; omega)).trans (hN.2.2 i (by omega))
  have ha1 : ∀ i, i < n + 1 → a_u ans n (2 * t + st) i < 2 * bk 0 := fun i hi => by
    unfold a_u
    by_cases e : i = n
    · rw [if_pos e]; omega
    · rw [if_neg e]; exact hO.2.1 i (by omega)
  obtain ⟨b1, b2, b3, b4⟩ := a_up_b b (show n + 1 ≤ 12 by omega) ha1
  simp (disch := first | assumption | omega) only [p_some, p_gd, p_br, p_bi, p_nm, p_mp, p_Sl, p_Sr, p_bis, p_gdt, q_IL, q_IR, q_LI, q_LR, q_RI, q_RL, q_KI, q_KL, q_KR, q_NI, q_NL, q_NR, q_nI, q_nL, q_nR, q_okI, q_okL, q_okR, q_Ie, q_In, q_Le, q_Ln, SM_I, SM_L, s_c0, s_cg0, s_cl0, s_cge, s_cle, r_le, r_lt, r_eq, r_md, r_2, r_3, r_lit, r_litL, r_m1, nI_add, nI_1, nI_clamp, nI_leI, nI_ltI, nI_eq, pk_sub, q_ix, nI_l, lN_add, lN_mul, r_m1n, r_m1n', r_m1lt, r_m1nlt, r_m1le, r_m1nle, Nat.not_lt_zero, Nat.reduceEqDiff, Nat.reduceLT, Nat.reduceLeDiff, true_and, and_true, true_implies, false_implies, not_true_eq_false, not_false_eq_true, implies_true, and_self, ne_eq, decide_true, decide_false, Bool.not_true, Bool.not_false, if_true, if_false, reduceIte, mk0, mk1, mk2, mk3, mk4, mk5, mk6, mk7, mk8, mk9, mk10, mk11, mk12, mk13, mk14, mk15, mk16, mk17, mk18, mk19, mk20, mk21, mk22, mn1, mn2, mn3, mn4, mn5, mn6, mn7, mn8, mn9, mn10, mn11, mn12, mn13, mn14, mn15, mn16, mn17, mn18, mn19, mn20, mn21, mn22, mr1, mr6, mr7, mr8, mr9, mr10, mr21, mr22, mr23, mr25, mr26, mr29, mr30, mr32, mr33, mr34, mr43, mr47, mr53, mr54, mr55, mr56, hN.2.1, pk_mul]
  refine m_likesQ (ans := a_u ans n (2 * t + st)) (m := n + 1) s b hB1 hA1 ha1 (by omega) (fun h2 f2 _ => ?_)
  simp (disch := first | assumption | omega) only [p_some, p_gd, p_br, p_bi, p_nm, p_mp, p_Sl, p_Sr, p_bis, p_gdt, q_IL, q_IR, q_LI, q_LR, q_RI, q_RL, q_KI, q_KL, q_KR, q_NI, q_NL, q_NR, q_nI, q_nL, q_nR, q_okI, q_okL, q_okR, q_Ie, q_In, q_Le, q_Ln, SM_I, SM_L, s_c0, s_cg0, s_cl0, s_cge, s_cle, r_le, r_lt, r_eq, r_md, r_2, r_3, r_lit, r_litL, r_m1, nI_add, nI_1, nI_clamp, nI_leI, nI_ltI, nI_eq, pk_sub, q_ix, nI_l, lN_add, lN_mul, r_m1n, r_m1n', r_m1lt, r_m1nlt, r_m1le, r_m1nle, Nat.not_lt_zero, Nat.reduceEqDiff, Nat.reduceLT, Nat.reduceLeDiff, true_and, and_true, true_implies, false_implies, not_true_eq_false, not_false_eq_true, implies_true, and_self, ne_eq, decide_true, decide_false, Bool.not_true, Bool.not_false, if_true, if_false, reduceIte]
  refine ⟨fun c4 => k0 _ (f1.tr (f2.k7.w (fun o k c => c.1))) (fun q => by omega), fun c4 => ?_⟩
  have s2 : SM h2 := f2.s s
  have hN2 : mNi h2 bk n ans := ⟨mB.fr f2 (fun k => by decide) hB1, (f2.I 2 36 (by decide)).trans ((f1.I 2 36 (by unfold mKp; omega)).trans hN.2.1), fun i hi => (f2.I 2 _ (by decide)).trans ((f1.I 2 _ (by unfold mKp; omega)).trans (hN.2.2 i hi))⟩
  have hU2 : mU h2 k pa := (hU.fr f1 (by unfold mKp; omega) (fun k => by unfold mKp; omega)).fr f2 (by decide) (fun k => by decide)
  simp (disch := first | assumption | omega) only [p_some, p_gd, p_br, p_bi, p_nm, p_mp, p_Sl, p_Sr, p_bis, p_gdt, q_IL, q_IR, q_LI, q_LR, q_RI, q_RL, q_KI, q_KL, q_KR, q_NI, q_NL, q_NR, q_nI, q_nL, q_nR, q_okI, q_okL, q_okR, q_Ie, q_In, q_Le, q_Ln, SM_I, SM_L, s_c0, s_cg0, s_cl0, s_cge, s_cle, r_le, r_lt, r_eq, r_md, r_2, r_3, r_lit, r_litL, r_m1, nI_add, nI_1, nI_clamp, nI_leI, nI_ltI, nI_eq, pk_sub, q_ix, nI_l, lN_add, lN_mul, r_m1n, r_m1n', r_m1lt, r_m1nlt, r_m1le, r_m1nle, Nat.not_lt_zero, Nat.reduceEqDiff, Nat.reduceLT, Nat.reduceLeDiff, true_and, and_true, true_implies, false_implies, not_true_eq_false, not_false_eq_true, implies_true, and_self, ne_eq, decide_true, decide_false, Bool.not_true, Bool.not_false, if_true, if_false, reduceIte, mk0, mk1, mk2, mk3, mk4, mk5, mk6, mk7, mk8, mk9, mk10, mk11, mk12, mk13, mk14, mk15, mk16, mk17, mk18, mk19, mk20, mk21, mk22, mn1, mn2, mn3, mn4, mn5, mn6, mn7, mn8, mn9, mn10, mn11, mn12, mn13, mn14, mn15, mn16, mn17, mn18, mn19, mn20, mn21, mn22, mr1, mr6, mr7, mr8, mr9, mr10, mr21, mr22, mr23, mr25, mr26, mr29, mr30, mr32, mr33, mr34, mr43, mr47, mr53, mr54, mr55, mr56]
  refine m_keep s2 hN2 hn hU2 hk hpa (fun h3 f3 hU3 => ?_)
  have s3 := f3.s s2
  have e36 : z_I h3 2 36 = nI n := (f3.I 2 36 (by omega)).trans hN2.2.1
  simp (disch := first | assumption | omega) only [p_some, p_gd, p_br, p_bi, p_nm, p_mp, p_Sl, p_Sr, p_bis, p_gdt, q_IL, q_IR, q_LI, q_LR, q_RI, q_RL, q_KI, q_KL, q_KR, q_NI, q_NL, q_NR, q_nI, q_nL, q_nR, q_okI, q_okL, q_okR, q_Ie, q_In, q_Le, q_Ln, SM_I, SM_L, s_c0, s_cg0, s_cl0, s_cge, s_cle, r_le, r_lt, r_eq, r_md, r_2, r_3, r_lit, r_litL, r_m1, nI_add, nI_1, nI_clamp, nI_leI, nI_ltI, nI_eq, pk_sub, q_ix, nI_l, lN_add, lN_mul, r_m1n, r_m1n', r_m1lt, r_m1nlt, r_m1le, r_m1nle, Nat.not_lt_zero, Nat.reduceEqDiff, Nat.reduceLT, Nat.reduceLeDiff, true_and, and_true, true_implies, false_implies, not_true_eq_false, not_false_eq_true, implies_true, and_self, ne_eq, decide_true, decide_false, Bool.not_true, Bool.not_false, if_true, if_false, reduceIte, mk0, mk1, mk2, mk3, mk4, mk5, mk6, mk7, mk8, mk9, mk10, mk11, mk12, mk13, mk14, mk15, mk16, mk17, mk18, mk19, mk20, mk21, mk22, mn1, mn2, mn3, mn4, mn5, mn6, mn7, mn8, mn9, mn10, mn11, mn12, mn13, mn14, mn15, mn16, mn17, mn18, mn19, mn20, mn21, mn22, mr1, mr6, mr7, mr8, mr9, mr10, mr21, mr22, mr23, mr25, mr26, mr29, mr30, mr32, mr33, mr34, mr43, mr47, mr53, mr54, mr55, mr56, e36]
  refine k1 _ (((f1.w (fun o k c => ⟨c.1, by omega⟩)).tr (f2.k7.w (fun o k c => c.1))).tr (f3.w (fun o k c => ⟨c.2.1, c.2.2.1⟩)) |>.sI (by omega)) ⟨cx, cy, by omega, by omega⟩ (hU3.fr (C := fun o k => o ≠ 2 ∨ k ≠ 36) (m_fr.rf.sI (by omega)) (by omega) (fun k => by omega)) ⟨fun k hk => ?_, q_Ie rfl rfl, fun i hi => ?_⟩
  · exact (q_In (by omega)).trans ((f3.I 2 k (by omega)).trans (hN2.1 k hk))
  · exact (q_In (by omega)).trans ((f3.I 2 _ (by omega)).trans ((f2.I 2 _ (by decide)).trans (hA1 i hi)))
