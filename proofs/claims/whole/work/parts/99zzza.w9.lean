/-! said of the reference: its loop over the tests -/
/-- how many of the first tests are in the set -/
def a_cn (p : Nat → Bool) : Nat → Nat
  | 0 => 0
  | m + 1 => a_cn p m + if p m = true then 1 else 0
def a_sd (p : Nat → Bool) (x : Int32) : Nat → Nat → Int32
  | 0, t => if x = m1 then nI (a_cn p t) else m1
  | m + 1, t => if p t = true ∧ nI (a_cn p t) = x then nI t else a_sd p x m (t + 1)
theorem m_saidLoop {p : Nat → Bool} {n : Nat} {x : Int32} {I : z_T → Prop} (hn : n ≤ 8) (hI : ∀ h, I h → SM h ∧ z_I h 2 0 = nI n) (hs : ∀ h t, I h → t < n → p_W (fX12_isSaid 0 (nI t) h) (fun w => w.1 = bI (p t = true) ∧ I w.2)) : ∀ m (h : z_T) t, m + t = n → I h → p_W (y_lp (fun q : Int32 × Int32 × z_T => fX12_said_b27_i 0 x q.1 q.2.1 q.2.2) (nI (a_cn p t), nI t, h)) (fun w => w.1 = a_sd p x m t ∧ I w.2) := by
  intro m
  induction m with
  | zero =>
    intro h t hm hh
    obtain ⟨s, h0⟩ := hI h hh
    rw [a_sd]
    generalize hQ : (fun w : Int32 × z_T => w.1 = (if x = m1 then nI (a_cn p t) else m1) ∧ I w.2) = Q
    refine p_unP (fun P hP => ?_)
    unfold fX12_said_b27_i
    by_cases cx : x = m1
    · subst cx
      simp (disch := first | assumption | omega) only [p_some, p_gd, p_br, p_bi, p_nm, p_mp, p_Sl, p_Sr, p_bis, p_gdt, q_IL, q_IR, q_LI, q_LR, q_RI, q_RL, q_KI, q_KL, q_KR, q_NI, q_NL, q_NR, q_nI, q_nL, q_nR, q_okI, q_okL, q_okR, q_Ie, q_In, q_Le, q_Ln, SM_I, SM_L, s_c0, s_cg0, s_cl0, s_cge, s_cle, r_le, r_lt, r_eq, r_md, r_2, r_3, r_lit, r_litL, r_m1, nI_add, nI_1, nI_clamp, nI_leI, nI_ltI, nI_eq, pk_sub, q_ix, nI_l, lN_add, lN_mul, r_m1n, r_m1n', r_m1lt, r_m1nlt, r_m1le, r_m1nle, Nat.not_lt_zero, Nat.reduceEqDiff, Nat.reduceLT, Nat.reduceLeDiff, true_and, and_true, true_implies, false_implies, not_true_eq_false, not_false_eq_true, implies_true, and_self, ne_eq, decide_true, decide_false, Bool.not_true, Bool.not_false, if_true, if_false, reduceIte, mk0, mk1, mk2, mk3, mk4, mk5, mk6, mk7, mk8, mk9, mk10, mk11, mk12, mk13, mk14, mk15, mk16, mk17, mk18, mk19, mk20, mk21, mk22, mn1, mn2, mn3, mn4, mn5, mn6, mn7, mn8, mn9, mn10, mn11, mn12, mn13, mn14, mn15, mn16, mn17, mn18, mn19, mn20, mn21, mn22, mr1, mr6, mr7, mr8, mr9, mr10, mr21, mr22, mr23, mr25, mr26, mr29, mr30, mr32, mr33, mr34, mr43, mr47, mr53, mr54, mr55, mr56, h0, show n ≤ t by omega]
      subst hQ
      exact ⟨(if_pos rfl).symm, hh⟩
    · simp (disch := first | assumption | omega) only [p_some, p_gd, p_br, p_bi, p_nm, p_mp, p_Sl, p_Sr, p_bis, p_gdt, q_IL, q_IR, q_LI, q_LR, q_RI, q_RL, q_KI, q_KL, q_KR, q_NI, q_NL, q_NR, q_nI, q_nL, q_nR, q_okI, q_okL, q_okR, q_Ie, q_In, q_Le, q_Ln, SM_I, SM_L, s_c0, s_cg0, s_cl0, s_cge, s_cle, r_le, r_lt, r_eq, r_md, r_2, r_3, r_lit, r_litL, r_m1, nI_add, nI_1, nI_clamp, nI_leI, nI_ltI, nI_eq, pk_sub, q_ix, nI_l, lN_add, lN_mul, r_m1n, r_m1n', r_m1lt, r_m1nlt, r_m1le, r_m1nle, Nat.not_lt_zero, Nat.reduceEqDiff, Nat.reduceLT, Nat.reduceLeDiff, true_and, and_true, true_implies, false_implies, not_true_eq_false, not_false_eq_true, implies_true, and_self, ne_eq, decide_true, decide_false, Bool.not_true, Bool.not_false, if_true, if_false, reduceIte, mk0, mk1, mk2, mk3, mk4, mk5, mk6, mk7, mk8, mk9, mk10, mk11, mk12, mk13, mk14, mk15, mk16, mk17, mk18, mk19, mk20, mk21, mk22, mn1, mn2, mn3, mn4, mn5, mn6, mn7, mn8, mn9, mn10, mn11, mn12, mn13, mn14, mn15, mn16, mn17, mn18, mn19, mn20, mn21, mn22, mr1, mr6, mr7, mr8, mr9, mr10, mr21, mr22, mr23, mr25, mr26, mr29, mr30, mr32, mr33, mr34, mr43, mr47, mr53, mr54, mr55, mr56, h0, show n ≤ t by omega, cx]
      subst hQ
      exact ⟨(if_neg cx).symm, hh⟩
  | succ m ih =>
    intro h t hm hh
    obtain ⟨s, h0⟩ := hI h hh
    have ht : t < n := by omega
    rw [a_sd]
    generalize hQ : (fun w : Int32 × z_T => w.1 = (if p t = true ∧ nI (a_cn p t) = x then nI t else a_sd p x m (t + 1)) ∧ I w.2) = Q
    refine p_unP (fun P hP => ?_)
    unfold fX12_said_b27_i
    simp (disch := first | assumption | omega) only [p_some, p_gd, p_br, p_bi, p_nm, p_mp, p_Sl, p_Sr, p_bis, p_gdt, q_IL, q_IR, q_LI, q_LR, q_RI, q_RL, q_KI, q_KL, q_KR, q_NI, q_NL, q_NR, q_nI, q_nL, q_nR, q_okI, q_okL, q_okR, q_Ie, q_In, q_Le, q_Ln, SM_I, SM_L, s_c0, s_cg0, s_cl0, s_cge, s_cle, r_le, r_lt, r_eq, r_md, r_2, r_3, r_lit, r_litL, r_m1, nI_add, nI_1, nI_clamp, nI_leI, nI_ltI, nI_eq, pk_sub, q_ix, nI_l, lN_add, lN_mul, r_m1n, r_m1n', r_m1lt, r_m1nlt, r_m1le, r_m1nle, Nat.not_lt_zero, Nat.reduceEqDiff, Nat.reduceLT, Nat.reduceLeDiff, true_and, and_true, true_implies, false_implies, not_true_eq_false, not_false_eq_true, implies_true, and_self, ne_eq, decide_true, decide_false, Bool.not_true, Bool.not_false, if_true, if_false, reduceIte, mk0, mk1, mk2, mk3, mk4, mk5, mk6, mk7, mk8, mk9, mk10, mk11, mk12, mk13, mk14, mk15, mk16, mk17, mk18, mk19, mk20, mk21, mk22, mn1, mn2, mn3, mn4, mn5, mn6, mn7, mn8, mn9, mn10, mn11, mn12, mn13, mn14, mn15, mn16, mn17, mn18, mn19, mn20, mn21, mn22, mr1, mr6, mr7, mr8, mr9, mr10, mr21, mr22, mr23, mr25, mr26, mr29, mr30, mr32, mr33, mr34, mr43, mr47, mr53, mr54, mr55, mr56, h0, show ¬ n ≤ t by omega]
    refine p_mono (hs h t hh ht) (fun w ⟨e1, I1⟩ => ?_)
    obtain ⟨r, h1⟩ := w
    dsimp only at e1 I1 ⊢
    subst e1
    have go : ¬ (p t = true ∧ nI (a_cn p t) = x) → p_W (y_lp (fun q : Int32 × Int32 × z_T => fX12_said_b27_i 0 x q.1 q.2.1 q.2.2) (nI (a_cn p (t + 1)), nI (t + 1), h1)) Q := fun c => by
      subst hQ
      rw [if_neg c]
      exact ih h1 (t + 1) (by omega) I1
    rw [a_cn] at go
    unfold fX12_said_b58
    by_cases pt : p t = true
    · rw [if_pos pt] at go
      rw [bI_t pt]
      simp (disch := first | assumption | omega) only [p_some, p_gd, p_br, p_bi, p_nm, p_mp, p_Sl, p_Sr, p_bis, p_gdt, Nat.not_lt_zero, Nat.reduceEqDiff, Nat.reduceLT, Nat.reduceLeDiff, true_and, and_true, true_implies, false_implies, not_true_eq_false, not_false_eq_true, implies_true, and_self, ne_eq, decide_true, decide_false, Bool.not_true, Bool.not_false, if_true, if_false, reduceIte, s_10, nI_add, r_lit]
      refine ⟨fun c => ?_, fun c => ?_⟩
      · subst hQ
        exact ⟨(if_pos ⟨pt, c⟩).symm, I1⟩
      · exact hP _ (go (fun q => c q.2))
    · rw [if_neg pt, Nat.add_zero] at go
      rw [bI_f pt]
      simp (disch := first | assumption | omega) only [p_some, p_gd, p_br, p_bi, p_nm, p_mp, p_Sl, p_Sr, p_bis, p_gdt, Nat.not_lt_zero, Nat.reduceEqDiff, Nat.reduceLT, Nat.reduceLeDiff, true_and, and_true, true_implies, false_implies, not_true_eq_false, not_false_eq_true, implies_true, and_self, ne_eq, decide_true, decide_false, Bool.not_true, Bool.not_false, if_true, if_false, reduceIte, nI_add, r_lit]
      exact hP _ (go (fun q => pt q.1))
