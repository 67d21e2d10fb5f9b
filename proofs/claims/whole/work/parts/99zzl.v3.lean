/-! what a tree costs: the reference -/
theorem a_un_0 {bk nd : Nat → Nat} {q : Nat} : ∀ k p, a_un bk nd q k p 0 = 0
  | 0, _ => rfl
  | k + 1, p => by
    rw [a_un]
    split
    · rfl
    · rw [Nat.zero_mul]; exact a_un_0 k _
theorem m_endCost {h : z_T} {bk nd pos : Nat → Nat} {m i : Nat} (s : SM h) (b : BOK bk) (hB : mB h bk) (M : mTr h nd pos m) (K : TOK (bk 0) nd) (P : TPA nd) (hi : i < m) (hl : nd (pos i) = 1 ∨ nd (pos i) = 2) : fX12_endCost 0 (nI i) h = some (lN (a_gc bk nd (pos i))) := by
  have h6 := b.2.1
  obtain ⟨v0, v3, v1⟩ := M.v
  have m31 := M.2.2.1
  have Mb := M.2.2.2.2
  have p32 := (M.2.2.2.1.1 i hi).2.1
  have d4 : a_dp 5 (pos i) ≤ 4 := by
    have := (M.2.2.2.1.1 i hi).1
    rcases a_dp_le 5 (pos i) (by omega) with c | c
    · omega
    · omega
  refine p_of ?_
  generalize hQ : (fun w => w = lN (a_gc bk nd (pos i))) = Q
  have kk : Q (lN (a_gc bk nd (pos i))) := by rw [← hQ]
  clear hQ
  unfold fX12_endCost fX12_endCost_b11
  refine p_for (bk 1 + 1) (fun j w => w = (lN (if j = 0 then 0 else a_lt bk nd 0 (pos i)), lN (sumN (fun q => a_lt bk nd (q + 1) (pos i)) (j - 1)), nI (if j = 0 then 0 else a_dp 5 (pos i)), nI j)) ?_ ?_ 0 (by omega) rfl
  · rintro j w hj rfl
    have hw := m_weightOf s hB (q := j) (by omega)
    have ec := fun Q' l2 l4 => m_ecLoop (Q := Q') (e := i) (l2 := l2) (l4 := l4) s b hB M K P (show j < 7 by omega) 5 i (a_w bk j) 0 (z_I h 2 (52 + 4 * i + 3)) hi (by omega) rfl
    rw [Nat.zero_add] at ec
    have el : a_un bk nd j 5 (pos i) (a_w bk j) = a_lt bk nd j (pos i) := rfl
    rw [el] at ec
    have wb := b.w (q := j) (by omega)
    unfold fX12_endCost_b11_i
    simp (disch := first | assumption | omega) only [p_some, p_gd, p_br, p_bi, p_nm, p_mp, p_Sl, p_Sr, p_bis, p_gdt, q_IL, q_IR, q_LI, q_LR, q_RI, q_RL, q_KI, q_KL, q_KR, q_NI, q_NL, q_NR, q_nI, q_nL, q_nR, q_okI, q_okL, q_okR, q_Ie, q_In, q_Le, q_Ln, SM_I, SM_L, s_c0, s_cg0, s_cl0, s_cge, s_cle, r_le, r_lt, r_eq, r_md, r_2, r_3, r_lit, r_litL, r_m1, nI_add, nI_1, nI_clamp, nI_leI, nI_ltI, nI_eq, pk_sub, q_ix, nI_l, lN_add, lN_mul, r_m1n, r_m1n', r_m1lt, r_m1nlt, r_m1le, r_m1nle, Nat.not_lt_zero, Nat.reduceEqDiff, Nat.reduceLT, Nat.reduceLeDiff, true_and, and_true, true_implies, false_implies, not_true_eq_false, not_false_eq_true, implies_true, and_self, ne_eq, decide_true, decide_false, Bool.not_true, Bool.not_false, if_true, if_false, reduceIte, mk0, mk1, mk2, mk3, mk4, mk5, mk6, mk7, mk8, mk9, mk10, mk11, mk12, mk13, mk14, mk15, mk16, mk17, mk18, mk19, mk20, mk21, mk22, mn1, mn2, mn3, mn4, mn5, mn6, mn7, mn8, mn9, mn10, mn11, mn12, mn13, mn14, mn15, mn16, mn17, mn18, mn19, mn20, mn21, mn22, mr1, mr6, mr7, mr8, mr9, mr10, mr21, mr22, mr23, mr25, mr26, mr29, mr30, mr32, mr33, mr34, mr43, mr47, mr53, mr54, mr55, mr56, m_places s hB, show ¬ bk 1 + 1 ≤ j by omega, hw, pk_mul]
    unfold fX12_endCost_b50
    refine ec _ _ _ ?_
    unfold fX12_endCost_b149 fX12_endCost_b164
    by_cases c : j = 0
    · subst c
      generalize a_lt bk nd 0 (pos i) = V at *
      simp (disch := first | assumption | omega) only [p_some, p_gd, p_br, p_bi, p_nm, p_mp, p_Sl, p_Sr, p_bis, p_gdt, Nat.not_lt_zero, Nat.reduceEqDiff, Nat.reduceLT, Nat.reduceLeDiff, true_and, and_true, true_implies, false_implies, not_true_eq_false, not_false_eq_true, implies_true, and_self, ne_eq, decide_true, decide_false, Bool.not_true, Bool.not_false, if_true, if_false, reduceIte, r_lit, r_litL, lN_add, nI_leI, Nat.le_refl, nI_add, nI_1]
      first | rfl | (rw [Nat.zero_add]; rfl)
    · have e1 : sumN (fun q => a_lt bk nd (q + 1) (pos i)) (j - 1 + 1) = sumN (fun q => a_lt bk nd (q + 1) (pos i)) (j - 1) + a_lt bk nd (j - 1 + 1) (pos i) := rfl
      rw [show j - 1 + 1 = j by omega] at e1
      generalize a_lt bk nd j (pos i) = V at *
      simp (disch := first | assumption | omega) only [p_some, p_gd, p_br, p_bi, p_nm, p_mp, p_Sl, p_Sr, p_bis, p_gdt, Nat.not_lt_zero, Nat.reduceEqDiff, Nat.reduceLT, Nat.reduceLeDiff, true_and, and_true, true_implies, false_implies, not_true_eq_false, not_false_eq_true, implies_true, and_self, ne_eq, decide_true, decide_false, Bool.not_true, Bool.not_false, if_true, if_false, reduceIte, r_lit, r_litL, lN_add, nI_leI, nI_eq, c, show ¬ j ≤ 0 by omega, nI_add, nI_1]
      rw [show j + 1 - 1 = j by omega, e1]
      rfl
  · rintro w rfl
    have e6 : sumN (fun q => a_lt bk nd (q + 1) (pos i)) (bk 1 + 1 - 1) = sumN (fun q => a_lt bk nd (q + 1) (pos i)) 6 := (sumN_ext (by omega) (fun q h1 h2 => by
      unfold a_lt
      rw [b.w0 (by omega) (by omega)]
      exact a_un_0 _ _)).symm
    rw [e6, if_neg (by omega), if_neg (by omega)]
    have v := v0 i hi
    have hB5 := hB 5 (by decide)
    have hB6 := hB 6 (by decide)
    have h5 := b.2.2.2.2.2.1
    have h6' := b.2.2.2.2.2.2.1
    have c1 := a_nv_m1 (nd (pos i)) (Mb _)
    have mp := m_power (a := 9) (n := 4 - a_dp 5 (pos i)) (by decide) (by omega)
    unfold a_gc at kk
    unfold fX12_endCost_b11_i fX12_endCost_b211
    generalize sumN (fun q => a_lt bk nd (q + 1) (pos i)) 6 = D at *
    generalize a_lt bk nd 0 (pos i) = R at *
    simp (disch := first | assumption | omega) only [p_some, p_gd, p_br, p_bi, p_nm, p_mp, p_Sl, p_Sr, p_bis, p_gdt, q_IL, q_IR, q_LI, q_LR, q_RI, q_RL, q_KI, q_KL, q_KR, q_NI, q_NL, q_NR, q_nI, q_nL, q_nR, q_okI, q_okL, q_okR, q_Ie, q_In, q_Le, q_Ln, SM_I, SM_L, s_c0, s_cg0, s_cl0, s_cge, s_cle, r_le, r_lt, r_eq, r_md, r_2, r_3, r_lit, r_litL, r_m1, nI_add, nI_1, nI_clamp, nI_leI, nI_ltI, nI_eq, pk_sub, q_ix, nI_l, lN_add, lN_mul, r_m1n, r_m1n', r_m1lt, r_m1nlt, r_m1le, r_m1nle, Nat.not_lt_zero, Nat.reduceEqDiff, Nat.reduceLT, Nat.reduceLeDiff, true_and, and_true, true_implies, false_implies, not_true_eq_false, not_false_eq_true, implies_true, and_self, ne_eq, decide_true, decide_false, Bool.not_true, Bool.not_false, if_true, if_false, reduceIte, mk0, mk1, mk2, mk3, mk4, mk5, mk6, mk7, mk8, mk9, mk10, mk11, mk12, mk13, mk14, mk15, mk16, mk17, mk18, mk19, mk20, mk21, mk22, mn1, mn2, mn3, mn4, mn5, mn6, mn7, mn8, mn9, mn10, mn11, mn12, mn13, mn14, mn15, mn16, mn17, mn18, mn19, mn20, mn21, mn22, mr1, mr6, mr7, mr8, mr9, mr10, mr21, mr22, mr23, mr25, mr26, mr29, mr30, mr32, mr33, mr34, mr43, mr47, mr53, mr54, mr55, mr56, m_places s hB, Nat.le_refl, pk_mul, v, hB5, hB6, pk_sub, mp, nI_l]
    refine ⟨fun q => ?_, fun q => ?_⟩
    · rw [if_pos (c1.mp q)] at kk
      exact kk
    · have n2 : nd (pos i) = 2 := hl.resolve_left (fun z => q (c1.mpr z))
      rw [if_neg (by omega), if_pos n2] at kk
      exact kk
