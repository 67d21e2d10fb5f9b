/-! worth of the reference -/
theorem m_ts {h : z_T} {bk nd pos : Nat → Nat} {m : Nat} (M : mTr h nd pos m) (K : TOK (bk 0) nd) : sumN (fun i => a_gc bk nd (pos i)) m = a_ts bk nd := by
  have g := M.2.2.2.1.2.2.1 (a_gc bk nd)
  have e : sumN (fun q => if nd q = 0 then 0 else a_gc bk nd q) 32 = sumN (a_gc bk nd) 32 := sumN_congr (fun q _ => by
    by_cases c : nd q = 0
    · rw [if_pos c]
      unfold a_gc
      rw [if_neg (by omega), if_neg (by omega)]
    · rw [if_neg c])
  have z : a_gc bk nd 0 = 0 := by
    have := K.1
    unfold a_gc
    rw [if_neg (by omega), if_neg (by omega)]
  rw [g, e, sumN_head, z, Nat.zero_add]
  rfl
theorem m_worth0 {h : z_T} {Q : Int64 × z_T → Prop} (s : SM h) (M0 : z_I h 2 49 = nI 0) (y : Int32) (k : ∀ v h', m_fr mKp h h' → mTh h' none v → Q (v, h')) : p_W (fX12_worth 0 y h) Q := by
  unfold fX12_worth fX12_worth_b18 fX12_worth_b23
  simp (disch := first | assumption | omega) only [p_some, p_gd, p_br, p_bi, p_nm, p_mp, p_Sl, p_Sr, p_bis, p_gdt, q_IL, q_IR, q_LI, q_LR, q_RI, q_RL, q_KI, q_KL, q_KR, q_NI, q_NL, q_NR, q_nI, q_nL, q_nR, q_okI, q_okL, q_okR, q_Ie, q_In, q_Le, q_Ln, SM_I, SM_L, s_c0, s_cg0, s_cl0, s_cge, s_cle, r_le, r_lt, r_eq, r_md, r_2, r_3, r_lit, r_litL, r_m1, nI_add, nI_1, nI_clamp, nI_leI, nI_ltI, nI_eq, pk_sub, q_ix, nI_l, lN_add, lN_mul, r_m1n, r_m1n', r_m1lt, r_m1nlt, r_m1le, r_m1nle, Nat.not_lt_zero, Nat.reduceEqDiff, Nat.reduceLT, Nat.reduceLeDiff, true_and, and_true, true_implies, false_implies, not_true_eq_false, not_false_eq_true, implies_true, and_self, ne_eq, decide_true, decide_false, Bool.not_true, Bool.not_false, if_true, if_false, reduceIte, mk0, mk1, mk2, mk3, mk4, mk5, mk6, mk7, mk8, mk9, mk10, mk11, mk12, mk13, mk14, mk15, mk16, mk17, mk18, mk19, mk20, mk21, mk22, mn1, mn2, mn3, mn4, mn5, mn6, mn7, mn8, mn9, mn10, mn11, mn12, mn13, mn14, mn15, mn16, mn17, mn18, mn19, mn20, mn21, mn22, mr1, mr6, mr7, mr8, mr9, mr10, mr21, mr22, mr23, mr25, mr26, mr29, mr30, mr32, mr33, mr34, mr43, mr47, mr53, mr54, mr55, mr56, M0, m_throws1 s]
  exact k _ _ m_fr.t0 (q_Ie rfl rfl)
theorem m_worth {h : z_T} {bk ans nd pos : Nat → Nat} {n m : Nat} {Q : Int64 × z_T → Prop} (s : SM h) (b : BOK bk) (hN : mNi h bk n ans) (M : mTr h nd pos m) (K : TOK (bk 0) nd) (P : TPA nd) (y : Int32) (k : ∀ v h', m_fr mKp h h' → mTh h' (a_worth bk nd y) v → Q (v, h')) : p_W (fX12_worth 0 y h) Q := by
  have M' := M
  obtain ⟨M0, Mp, M31, MM, Mb⟩ := M
  have thr : ¬ z_ix y 2 = true → Q (lN 0, z_sI h 0 0 (nI 1)) := fun c => by
    unfold a_worth at k
    rw [if_neg c] at k
    exact k _ _ m_fr.t0 (q_Ie rfl rfl)
  unfold fX12_worth fX12_worth_b18 fX12_worth_b23
  simp (disch := first | assumption | omega) only [p_some, p_gd, p_br, p_bi, p_nm, p_mp, p_Sl, p_Sr, p_bis, p_gdt, q_IL, q_IR, q_LI, q_LR, q_RI, q_RL, q_KI, q_KL, q_KR, q_NI, q_NL, q_NR, q_nI, q_nL, q_nR, q_okI, q_okL, q_okR, q_Ie, q_In, q_Le, q_Ln, SM_I, SM_L, s_c0, s_cg0, s_cl0, s_cge, s_cle, r_le, r_lt, r_eq, r_md, r_2, r_3, r_lit, r_litL, r_m1, nI_add, nI_1, nI_clamp, nI_leI, nI_ltI, nI_eq, pk_sub, q_ix, nI_l, lN_add, lN_mul, r_m1n, r_m1n', r_m1lt, r_m1nlt, r_m1le, r_m1nle, Nat.not_lt_zero, Nat.reduceEqDiff, Nat.reduceLT, Nat.reduceLeDiff, true_and, and_true, true_implies, false_implies, not_true_eq_false, not_false_eq_true, implies_true, and_self, ne_eq, decide_true, decide_false, Bool.not_true, Bool.not_false, if_true, if_false, reduceIte, mk0, mk1, mk2, mk3, mk4, mk5, mk6, mk7, mk8, mk9, mk10, mk11, mk12, mk13, mk14, mk15, mk16, mk17, mk18, mk19, mk20, mk21, mk22, mn1, mn2, mn3, mn4, mn5, mn6, mn7, mn8, mn9, mn10, mn11, mn12, mn13, mn14, mn15, mn16, mn17, mn18, mn19, mn20, mn21, mn22, mr1, mr6, mr7, mr8, mr9, mr10, mr21, mr22, mr23, mr25, mr26, mr29, mr30, mr32, mr33, mr34, mr43, mr47, mr53, mr54, mr55, mr56, M0, show ¬ m = 0 by omega, m_isPart, bI_0]
  refine ⟨fun c => ?_, fun c => ?_⟩
  · simp (disch := first | assumption | omega) only [p_some, p_gd, p_br, p_bi, p_nm, p_mp, p_Sl, p_Sr, p_bis, p_gdt, q_IL, q_IR, q_LI, q_LR, q_RI, q_RL, q_KI, q_KL, q_KR, q_NI, q_NL, q_NR, q_nI, q_nL, q_nR, q_okI, q_okL, q_okR, q_Ie, q_In, q_Le, q_Ln, SM_I, SM_L, s_c0, s_cg0, s_cl0, s_cge, s_cle, r_le, r_lt, r_eq, r_md, r_2, r_3, r_lit, r_litL, r_m1, nI_add, nI_1, nI_clamp, nI_leI, nI_ltI, nI_eq, pk_sub, q_ix, nI_l, lN_add, lN_mul, r_m1n, r_m1n', r_m1lt, r_m1nlt, r_m1le, r_m1nle, Nat.not_lt_zero, Nat.reduceEqDiff, Nat.reduceLT, Nat.reduceLeDiff, true_and, and_true, true_implies, false_implies, not_true_eq_false, not_false_eq_true, implies_true, and_self, ne_eq, decide_true, decide_false, Bool.not_true, Bool.not_false, if_true, if_false, reduceIte, mk0, mk1, mk2, mk3, mk4, mk5, mk6, mk7, mk8, mk9, mk10, mk11, mk12, mk13, mk14, mk15, mk16, mk17, mk18, mk19, mk20, mk21, mk22, mn1, mn2, mn3, mn4, mn5, mn6, mn7, mn8, mn9, mn10, mn11, mn12, mn13, mn14, mn15, mn16, mn17, mn18, mn19, mn20, mn21, mn22, mr1, mr6, mr7, mr8, mr9, mr10, mr21, mr22, mr23, mr25, mr26, mr29, mr30, mr32, mr33, mr34, mr43, mr47, mr53, mr54, mr55, mr56, m_throws1 s]
    exact thr c
  · obtain ⟨w, hw, e2⟩ := z_ixn c (by omega)
    have kk := k
    unfold a_worth at kk
    rw [if_pos (Classical.not_not.mp c)] at kk
    subst e2
    unfold a_side at kk
    rw [nI_clamp (by omega)] at kk
    have s0 : SM (z_sI h 0 0 (nI 0)) := s
    have hB0 : mB (z_sI h 0 0 (nI 0)) bk := hN.t0.1
    have M0' : mTr (z_sI h 0 0 (nI 0)) nd pos m := ⟨(q_In (by omega)).trans M0, Mp, M31, MM.cg (fun k _ => q_In (by omega)), Mb⟩
    have th := q_Ie (h := h) (o := 0) (k := 0) (v := nI 0) (o' := 0) (k' := 0) rfl rfl
    have tf := m_fr.t0 (h := h) (v := nI 0)
    simp (disch := first | assumption | omega) only [p_some, p_gd, p_br, p_bi, p_nm, p_mp, p_Sl, p_Sr, p_bis, p_gdt, q_IL, q_IR, q_LI, q_LR, q_RI, q_RL, q_KI, q_KL, q_KR, q_NI, q_NL, q_NR, q_nI, q_nL, q_nR, q_okI, q_okL, q_okR, q_Ie, q_In, q_Le, q_Ln, SM_I, SM_L, s_c0, s_cg0, s_cl0, s_cge, s_cle, r_le, r_lt, r_eq, r_md, r_2, r_3, r_lit, r_litL, r_m1, nI_add, nI_1, nI_clamp, nI_leI, nI_ltI, nI_eq, pk_sub, q_ix, nI_l, lN_add, lN_mul, r_m1n, r_m1n', r_m1lt, r_m1nlt, r_m1le, r_m1nle, Nat.not_lt_zero, Nat.reduceEqDiff, Nat.reduceLT, Nat.reduceLeDiff, true_and, and_true, true_implies, false_implies, not_true_eq_false, not_false_eq_true, implies_true, and_self, ne_eq, decide_true, decide_false, Bool.not_true, Bool.not_false, if_true, if_false, reduceIte, mk0, mk1, mk2, mk3, mk4, mk5, mk6, mk7, mk8, mk9, mk10, mk11, mk12, mk13, mk14, mk15, mk16, mk17, mk18, mk19, mk20, mk21, mk22, mn1, mn2, mn3, mn4, mn5, mn6, mn7, mn8, mn9, mn10, mn11, mn12, mn13, mn14, mn15, mn16, mn17, mn18, mn19, mn20, mn21, mn22, mr1, mr6, mr7, mr8, mr9, mr10, mr21, mr22, mr23, mr25, mr26, mr29, mr30, mr32, mr33, mr34, mr43, mr47, mr53, mr54, mr55, mr56, m_throws0 s]
    have ts := m_ts M0' K (bk := bk)
    have tl : a_ts bk nd ≤ 31 * (99 * 787320) := sumN_le (fun p _ => a_gc_le b K P)
    have mp := m_power (a := 9) (n := 4) (by decide) (by omega)
    have eW : sumN (a_w bk) 7 = a_W bk := rfl
    obtain ⟨-, w1, w2⟩ := b.W
    obtain ⟨q1, q2⟩ := a_W9 b (show 4 ≤ 8 by omega)
    generalize z_sI h 0 0 (nI 0) = h0 at *
    have fin := kk (lN (a_pt (a_ts bk nd) (a_W bk * 9 ^ 4) w)) h0 tf ⟨th, rfl⟩
    clear kk k thr
    obtain ⟨v0, v3, v1⟩ := M0'.v
    unfold fX12_worth_b36
    refine p_for m (fun i w => w = (lN (sumN (fun i => a_gc bk nd (pos i)) i), nI i)) ?_ ?_ 0 (by omega) rfl
    · rintro i w hi rfl
      have v := v0 i hi
      have l := a_nv_lt (nd (pos i)) (Mb _)
      have nz := (MM.1 i hi).2.2
      have es : sumN (fun i => a_gc bk nd (pos i)) (i + 1) = sumN (fun i => a_gc bk nd (pos i)) i + a_gc bk nd (pos i) := rfl
      have ec := m_endCost s0 b hB0 M0' K P hi
      have z3 : 3 ≤ nd (pos i) → a_gc bk nd (pos i) = 0 := fun q => by
        unfold a_gc
        rw [if_neg (by omega), if_neg (by omega)]
      have g1 := M0'.1
      generalize a_gc bk nd (pos i) = G at *
      generalize sumN (fun i => a_gc bk nd (pos i)) (i + 1) = S' at *
      generalize sumN (fun i => a_gc bk nd (pos i)) i = S at *
      unfold fX12_worth_b36_i fX12_worth_b74
      simp (disch := first | assumption | omega) only [p_some, p_gd, p_br, p_bi, p_nm, p_mp, p_Sl, p_Sr, p_bis, p_gdt, q_IL, q_IR, q_LI, q_LR, q_RI, q_RL, q_KI, q_KL, q_KR, q_NI, q_NL, q_NR, q_nI, q_nL, q_nR, q_okI, q_okL, q_okR, q_Ie, q_In, q_Le, q_Ln, SM_I, SM_L, s_c0, s_cg0, s_cl0, s_cge, s_cle, r_le, r_lt, r_eq, r_md, r_2, r_3, r_lit, r_litL, r_m1, nI_add, nI_1, nI_clamp, nI_leI, nI_ltI, nI_eq, pk_sub, q_ix, nI_l, lN_add, lN_mul, r_m1n, r_m1n', r_m1lt, r_m1nlt, r_m1le, r_m1nle, Nat.not_lt_zero, Nat.reduceEqDiff, Nat.reduceLT, Nat.reduceLeDiff, true_and, and_true, true_implies, false_implies, not_true_eq_false, not_false_eq_true, implies_true, and_self, ne_eq, decide_true, decide_false, Bool.not_true, Bool.not_false, if_true, if_false, reduceIte, mk0, mk1, mk2, mk3, mk4, mk5, mk6, mk7, mk8, mk9, mk10, mk11, mk12, mk13, mk14, mk15, mk16, mk17, mk18, mk19, mk20, mk21, mk22, mn1, mn2, mn3, mn4, mn5, mn6, mn7, mn8, mn9, mn10, mn11, mn12, mn13, mn14, mn15, mn16, mn17, mn18, mn19, mn20, mn21, mn22, mr1, mr6, mr7, mr8, mr9, mr10, mr21, mr22, mr23, mr25, mr26, mr29, mr30, mr32, mr33, mr34, mr43, mr47, mr53, mr54, mr55, mr56, g1, show ¬ m ≤ i by omega, pk_mul, v]
      refine ⟨fun q => ?_, fun q => ?_⟩
      · have n3 : 3 ≤ nd (pos i) := by
          have : ¬ (nd (pos i) = 1 ∨ nd (pos i) = 2) := fun z => absurd (l.mpr z) (Int32.not_lt.mpr q)
          omega
        rw [es, z3 n3]
      · have lf := l.mp (Int32.not_le.mp q)
        simp (disch := first | assumption | omega) only [p_some, p_gd, p_br, p_bi, p_nm, p_mp, p_Sl, p_Sr, p_bis, p_gdt, q_IL, q_IR, q_LI, q_LR, q_RI, q_RL, q_KI, q_KL, q_KR, q_NI, q_NL, q_NR, q_nI, q_nL, q_nR, q_okI, q_okL, q_okR, q_Ie, q_In, q_Le, q_Ln, SM_I, SM_L, s_c0, s_cg0, s_cl0, s_cge, s_cle, r_le, r_lt, r_eq, r_md, r_2, r_3, r_lit, r_litL, r_m1, nI_add, nI_1, nI_clamp, nI_leI, nI_ltI, nI_eq, pk_sub, q_ix, nI_l, lN_add, lN_mul, r_m1n, r_m1n', r_m1lt, r_m1nlt, r_m1le, r_m1nle, Nat.not_lt_zero, Nat.reduceEqDiff, Nat.reduceLT, Nat.reduceLeDiff, true_and, and_true, true_implies, false_implies, not_true_eq_false, not_false_eq_true, implies_true, and_self, ne_eq, decide_true, decide_false, Bool.not_true, Bool.not_false, if_true, if_false, reduceIte, mk0, mk1, mk2, mk3, mk4, mk5, mk6, mk7, mk8, mk9, mk10, mk11, mk12, mk13, mk14, mk15, mk16, mk17, mk18, mk19, mk20, mk21, mk22, mn1, mn2, mn3, mn4, mn5, mn6, mn7, mn8, mn9, mn10, mn11, mn12, mn13, mn14, mn15, mn16, mn17, mn18, mn19, mn20, mn21, mn22, mr1, mr6, mr7, mr8, mr9, mr10, mr21, mr22, mr23, mr25, mr26, mr29, mr30, mr32, mr33, mr34, mr43, mr47, mr53, mr54, mr55, mr56, ec lf]
        rw [es]
    · rintro w rfl
      have g1 := M0'.1
      rw [ts]
      generalize a_ts bk nd = S at *
      unfold fX12_worth_b36_i
      simp (disch := first | assumption | omega) only [p_some, p_gd, p_br, p_bi, p_nm, p_mp, p_Sl, p_Sr, p_bis, p_gdt, q_IL, q_IR, q_LI, q_LR, q_RI, q_RL, q_KI, q_KL, q_KR, q_NI, q_NL, q_NR, q_nI, q_nL, q_nR, q_okI, q_okL, q_okR, q_Ie, q_In, q_Le, q_Ln, SM_I, SM_L, s_c0, s_cg0, s_cl0, s_cge, s_cle, r_le, r_lt, r_eq, r_md, r_2, r_3, r_lit, r_litL, r_m1, nI_add, nI_1, nI_clamp, nI_leI, nI_ltI, nI_eq, pk_sub, q_ix, nI_l, lN_add, lN_mul, r_m1n, r_m1n', r_m1lt, r_m1nlt, r_m1le, r_m1nle, Nat.not_lt_zero, Nat.reduceEqDiff, Nat.reduceLT, Nat.reduceLeDiff, true_and, and_true, true_implies, false_implies, not_true_eq_false, not_false_eq_true, implies_true, and_self, ne_eq, decide_true, decide_false, Bool.not_true, Bool.not_false, if_true, if_false, reduceIte, mk0, mk1, mk2, mk3, mk4, mk5, mk6, mk7, mk8, mk9, mk10, mk11, mk12, mk13, mk14, mk15, mk16, mk17, mk18, mk19, mk20, mk21, mk22, mn1, mn2, mn3, mn4, mn5, mn6, mn7, mn8, mn9, mn10, mn11, mn12, mn13, mn14, mn15, mn16, mn17, mn18, mn19, mn20, mn21, mn22, mr1, mr6, mr7, mr8, mr9, mr10, mr21, mr22, mr23, mr25, mr26, mr29, mr30, mr32, mr33, mr34, mr43, mr47, mr53, mr54, mr55, mr56, g1, Nat.le_refl, m_allWeights s0 b hB0, eW, mp, m_part]
      exact fin
