/-! error of a set of tests, the best pair -/
def a_error (bk : Nat → Nat) (x y : Int32) : Option Int64 := if z_ix x (2 ^ bk 0) = true ∧ a_pc x.toNatClampNeg ≤ 5 ∧ z_ix y 2 = true then some (a_side (a_em bk x.toNatClampNeg) (a_W bk * 9 ^ a_pc x.toNatClampNeg) y) else none
theorem a_em_le {bk : Nat → Nat} (b : BOK bk) {set : Nat} (hs : set < 256) : a_em bk set ≤ 220399211520 := a_es_le b (by omega)
theorem a_W9 {bk : Nat → Nat} (b : BOK bk) {n : Nat} (h : n ≤ 8) : a_W bk * 9 ^ n ≤ 6026540940 ∧ 0 < a_W bk * 9 ^ n := by
  obtain ⟨p1, p2⟩ := a_9p h
  obtain ⟨-, w1, w2⟩ := b.W
  exact ⟨Nat.le_trans (Nat.mul_le_mul w2 p1) (by decide), Nat.mul_pos w1 p2⟩
theorem x_opError {h : z_T} {bo n : Nat} {bk ans : Nat → Nat} (W : xNow h bo bk ans n) (b : BOK bk) (x y : Int32) : fX11_error 0 x y h = some (a_error bk x y) := by
  obtain ⟨s, N, -⟩ := W
  have hp := a_2p b
  refine p_of ?_
  generalize hQ : (fun w => w = a_error bk x y) = Q
  unfold fX11_error fX11_error_b34
  simp (disch := first | assumption | omega) only [p_some, p_gd, p_br, p_bi, p_nm, p_mp, p_Sl, p_Sr, p_bis, p_gdt, q_IL, q_IR, q_LI, q_LR, q_RI, q_RL, q_KI, q_KL, q_KR, q_NI, q_NL, q_NR, q_nI, q_nL, q_nR, q_okI, q_okL, q_okR, q_Ie, q_In, q_Le, q_Ln, SM_I, SM_L, s_c0, s_cg0, s_cl0, s_cge, s_cle, r_le, r_lt, r_eq, r_md, r_2, r_3, r_lit, r_litL, r_m1, nI_add, nI_1, nI_clamp, nI_leI, nI_ltI, nI_eq, pk_sub, q_ix, nI_l, lN_add, lN_mul, r_m1n, r_m1n', r_m1lt, r_m1nlt, r_m1le, r_m1nle, Nat.not_lt_zero, Nat.reduceEqDiff, Nat.reduceLT, Nat.reduceLeDiff, true_and, and_true, true_implies, false_implies, not_true_eq_false, not_false_eq_true, implies_true, and_self, ne_eq, decide_true, decide_false, Bool.not_true, Bool.not_false, if_true, if_false, reduceIte, xb_0, xb_1, xb_2, xb_3, xb_4, xb_5, xb_6, xb_7, xb_8, xb_9, xb_10, xb_11, xb_12, xb_13, xb_14, xb_15, xb_16, xb_17, xb_18, xb_19, xb_20, xb_21, xo_0, xo_1, xo_2, xo_3, xo_4, xo_5, xo_6, xo_7, xo_8, xo_9, bI_0, xk0 s, xr0_3 s, xk14 s, xr14_0 s, xo_0 N.1, N.2.1, xb_0 N.2.2.1.1, x_hasTests b N.2.2.1]
  refine ⟨fun c => ?_, fun c => ?_⟩
  · rw [← hQ]
    unfold a_error
    rw [if_neg (fun q => c q.1)]
  · have c' := Classical.not_not.mp c
    obtain ⟨v, hv, rfl⟩ := z_ixn c (by omega)
    have l := a_pc_le v
    obtain ⟨p1, p2⟩ := a_9p l
    obtain ⟨-, w1, w2⟩ := b.W
    obtain ⟨q1, q2⟩ := a_W9 b l
    have hem := a_em_le b (show v < 256 by omega)
    have eW : sumN (a_w bk) 7 = a_W bk := rfl
    simp (disch := first | assumption | omega) only [p_some, p_gd, p_br, p_bi, p_nm, p_mp, p_Sl, p_Sr, p_bis, p_gdt, q_IL, q_IR, q_LI, q_LR, q_RI, q_RL, q_KI, q_KL, q_KR, q_NI, q_NL, q_NR, q_nI, q_nL, q_nR, q_okI, q_okL, q_okR, q_Ie, q_In, q_Le, q_Ln, SM_I, SM_L, s_c0, s_cg0, s_cl0, s_cge, s_cle, r_le, r_lt, r_eq, r_md, r_2, r_3, r_lit, r_litL, r_m1, nI_add, nI_1, nI_clamp, nI_leI, nI_ltI, nI_eq, pk_sub, q_ix, nI_l, lN_add, lN_mul, r_m1n, r_m1n', r_m1lt, r_m1nlt, r_m1le, r_m1nle, Nat.not_lt_zero, Nat.reduceEqDiff, Nat.reduceLT, Nat.reduceLeDiff, true_and, and_true, true_implies, false_implies, not_true_eq_false, not_false_eq_true, implies_true, and_self, ne_eq, decide_true, decide_false, Bool.not_true, Bool.not_false, if_true, if_false, reduceIte, xb_0, xb_1, xb_2, xb_3, xb_4, xb_5, xb_6, xb_7, xb_8, xb_9, xb_10, xb_11, xb_12, xb_13, xb_14, xb_15, xb_16, xb_17, xb_18, xb_19, xb_20, xb_21, xo_0, xo_1, xo_2, xo_3, xo_4, xo_5, xo_6, xo_7, xo_8, xo_9, x_isSide, bI_0, x_bits v (by omega), x_power, x_allWeights N.2.2.1, eW, x_mistakes b N.2.2.1]
    rw [← hQ]
    unfold a_error
    rw [nI_clamp (by omega)]
    refine ⟨fun c1 => ?_, fun c1 => ⟨fun c2 => ?_, fun c2 => ?_⟩⟩
    · rw [if_neg (fun q => by omega)]
    · rw [if_neg (fun q => c2 q.2.2)]
    · obtain ⟨w, hw, rfl⟩ := z_ixn c2 (by omega)
      rw [if_pos ⟨c', by omega, Classical.not_not.mp c2⟩]
      unfold a_side
      rw [nI_clamp (by omega)]
      simp (disch := first | assumption | omega) only [p_some, p_gd, p_br, p_bi, p_nm, p_mp, p_Sl, p_Sr, p_bis, p_gdt, q_IL, q_IR, q_LI, q_LR, q_RI, q_RL, q_KI, q_KL, q_KR, q_NI, q_NL, q_NR, q_nI, q_nL, q_nR, q_okI, q_okL, q_okR, q_Ie, q_In, q_Le, q_Ln, SM_I, SM_L, s_c0, s_cg0, s_cl0, s_cge, s_cle, r_le, r_lt, r_eq, r_md, r_2, r_3, r_lit, r_litL, r_m1, nI_add, nI_1, nI_clamp, nI_leI, nI_ltI, nI_eq, pk_sub, q_ix, nI_l, lN_add, lN_mul, r_m1n, r_m1n', r_m1lt, r_m1nlt, r_m1le, r_m1nle, Nat.not_lt_zero, Nat.reduceEqDiff, Nat.reduceLT, Nat.reduceLeDiff, true_and, and_true, true_implies, false_implies, not_true_eq_false, not_false_eq_true, implies_true, and_self, ne_eq, decide_true, decide_false, Bool.not_true, Bool.not_false, if_true, if_false, reduceIte, xb_0, xb_1, xb_2, xb_3, xb_4, xb_5, xb_6, xb_7, xb_8, xb_9, xb_10, xb_11, xb_12, xb_13, xb_14, xb_15, xb_16, xb_17, xb_18, xb_19, xb_20, xb_21, xo_0, xo_1, xo_2, xo_3, xo_4, xo_5, xo_6, xo_7, xo_8, xo_9, x_fraction]
theorem m_error {h : z_T} {bk ans : Nat → Nat} {n : Nat} {Q : Int64 × z_T → Prop} (s : SM h) (b : BOK bk) (hN : mNi h bk n ans) (x y : Int32)
    (k : ∀ v h', m_fr mKp h h' → mTh h' (a_error bk x y) v → Q (v, h')) : p_W (fX12_error 0 x y h) Q := by
  have hp := a_2p b
  have h8 := b.1
  unfold fX12_error fX12_error_b24 fX12_error_b29
  simp (disch := first | assumption | omega) only [p_some, p_gd, p_br, p_bi, p_nm, p_mp, p_Sl, p_Sr, p_bis, p_gdt, q_IL, q_IR, q_LI, q_LR, q_RI, q_RL, q_KI, q_KL, q_KR, q_NI, q_NL, q_NR, q_nI, q_nL, q_nR, q_okI, q_okL, q_okR, q_Ie, q_In, q_Le, q_Ln, SM_I, SM_L, s_c0, s_cg0, s_cl0, s_cge, s_cle, r_le, r_lt, r_eq, r_md, r_2, r_3, r_lit, r_litL, r_m1, nI_add, nI_1, nI_clamp, nI_leI, nI_ltI, nI_eq, pk_sub, q_ix, nI_l, lN_add, lN_mul, r_m1n, r_m1n', r_m1lt, r_m1nlt, r_m1le, r_m1nle, Nat.not_lt_zero, Nat.reduceEqDiff, Nat.reduceLT, Nat.reduceLeDiff, true_and, and_true, true_implies, false_implies, not_true_eq_false, not_false_eq_true, implies_true, and_self, ne_eq, decide_true, decide_false, Bool.not_true, Bool.not_false, if_true, if_false, reduceIte, mk0, mk1, mk2, mk3, mk4, mk5, mk6, mk7, mk8, mk9, mk10, mk11, mk12, mk13, mk14, mk15, mk16, mk17, mk18, mk19, mk20, mk21, mk22, mn1, mn2, mn3, mn4, mn5, mn6, mn7, mn8, mn9, mn10, mn11, mn12, mn13, mn14, mn15, mn16, mn17, mn18, mn19, mn20, mn21, mn22, mr1, mr6, mr7, mr8, mr9, mr10, mr21, mr22, mr23, mr25, mr26, mr29, mr30, mr32, mr33, mr34, mr43, mr47, mr53, mr54, mr55, mr56, bI_0, m_areTests s b hN.1]
  have thr : ¬ (z_ix x (2 ^ bk 0) = true ∧ a_pc x.toNatClampNeg ≤ 5 ∧ z_ix y 2 = true) → Q (lN 0, z_sI h 0 0 (nI 1)) := fun c => by
    unfold a_error at k
    rw [if_neg c] at k
    exact k _ _ m_fr.t0 (q_Ie rfl rfl)
  refine ⟨fun c => ?_, fun c => ?_⟩
  · simp (disch := first | assumption | omega) only [p_some, p_gd, p_br, p_bi, p_nm, p_mp, p_Sl, p_Sr, p_bis, p_gdt, q_IL, q_IR, q_LI, q_LR, q_RI, q_RL, q_KI, q_KL, q_KR, q_NI, q_NL, q_NR, q_nI, q_nL, q_nR, q_okI, q_okL, q_okR, q_Ie, q_In, q_Le, q_Ln, SM_I, SM_L, s_c0, s_cg0, s_cl0, s_cge, s_cle, r_le, r_lt, r_eq, r_md, r_2, r_3, r_lit, r_litL, r_m1, nI_add, nI_1, nI_clamp, nI_leI, nI_ltI, nI_eq, pk_sub, q_ix, nI_l, lN_add, lN_mul, r_m1n, r_m1n', r_m1lt, r_m1nlt, r_m1le, r_m1nle, Nat.not_lt_zero, Nat.reduceEqDiff, Nat.reduceLT, Nat.reduceLeDiff, true_and, and_true, true_implies, false_implies, not_true_eq_false, not_false_eq_true, implies_true, and_self, ne_eq, decide_true, decide_false, Bool.not_true, Bool.not_false, if_true, if_false, reduceIte, mk0, mk1, mk2, mk3, mk4, mk5, mk6, mk7, mk8, mk9, mk10, mk11, mk12, mk13, mk14, mk15, mk16, mk17, mk18, mk19, mk20, mk21, mk22, mn1, mn2, mn3, mn4, mn5, mn6, mn7, mn8, mn9, mn10, mn11, mn12, mn13, mn14, mn15, mn16, mn17, mn18, mn19, mn20, mn21, mn22, mr1, mr6, mr7, mr8, mr9, mr10, mr21, mr22, mr23, mr25, mr26, mr29, mr30, mr32, mr33, mr34, mr43, mr47, mr53, mr54, mr55, mr56, m_throws1 s]
    exact thr (fun q => c q.1)
  · have c' := Classical.not_not.mp c
    obtain ⟨v, hv, rfl⟩ := z_ixn c (by omega)
    rw [nI_clamp (by omega)] at thr
    have l := a_pc_le v
    obtain ⟨p1, p2⟩ := a_9p l
    obtain ⟨-, w1, w2⟩ := b.W
    obtain ⟨q1, q2⟩ := a_W9 b l
    have hem := a_em_le b (show v < 256 by omega)
    have eW : sumN (a_w bk) 7 = a_W bk := rfl
    have s0 : SM (z_sI h 0 0 (nI 0)) := s
    have hB0 : mB (z_sI h 0 0 (nI 0)) bk := hN.t0.1
    simp (disch := first | assumption | omega) only [p_some, p_gd, p_br, p_bi, p_nm, p_mp, p_Sl, p_Sr, p_bis, p_gdt, q_IL, q_IR, q_LI, q_LR, q_RI, q_RL, q_KI, q_KL, q_KR, q_NI, q_NL, q_NR, q_nI, q_nL, q_nR, q_okI, q_okL, q_okR, q_Ie, q_In, q_Le, q_Ln, SM_I, SM_L, s_c0, s_cg0, s_cl0, s_cge, s_cle, r_le, r_lt, r_eq, r_md, r_2, r_3, r_lit, r_litL, r_m1, nI_add, nI_1, nI_clamp, nI_leI, nI_ltI, nI_eq, pk_sub, q_ix, nI_l, lN_add, lN_mul, r_m1n, r_m1n', r_m1lt, r_m1nlt, r_m1le, r_m1nle, Nat.not_lt_zero, Nat.reduceEqDiff, Nat.reduceLT, Nat.reduceLeDiff, true_and, and_true, true_implies, false_implies, not_true_eq_false, not_false_eq_true, implies_true, and_self, ne_eq, decide_true, decide_false, Bool.not_true, Bool.not_false, if_true, if_false, reduceIte, mk0, mk1, mk2, mk3, mk4, mk5, mk6, mk7, mk8, mk9, mk10, mk11, mk12, mk13, mk14, mk15, mk16, mk17, mk18, mk19, mk20, mk21, mk22, mn1, mn2, mn3, mn4, mn5, mn6, mn7, mn8, mn9, mn10, mn11, mn12, mn13, mn14, mn15, mn16, mn17, mn18, mn19, mn20, mn21, mn22, mr1, mr6, mr7, mr8, mr9, mr10, mr21, mr22, mr23, mr25, mr26, mr29, mr30, mr32, mr33, mr34, mr43, mr47, mr53, mr54, mr55, mr56, bI_0, m_bits (show v < 256 by omega), m_isPart]
    refine ⟨fun c1 => ?_, fun c1 => ⟨fun c2 => ?_, fun c2 => ?_⟩⟩
    · simp (disch := first | assumption | omega) only [p_some, p_gd, p_br, p_bi, p_nm, p_mp, p_Sl, p_Sr, p_bis, p_gdt, q_IL, q_IR, q_LI, q_LR, q_RI, q_RL, q_KI, q_KL, q_KR, q_NI, q_NL, q_NR, q_nI, q_nL, q_nR, q_okI, q_okL, q_okR, q_Ie, q_In, q_Le, q_Ln, SM_I, SM_L, s_c0, s_cg0, s_cl0, s_cge, s_cle, r_le, r_lt, r_eq, r_md, r_2, r_3, r_lit, r_litL, r_m1, nI_add, nI_1, nI_clamp, nI_leI, nI_ltI, nI_eq, pk_sub, q_ix, nI_l, lN_add, lN_mul, r_m1n, r_m1n', r_m1lt, r_m1nlt, r_m1le, r_m1nle, Nat.not_lt_zero, Nat.reduceEqDiff, Nat.reduceLT, Nat.reduceLeDiff, true_and, and_true, true_implies, false_implies, not_true_eq_false, not_false_eq_true, implies_true, and_self, ne_eq, decide_true, decide_false, Bool.not_true, Bool.not_false, if_true, if_false, reduceIte, mk0, mk1, mk2, mk3, mk4, mk5, mk6, mk7, mk8, mk9, mk10, mk11, mk12, mk13, mk14, mk15, mk16, mk17, mk18, mk19, mk20, mk21, mk22, mn1, mn2, mn3, mn4, mn5, mn6, mn7, mn8, mn9, mn10, mn11, mn12, mn13, mn14, mn15, mn16, mn17, mn18, mn19, mn20, mn21, mn22, mr1, mr6, mr7, mr8, mr9, mr10, mr21, mr22, mr23, mr25, mr26, mr29, mr30, mr32, mr33, mr34, mr43, mr47, mr53, mr54, mr55, mr56, m_throws1 s]
      exact thr (fun q => by omega)
    · simp (disch := first | assumption | omega) only [p_some, p_gd, p_br, p_bi, p_nm, p_mp, p_Sl, p_Sr, p_bis, p_gdt, q_IL, q_IR, q_LI, q_LR, q_RI, q_RL, q_KI, q_KL, q_KR, q_NI, q_NL, q_NR, q_nI, q_nL, q_nR, q_okI, q_okL, q_okR, q_Ie, q_In, q_Le, q_Ln, SM_I, SM_L, s_c0, s_cg0, s_cl0, s_cge, s_cle, r_le, r_lt, r_eq, r_md, r_2, r_3, r_lit, r_litL, r_m1, nI_add, nI_1, nI_clamp, nI_leI, nI_ltI, nI_eq, pk_sub, q_ix, nI_l, lN_add, lN_mul, r_m1n, r_m1n', r_m1lt, r_m1nlt, r_m1le, r_m1nle, Nat.not_lt_zero, Nat.reduceEqDiff, Nat.reduceLT, Nat.reduceLeDiff, true_and, and_true, true_implies, false_implies, not_true_eq_false, not_false_eq_true, implies_true, and_self, ne_eq, decide_true, decide_false, Bool.not_true, Bool.not_false, if_true, if_false, reduceIte, mk0, mk1, mk2, mk3, mk4, mk5, mk6, mk7, mk8, mk9, mk10, mk11, mk12, mk13, mk14, mk15, mk16, mk17, mk18, mk19, mk20, mk21, mk22, mn1, mn2, mn3, mn4, mn5, mn6, mn7, mn8, mn9, mn10, mn11, mn12, mn13, mn14, mn15, mn16, mn17, mn18, mn19, mn20, mn21, mn22, mr1, mr6, mr7, mr8, mr9, mr10, mr21, mr22, mr23, mr25, mr26, mr29, mr30, mr32, mr33, mr34, mr43, mr47, mr53, mr54, mr55, mr56, m_throws1 s]
      exact thr (fun q => c2 q.2.2)
    · obtain ⟨w, hw, rfl⟩ := z_ixn c2 (by omega)
      simp (disch := first | assumption | omega) only [p_some, p_gd, p_br, p_bi, p_nm, p_mp, p_Sl, p_Sr, p_bis, p_gdt, q_IL, q_IR, q_LI, q_LR, q_RI, q_RL, q_KI, q_KL, q_KR, q_NI, q_NL, q_NR, q_nI, q_nL, q_nR, q_okI, q_okL, q_okR, q_Ie, q_In, q_Le, q_Ln, SM_I, SM_L, s_c0, s_cg0, s_cl0, s_cge, s_cle, r_le, r_lt, r_eq, r_md, r_2, r_3, r_lit, r_litL, r_m1, nI_add, nI_1, nI_clamp, nI_leI, nI_ltI, nI_eq, pk_sub, q_ix, nI_l, lN_add, lN_mul, r_m1n, r_m1n', r_m1lt, r_m1nlt, r_m1le, r_m1nle, Nat.not_lt_zero, Nat.reduceEqDiff, Nat.reduceLT, Nat.reduceLeDiff, true_and, and_true, true_implies, false_implies, not_true_eq_false, not_false_eq_true, implies_true, and_self, ne_eq, decide_true, decide_false, Bool.not_true, Bool.not_false, if_true, if_false, reduceIte, mk0, mk1, mk2, mk3, mk4, mk5, mk6, mk7, mk8, mk9, mk10, mk11, mk12, mk13, mk14, mk15, mk16, mk17, mk18, mk19, mk20, mk21, mk22, mn1, mn2, mn3, mn4, mn5, mn6, mn7, mn8, mn9, mn10, mn11, mn12, mn13, mn14, mn15, mn16, mn17, mn18, mn19, mn20, mn21, mn22, mr1, mr6, mr7, mr8, mr9, mr10, mr21, mr22, mr23, mr25, mr26, mr29, mr30, mr32, mr33, mr34, mr43, mr47, mr53, mr54, mr55, mr56, m_throws0 s, m_bits (show v < 256 by omega), m_power, m_errorOf s0 b hB0 hv, m_allWeights s0 b hB0, eW, m_part]
      refine k _ _ m_fr.t0 ?_
      unfold a_error
      rw [nI_clamp (by omega), if_pos ⟨c', by omega, Classical.not_not.mp c2⟩]
      unfold a_side
      rw [nI_clamp (by omega)]
      exact ⟨q_Ie rfl rfl, rfl⟩
/-! the best pair -/
def a_pv (bk : Nat → Nat) (i j : Nat) : Nat := a_em bk (2 ^ i ||| 2 ^ j)
def a_pu (s : Nat × Nat) (k v : Nat) : Nat × Nat := if s.1 = 100 ∨ v < s.2 then (k, v) else s
def a_pi (bk : Nat → Nat) (i : Nat) (s : Nat × Nat) : Nat → Nat × Nat
  | 0 => s
  | d + 1 => a_pu (a_pi bk i s d) (10 * i + (i + 1 + d)) (a_pv bk i (i + 1 + d))
def a_po (bk : Nat → Nat) : Nat → Nat × Nat
  | 0 => (100, 0)
  | i + 1 => a_pi bk i (a_po bk i) (bk 0 - (i + 1))
def a_pI (c : Nat) : Int32 := if c = 100 then m1 else nI c
def a_pair (bk : Nat → Nat) : Int32 := a_pI (a_po bk (bk 0)).1
def a_pok (s : Nat × Nat) : Prop := s.1 ≤ 100 ∧ s.2 ≤ 220399211520
theorem a_pi_s {bk : Nat → Nat} {i d : Nat} {s : Nat × Nat} : a_pi bk i s (d + 1) = a_pu (a_pi bk i s d) (10 * i + (i + 1 + d)) (a_pv bk i (i + 1 + d)) := rfl
theorem a_pu_t {s : Nat × Nat} {k v : Nat} (h : s.1 = 100 ∨ v < s.2) : a_pu s k v = (k, v) := if_pos h
theorem a_pu_f {s : Nat × Nat} {k v : Nat} (h : ¬ (s.1 = 100 ∨ v < s.2)) : a_pu s k v = s := if_neg h
theorem a_two {i j m : Nat} (hi : i < m) (hj : j < m) : 2 ^ i ||| 2 ^ j < 2 ^ m := Nat.or_lt_two_pow (Nat.pow_lt_pow_right (by decide) hi) (Nat.pow_lt_pow_right (by decide) hj)
theorem s_or {a b : Nat} : nI a ||| nI b = nI (a ||| b) := fa_or a b
theorem a_pI_m {c : Nat} (h : c = 100) : a_pI c = m1 := if_pos h
theorem a_pI_n {c : Nat} (h : ¬ c = 100) : a_pI c = nI c := if_neg h
theorem a_pu_ok {bk : Nat → Nat} (b : BOK bk) {i j k : Nat} {s : Nat × Nat} (hi : i < 8) (hj : j < 8) (hk : k ≤ 100) (h : a_pok s) : a_pok (a_pu s k (a_pv bk i j)) := by
  by_cases c : s.1 = 100 ∨ a_pv bk i j < s.2
  · rw [a_pu_t c]
    exact ⟨hk, a_em_le b (a_two hi hj)⟩
  · rw [a_pu_f c]
    exact h
theorem a_pi_ok {bk : Nat → Nat} (b : BOK bk) {i : Nat} {s : Nat × Nat} (hs : a_pok s) : ∀ d, i + 1 + d ≤ bk 0 → a_pok (a_pi bk i s d)
  | 0, _ => hs
  | d + 1, h => by
    have h8 := b.1
    rw [a_pi_s]
    exact a_pu_ok b (by omega) (by omega) (by omega) (a_pi_ok b hs d (by omega))
theorem a_po_ok {bk : Nat → Nat} (b : BOK bk) : ∀ i, i ≤ bk 0 → a_pok (a_po bk i)
  | 0, _ => ⟨Nat.le_refl _, Nat.zero_le _⟩
  | i + 1, h => a_pi_ok b (a_po_ok b i (by omega)) _ (by omega)
theorem m_pairIn {h : z_T} {bk : Nat → Nat} {i : Nat} {s0 : Nat × Nat} {Q : (Int32 × Int64 × Int32) ⊕ (Int32 × z_T) → Prop} (s : SM h) (b : BOK bk) (hB : mB h bk) (hi : i < bk 0) (hs : a_pok s0)
    (k : ∀ r, r = a_pi bk i s0 (bk 0 - (i + 1)) → Q (.inl (a_pI r.1, lN r.2, nI (i + 1)))) : p_W (fX12_pair_b29 0 (a_pI s0.1) (lN s0.2) (nI i) (nI (i + 1)) h) Q := by
  have h8 := b.1
  have hB0 := hB 0 (by decide)
  unfold fX12_pair_b29
  refine p_for (bk 0 - (i + 1)) (fun d w => w = (a_pI (a_pi bk i s0 d).1, lN (a_pi bk i s0 d).2, nI (i + 1 + d))) ?_ ?_ 0 (by omega) rfl
  · rintro d w hd rfl
    obtain ⟨p1, p2⟩ := a_pi_ok (i := i) b hs d (by omega)
    have e1 := a_pi_s (bk := bk) (i := i) (d := d) (s := s0)
    have hv : a_pv bk i (i + 1 + d) ≤ 220399211520 := a_em_le b (a_two (m := 8) (by omega) (by omega))
    have ev : fX12_errorOf 0 (nI (2 ^ i ||| 2 ^ (i + 1 + d))) h = some (lN (a_pv bk i (i + 1 + d))) := m_errorOf s b hB (a_two hi (by omega))
    generalize a_pi bk i s0 d = t at p1 p2 e1 ⊢
    generalize a_pv bk i (i + 1 + d) = v at hv ev e1
    unfold fX12_pair_b29_i fX12_pair_b69 fX12_pair_b81
    by_cases c0 : t.1 = 100
    · rw [a_pu_t (Or.inl c0)] at e1
      rw [a_pI_m c0, e1]
      simp (disch := first | assumption | omega) only [p_some, p_gd, p_br, p_bi, p_nm, p_mp, p_Sl, p_Sr, p_bis, p_gdt, q_IL, q_IR, q_LI, q_LR, q_RI, q_RL, q_KI, q_KL, q_KR, q_NI, q_NL, q_NR, q_nI, q_nL, q_nR, q_okI, q_okL, q_okR, q_Ie, q_In, q_Le, q_Ln, SM_I, SM_L, s_c0, s_cg0, s_cl0, s_cge, s_cle, r_le, r_lt, r_eq, r_md, r_2, r_3, r_lit, r_litL, r_m1, nI_add, nI_1, nI_clamp, nI_leI, nI_ltI, nI_eq, pk_sub, q_ix, nI_l, lN_add, lN_mul, r_m1n, r_m1n', r_m1lt, r_m1nlt, r_m1le, r_m1nle, Nat.not_lt_zero, Nat.reduceEqDiff, Nat.reduceLT, Nat.reduceLeDiff, true_and, and_true, true_implies, false_implies, not_true_eq_false, not_false_eq_true, implies_true, and_self, ne_eq, decide_true, decide_false, Bool.not_true, Bool.not_false, if_true, if_false, reduceIte, mk0, mk1, mk2, mk3, mk4, mk5, mk6, mk7, mk8, mk9, mk10, mk11, mk12, mk13, mk14, mk15, mk16, mk17, mk18, mk19, mk20, mk21, mk22, mn1, mn2, mn3, mn4, mn5, mn6, mn7, mn8, mn9, mn10, mn11, mn12, mn13, mn14, mn15, mn16, mn17, mn18, mn19, mn20, mn21, mn22, mr1, mr6, mr7, mr8, mr9, mr10, mr21, mr22, mr23, mr25, mr26, mr29, mr30, mr32, mr33, mr34, mr43, mr47, mr53, mr54, mr55, mr56, hB0, r_shl, s_or, ev, pk_mul, show ¬ bk 0 ≤ i + 1 + d by omega]
      rw [a_pI_n (by omega)]
      exact rfl
    · rw [a_pI_n c0]
      simp (disch := first | assumption | omega) only [p_some, p_gd, p_br, p_bi, p_nm, p_mp, p_Sl, p_Sr, p_bis, p_gdt, q_IL, q_IR, q_LI, q_LR, q_RI, q_RL, q_KI, q_KL, q_KR, q_NI, q_NL, q_NR, q_nI, q_nL, q_nR, q_okI, q_okL, q_okR, q_Ie, q_In, q_Le, q_Ln, SM_I, SM_L, s_c0, s_cg0, s_cl0, s_cge, s_cle, r_le, r_lt, r_eq, r_md, r_2, r_3, r_lit, r_litL, r_m1, nI_add, nI_1, nI_clamp, nI_leI, nI_ltI, nI_eq, pk_sub, q_ix, nI_l, lN_add, lN_mul, r_m1n, r_m1n', r_m1lt, r_m1nlt, r_m1le, r_m1nle, Nat.not_lt_zero, Nat.reduceEqDiff, Nat.reduceLT, Nat.reduceLeDiff, true_and, and_true, true_implies, false_implies, not_true_eq_false, not_false_eq_true, implies_true, and_self, ne_eq, decide_true, decide_false, Bool.not_true, Bool.not_false, if_true, if_false, reduceIte, mk0, mk1, mk2, mk3, mk4, mk5, mk6, mk7, mk8, mk9, mk10, mk11, mk12, mk13, mk14, mk15, mk16, mk17, mk18, mk19, mk20, mk21, mk22, mn1, mn2, mn3, mn4, mn5, mn6, mn7, mn8, mn9, mn10, mn11, mn12, mn13, mn14, mn15, mn16, mn17, mn18, mn19, mn20, mn21, mn22, mr1, mr6, mr7, mr8, mr9, mr10, mr21, mr22, mr23, mr25, mr26, mr29, mr30, mr32, mr33, mr34, mr43, mr47, mr53, mr54, mr55, mr56, hB0, r_shl, s_or, ev, pk_mul, show ¬ bk 0 ≤ i + 1 + d by omega]
      refine ⟨fun c => ?_, fun c => ?_⟩
      · rw [e1, a_pu_t (Or.inr (by omega)), a_pI_n (by omega)]
        exact rfl
      · rw [e1, a_pu_f (fun q => q.elim c0 (fun q => by omega)), a_pI_n c0]
        exact rfl
  · rintro w rfl
    have kk := k _ rfl
    generalize a_pi bk i s0 (bk 0 - (i + 1)) = t at kk ⊢
    unfold fX12_pair_b29_i
    simp (disch := first | assumption | omega) only [p_some, p_gd, p_br, p_bi, p_nm, p_mp, p_Sl, p_Sr, p_bis, p_gdt, q_IL, q_IR, q_LI, q_LR, q_RI, q_RL, q_KI, q_KL, q_KR, q_NI, q_NL, q_NR, q_nI, q_nL, q_nR, q_okI, q_okL, q_okR, q_Ie, q_In, q_Le, q_Ln, SM_I, SM_L, s_c0, s_cg0, s_cl0, s_cge, s_cle, r_le, r_lt, r_eq, r_md, r_2, r_3, r_lit, r_litL, r_m1, nI_add, nI_1, nI_clamp, nI_leI, nI_ltI, nI_eq, pk_sub, q_ix, nI_l, lN_add, lN_mul, r_m1n, r_m1n', r_m1lt, r_m1nlt, r_m1le, r_m1nle, Nat.not_lt_zero, Nat.reduceEqDiff, Nat.reduceLT, Nat.reduceLeDiff, true_and, and_true, true_implies, false_implies, not_true_eq_false, not_false_eq_true, implies_true, and_self, ne_eq, decide_true, decide_false, Bool.not_true, Bool.not_false, if_true, if_false, reduceIte, mk0, mk1, mk2, mk3, mk4, mk5, mk6, mk7, mk8, mk9, mk10, mk11, mk12, mk13, mk14, mk15, mk16, mk17, mk18, mk19, mk20, mk21, mk22, mn1, mn2, mn3, mn4, mn5, mn6, mn7, mn8, mn9, mn10, mn11, mn12, mn13, mn14, mn15, mn16, mn17, mn18, mn19, mn20, mn21, mn22, mr1, mr6, mr7, mr8, mr9, mr10, mr21, mr22, mr23, mr25, mr26, mr29, mr30, mr32, mr33, mr34, mr43, mr47, mr53, mr54, mr55, mr56, hB0, show bk 0 ≤ i + 1 + (bk 0 - (i + 1)) by omega]
    exact kk
theorem m_pair {h : z_T} {bk ans : Nat → Nat} {n : Nat} {Q : Int32 × z_T → Prop} (s : SM h) (b : BOK bk) (hN : mNi h bk n ans) (k : ∀ h', m_fr mKp h h' → Q (a_pair bk, h')) : p_W (fX12_pair 0 h) Q := by
  have h8 := b.1
  have s0 : SM (z_sI h 0 0 (nI 0)) := s
  have hB0 := hN.t0 (v := nI 0) |>.1
  have hB00 := hB0 0 (by decide)
  unfold a_pair at k
  unfold fX12_pair
  simp (disch := first | assumption | omega) only [p_some, p_gd, p_br, p_bi, p_nm, p_mp, p_Sl, p_Sr, p_bis, p_gdt, q_IL, q_IR, q_LI, q_LR, q_RI, q_RL, q_KI, q_KL, q_KR, q_NI, q_NL, q_NR, q_nI, q_nL, q_nR, q_okI, q_okL, q_okR, q_Ie, q_In, q_Le, q_Ln, SM_I, SM_L, s_c0, s_cg0, s_cl0, s_cge, s_cle, r_le, r_lt, r_eq, r_md, r_2, r_3, r_lit, r_litL, r_m1, nI_add, nI_1, nI_clamp, nI_leI, nI_ltI, nI_eq, pk_sub, q_ix, nI_l, lN_add, lN_mul, r_m1n, r_m1n', r_m1lt, r_m1nlt, r_m1le, r_m1nle, Nat.not_lt_zero, Nat.reduceEqDiff, Nat.reduceLT, Nat.reduceLeDiff, true_and, and_true, true_implies, false_implies, not_true_eq_false, not_false_eq_true, implies_true, and_self, ne_eq, decide_true, decide_false, Bool.not_true, Bool.not_false, if_true, if_false, reduceIte, mk0, mk1, mk2, mk3, mk4, mk5, mk6, mk7, mk8, mk9, mk10, mk11, mk12, mk13, mk14, mk15, mk16, mk17, mk18, mk19, mk20, mk21, mk22, mn1, mn2, mn3, mn4, mn5, mn6, mn7, mn8, mn9, mn10, mn11, mn12, mn13, mn14, mn15, mn16, mn17, mn18, mn19, mn20, mn21, mn22, mr1, mr6, mr7, mr8, mr9, mr10, mr21, mr22, mr23, mr25, mr26, mr29, mr30, mr32, mr33, mr34, mr43, mr47, mr53, mr54, mr55, mr56]
  unfold fX12_pair_b12
  refine p_for (bk 0) (fun i w => w = (a_pI (a_po bk i).1, lN (a_po bk i).2, nI i)) ?_ ?_ 0 (by omega) rfl
  · rintro i w hi rfl
    have p := a_po_ok b i (by omega)
    have e1 : a_po bk (i + 1) = a_pi bk i (a_po bk i) (bk 0 - (i + 1)) := rfl
    unfold fX12_pair_b12_i
    simp (disch := first | assumption | omega) only [p_some, p_gd, p_br, p_bi, p_nm, p_mp, p_Sl, p_Sr, p_bis, p_gdt, q_IL, q_IR, q_LI, q_LR, q_RI, q_RL, q_KI, q_KL, q_KR, q_NI, q_NL, q_NR, q_nI, q_nL, q_nR, q_okI, q_okL, q_okR, q_Ie, q_In, q_Le, q_Ln, SM_I, SM_L, s_c0, s_cg0, s_cl0, s_cge, s_cle, r_le, r_lt, r_eq, r_md, r_2, r_3, r_lit, r_litL, r_m1, nI_add, nI_1, nI_clamp, nI_leI, nI_ltI, nI_eq, pk_sub, q_ix, nI_l, lN_add, lN_mul, r_m1n, r_m1n', r_m1lt, r_m1nlt, r_m1le, r_m1nle, Nat.not_lt_zero, Nat.reduceEqDiff, Nat.reduceLT, Nat.reduceLeDiff, true_and, and_true, true_implies, false_implies, not_true_eq_false, not_false_eq_true, implies_true, and_self, ne_eq, decide_true, decide_false, Bool.not_true, Bool.not_false, if_true, if_false, reduceIte, mk0, mk1, mk2, mk3, mk4, mk5, mk6, mk7, mk8, mk9, mk10, mk11, mk12, mk13, mk14, mk15, mk16, mk17, mk18, mk19, mk20, mk21, mk22, mn1, mn2, mn3, mn4, mn5, mn6, mn7, mn8, mn9, mn10, mn11, mn12, mn13, mn14, mn15, mn16, mn17, mn18, mn19, mn20, mn21, mn22, mr1, mr6, mr7, mr8, mr9, mr10, mr21, mr22, mr23, mr25, mr26, mr29, mr30, mr32, mr33, mr34, mr43, mr47, mr53, mr54, mr55, mr56, hB00, show ¬ bk 0 ≤ i by omega]
    refine m_pairIn s0 b hB0 hi p (fun r hr => ?_)
    show _ = _
    rw [e1, ← hr]
  · rintro w rfl
    have kk := k (z_sI h 0 0 (nI 0)) m_fr.t0
    generalize a_po bk (bk 0) = t at kk ⊢
    unfold fX12_pair_b12_i
    simp (disch := first | assumption | omega) only [p_some, p_gd, p_br, p_bi, p_nm, p_mp, p_Sl, p_Sr, p_bis, p_gdt, q_IL, q_IR, q_LI, q_LR, q_RI, q_RL, q_KI, q_KL, q_KR, q_NI, q_NL, q_NR, q_nI, q_nL, q_nR, q_okI, q_okL, q_okR, q_Ie, q_In, q_Le, q_Ln, SM_I, SM_L, s_c0, s_cg0, s_cl0, s_cge, s_cle, r_le, r_lt, r_eq, r_md, r_2, r_3, r_lit, r_litL, r_m1, nI_add, nI_1, nI_clamp, nI_leI, nI_ltI, nI_eq, pk_sub, q_ix, nI_l, lN_add, lN_mul, r_m1n, r_m1n', r_m1lt, r_m1nlt, r_m1le, r_m1nle, Nat.not_lt_zero, Nat.reduceEqDiff, Nat.reduceLT, Nat.reduceLeDiff, true_and, and_true, true_implies, false_implies, not_true_eq_false, not_false_eq_true, implies_true, and_self, ne_eq, decide_true, decide_false, Bool.not_true, Bool.not_false, if_true, if_false, reduceIte, mk0, mk1, mk2, mk3, mk4, mk5, mk6, mk7, mk8, mk9, mk10, mk11, mk12, mk13, mk14, mk15, mk16, mk17, mk18, mk19, mk20, mk21, mk22, mn1, mn2, mn3, mn4, mn5, mn6, mn7, mn8, mn9, mn10, mn11, mn12, mn13, mn14, mn15, mn16, mn17, mn18, mn19, mn20, mn21, mn22, mr1, mr6, mr7, mr8, mr9, mr10, mr21, mr22, mr23, mr25, mr26, mr29, mr30, mr32, mr33, mr34, mr43, mr47, mr53, mr54, mr55, mr56, hB00, Nat.le_refl]
    exact kk
theorem x_pairIn {h : z_T} {bo : Nat} {bk : Nat → Nat} {i : Nat} {s0 : Nat × Nat} {Q : (Int32 × Int64 × Int32) ⊕ Int32 → Prop} (b : BOK bk) (B : xBk h bo bk) (hi : i < bk 0) (hs : a_pok s0)
    (k : ∀ r, r = a_pi bk i s0 (bk 0 - (i + 1)) → Q (.inl (a_pI r.1, lN r.2, nI (i + 1)))) : p_W (fX11_pair_b33 bo (a_pI s0.1) (lN s0.2) (nI i) (nI (i + 1)) h) Q := by
  have h8 := b.1
  unfold fX11_pair_b33
  refine p_for (bk 0 - (i + 1)) (fun d w => w = (a_pI (a_pi bk i s0 d).1, lN (a_pi bk i s0 d).2, nI (i + 1 + d))) ?_ ?_ 0 (by omega) rfl
  · rintro d w hd rfl
    obtain ⟨p1, p2⟩ := a_pi_ok (i := i) b hs d (by omega)
    have e1 := a_pi_s (bk := bk) (i := i) (d := d) (s := s0)
    have hv : a_pv bk i (i + 1 + d) ≤ 220399211520 := a_em_le b (a_two (m := 8) (by omega) (by omega))
    have ev : fX0_mistakes bo (nI (2 ^ i ||| 2 ^ (i + 1 + d))) h = some (lN (a_pv bk i (i + 1 + d))) := x_mistakes b B (a_two hi (by omega))
    generalize a_pi bk i s0 d = t at p1 p2 e1 ⊢
    generalize a_pv bk i (i + 1 + d) = v at hv ev e1
    unfold fX11_pair_b33_i fX11_pair_b69 fX11_pair_b81
    by_cases c0 : t.1 = 100
    · rw [a_pu_t (Or.inl c0)] at e1
      rw [a_pI_m c0, e1]
      simp (disch := first | assumption | omega) only [p_some, p_gd, p_br, p_bi, p_nm, p_mp, p_Sl, p_Sr, p_bis, p_gdt, q_IL, q_IR, q_LI, q_LR, q_RI, q_RL, q_KI, q_KL, q_KR, q_NI, q_NL, q_NR, q_nI, q_nL, q_nR, q_okI, q_okL, q_okR, q_Ie, q_In, q_Le, q_Ln, SM_I, SM_L, s_c0, s_cg0, s_cl0, s_cge, s_cle, r_le, r_lt, r_eq, r_md, r_2, r_3, r_lit, r_litL, r_m1, nI_add, nI_1, nI_clamp, nI_leI, nI_ltI, nI_eq, pk_sub, q_ix, nI_l, lN_add, lN_mul, r_m1n, r_m1n', r_m1lt, r_m1nlt, r_m1le, r_m1nle, Nat.not_lt_zero, Nat.reduceEqDiff, Nat.reduceLT, Nat.reduceLeDiff, true_and, and_true, true_implies, false_implies, not_true_eq_false, not_false_eq_true, implies_true, and_self, ne_eq, decide_true, decide_false, Bool.not_true, Bool.not_false, if_true, if_false, reduceIte, xb_0, xb_1, xb_2, xb_3, xb_4, xb_5, xb_6, xb_7, xb_8, xb_9, xb_10, xb_11, xb_12, xb_13, xb_14, xb_15, xb_16, xb_17, xb_18, xb_19, xb_20, xb_21, xo_0, xo_1, xo_2, xo_3, xo_4, xo_5, xo_6, xo_7, xo_8, xo_9, xb_0 B.1, B.2.1, r_shl, s_or, ev, pk_mul, show ¬ bk 0 ≤ i + 1 + d by omega]
      rw [a_pI_n (by omega)]
      exact rfl
    · rw [a_pI_n c0]
      simp (disch := first | assumption | omega) only [p_some, p_gd, p_br, p_bi, p_nm, p_mp, p_Sl, p_Sr, p_bis, p_gdt, q_IL, q_IR, q_LI, q_LR, q_RI, q_RL, q_KI, q_KL, q_KR, q_NI, q_NL, q_NR, q_nI, q_nL, q_nR, q_okI, q_okL, q_okR, q_Ie, q_In, q_Le, q_Ln, SM_I, SM_L, s_c0, s_cg0, s_cl0, s_cge, s_cle, r_le, r_lt, r_eq, r_md, r_2, r_3, r_lit, r_litL, r_m1, nI_add, nI_1, nI_clamp, nI_leI, nI_ltI, nI_eq, pk_sub, q_ix, nI_l, lN_add, lN_mul, r_m1n, r_m1n', r_m1lt, r_m1nlt, r_m1le, r_m1nle, Nat.not_lt_zero, Nat.reduceEqDiff, Nat.reduceLT, Nat.reduceLeDiff, true_and, and_true, true_implies, false_implies, not_true_eq_false, not_false_eq_true, implies_true, and_self, ne_eq, decide_true, decide_false, Bool.not_true, Bool.not_false, if_true, if_false, reduceIte, xb_0, xb_1, xb_2, xb_3, xb_4, xb_5, xb_6, xb_7, xb_8, xb_9, xb_10, xb_11, xb_12, xb_13, xb_14, xb_15, xb_16, xb_17, xb_18, xb_19, xb_20, xb_21, xo_0, xo_1, xo_2, xo_3, xo_4, xo_5, xo_6, xo_7, xo_8, xo_9, xb_0 B.1, B.2.1, r_shl, s_or, ev, pk_mul, show ¬ bk 0 ≤ i + 1 + d by omega]
      refine ⟨fun c => ?_, fun c => ?_⟩
      · rw [e1, a_pu_f (fun q => q.elim c0 (fun q => by omega)), a_pI_n c0]
        exact rfl
      · rw [e1, a_pu_t (Or.inr (by omega)), a_pI_n (by omega)]
        exact rfl
  · rintro w rfl
    have kk := k _ rfl
    generalize a_pi bk i s0 (bk 0 - (i + 1)) = t at kk ⊢
    unfold fX11_pair_b33_i
    simp (disch := first | assumption | omega) only [p_some, p_gd, p_br, p_bi, p_nm, p_mp, p_Sl, p_Sr, p_bis, p_gdt, q_IL, q_IR, q_LI, q_LR, q_RI, q_RL, q_KI, q_KL, q_KR, q_NI, q_NL, q_NR, q_nI, q_nL, q_nR, q_okI, q_okL, q_okR, q_Ie, q_In, q_Le, q_Ln, SM_I, SM_L, s_c0, s_cg0, s_cl0, s_cge, s_cle, r_le, r_lt, r_eq, r_md, r_2, r_3, r_lit, r_litL, r_m1, nI_add, nI_1, nI_clamp, nI_leI, nI_ltI, nI_eq, pk_sub, q_ix, nI_l, lN_add, lN_mul, r_m1n, r_m1n', r_m1lt, r_m1nlt, r_m1le, r_m1nle, Nat.not_lt_zero, Nat.reduceEqDiff, Nat.reduceLT, Nat.reduceLeDiff, true_and, and_true, true_implies, false_implies, not_true_eq_false, not_false_eq_true, implies_true, and_self, ne_eq, decide_true, decide_false, Bool.not_true, Bool.not_false, if_true, if_false, reduceIte, xb_0, xb_1, xb_2, xb_3, xb_4, xb_5, xb_6, xb_7, xb_8, xb_9, xb_10, xb_11, xb_12, xb_13, xb_14, xb_15, xb_16, xb_17, xb_18, xb_19, xb_20, xb_21, xo_0, xo_1, xo_2, xo_3, xo_4, xo_5, xo_6, xo_7, xo_8, xo_9, xb_0 B.1, B.2.1, show bk 0 ≤ i + 1 + (bk 0 - (i + 1)) by omega]
    exact kk
theorem x_opPair {h : z_T} {bo n : Nat} {bk ans : Nat → Nat} (W : xNow h bo bk ans n) (b : BOK bk) : fX11_pair 0 h = some (a_pair bk) := by
  obtain ⟨s, N, -⟩ := W
  have h8 := b.1
  have B := N.2.2.1
  refine p_of ?_
  generalize hQ : (fun w => w = a_pair bk) = Q
  unfold fX11_pair
  simp (disch := first | assumption | omega) only [p_some, p_gd, p_br, p_bi, p_nm, p_mp, p_Sl, p_Sr, p_bis, p_gdt, q_IL, q_IR, q_LI, q_LR, q_RI, q_RL, q_KI, q_KL, q_KR, q_NI, q_NL, q_NR, q_nI, q_nL, q_nR, q_okI, q_okL, q_okR, q_Ie, q_In, q_Le, q_Ln, SM_I, SM_L, s_c0, s_cg0, s_cl0, s_cge, s_cle, r_le, r_lt, r_eq, r_md, r_2, r_3, r_lit, r_litL, r_m1, nI_add, nI_1, nI_clamp, nI_leI, nI_ltI, nI_eq, pk_sub, q_ix, nI_l, lN_add, lN_mul, r_m1n, r_m1n', r_m1lt, r_m1nlt, r_m1le, r_m1nle, Nat.not_lt_zero, Nat.reduceEqDiff, Nat.reduceLT, Nat.reduceLeDiff, true_and, and_true, true_implies, false_implies, not_true_eq_false, not_false_eq_true, implies_true, and_self, ne_eq, decide_true, decide_false, Bool.not_true, Bool.not_false, if_true, if_false, reduceIte, xb_0, xb_1, xb_2, xb_3, xb_4, xb_5, xb_6, xb_7, xb_8, xb_9, xb_10, xb_11, xb_12, xb_13, xb_14, xb_15, xb_16, xb_17, xb_18, xb_19, xb_20, xb_21, xo_0, xo_1, xo_2, xo_3, xo_4, xo_5, xo_6, xo_7, xo_8, xo_9, xk0 s, xr0_3 s, xk14 s, xr14_0 s, xo_0 N.1, N.2.1]
  unfold fX11_pair_b18
  refine p_for (bk 0) (fun i w => w = (a_pI (a_po bk i).1, lN (a_po bk i).2, nI i)) ?_ ?_ 0 (by omega) rfl
  · rintro i w hi rfl
    have p := a_po_ok b i (by omega)
    have e1 : a_po bk (i + 1) = a_pi bk i (a_po bk i) (bk 0 - (i + 1)) := rfl
    unfold fX11_pair_b18_i
    simp (disch := first | assumption | omega) only [p_some, p_gd, p_br, p_bi, p_nm, p_mp, p_Sl, p_Sr, p_bis, p_gdt, q_IL, q_IR, q_LI, q_LR, q_RI, q_RL, q_KI, q_KL, q_KR, q_NI, q_NL, q_NR, q_nI, q_nL, q_nR, q_okI, q_okL, q_okR, q_Ie, q_In, q_Le, q_Ln, SM_I, SM_L, s_c0, s_cg0, s_cl0, s_cge, s_cle, r_le, r_lt, r_eq, r_md, r_2, r_3, r_lit, r_litL, r_m1, nI_add, nI_1, nI_clamp, nI_leI, nI_ltI, nI_eq, pk_sub, q_ix, nI_l, lN_add, lN_mul, r_m1n, r_m1n', r_m1lt, r_m1nlt, r_m1le, r_m1nle, Nat.not_lt_zero, Nat.reduceEqDiff, Nat.reduceLT, Nat.reduceLeDiff, true_and, and_true, true_implies, false_implies, not_true_eq_false, not_false_eq_true, implies_true, and_self, ne_eq, decide_true, decide_false, Bool.not_true, Bool.not_false, if_true, if_false, reduceIte, xb_0, xb_1, xb_2, xb_3, xb_4, xb_5, xb_6, xb_7, xb_8, xb_9, xb_10, xb_11, xb_12, xb_13, xb_14, xb_15, xb_16, xb_17, xb_18, xb_19, xb_20, xb_21, xo_0, xo_1, xo_2, xo_3, xo_4, xo_5, xo_6, xo_7, xo_8, xo_9, xb_0 B.1, B.2.1, show ¬ bk 0 ≤ i by omega]
    refine x_pairIn b B hi p (fun r hr => ?_)
    show _ = _
    rw [e1, ← hr]
  · rintro w rfl
    unfold fX11_pair_b18_i
    simp (disch := first | assumption | omega) only [p_some, p_gd, p_br, p_bi, p_nm, p_mp, p_Sl, p_Sr, p_bis, p_gdt, q_IL, q_IR, q_LI, q_LR, q_RI, q_RL, q_KI, q_KL, q_KR, q_NI, q_NL, q_NR, q_nI, q_nL, q_nR, q_okI, q_okL, q_okR, q_Ie, q_In, q_Le, q_Ln, SM_I, SM_L, s_c0, s_cg0, s_cl0, s_cge, s_cle, r_le, r_lt, r_eq, r_md, r_2, r_3, r_lit, r_litL, r_m1, nI_add, nI_1, nI_clamp, nI_leI, nI_ltI, nI_eq, pk_sub, q_ix, nI_l, lN_add, lN_mul, r_m1n, r_m1n', r_m1lt, r_m1nlt, r_m1le, r_m1nle, Nat.not_lt_zero, Nat.reduceEqDiff, Nat.reduceLT, Nat.reduceLeDiff, true_and, and_true, true_implies, false_implies, not_true_eq_false, not_false_eq_true, implies_true, and_self, ne_eq, decide_true, decide_false, Bool.not_true, Bool.not_false, if_true, if_false, reduceIte, xb_0, xb_1, xb_2, xb_3, xb_4, xb_5, xb_6, xb_7, xb_8, xb_9, xb_10, xb_11, xb_12, xb_13, xb_14, xb_15, xb_16, xb_17, xb_18, xb_19, xb_20, xb_21, xo_0, xo_1, xo_2, xo_3, xo_4, xo_5, xo_6, xo_7, xo_8, xo_9, xb_0 B.1, B.2.1, Nat.le_refl]
    rw [← hQ]
    rfl
