/-! the reference's draws leave the kept tree as it is -/
theorem m_drawStepK {h : z_T} {i q n t v9 : Nat} {bk ans : Nat → Nat} {x x1 x2 : Int32} {R : Int32 × z_T → Prop} {Q : Int32 × z_T → Prop} (s : SM h) (b : BOK bk) (hN : mNi h bk i ans) (x46 : z_I h 0 46 = x) (e1 : a_nx x = x1) (e2 : a_nx x1 = x2) (et : a_v x1 % bk 0 = t) (e9 : a_v x2 % 9 = v9) (hi : i < n) (hn : n ≤ 12) (ha : ∀ j, j < i → ans j < 2 * bk 0) (h0 : 0 < bk 0) (hq : q < 7)
    (k : ∀ h', m_fr (fun o k => (o ≠ 2 ∨ k < 36 ∨ 49 ≤ k) ∧ (o ≠ 0 ∨ k ≠ 46)) h h' → z_I h' 0 46 = x2 → mNi h' bk (i + 1) (a_u ans i (2 * t + if v9 < a_od bk ans i q t then 1 else 0)) → R (nI (i + 1), h')) : p_W (fX12_draws_b53_i 0 (nI n) (nI q) (nI i) h) (p_S R Q) := by
  have h8 := b.1
  have htm : t < bk 0 := by rw [← et]; exact Nat.mod_lt _ h0
  have h9 : v9 < 9 := by rw [← e9]; exact Nat.mod_lt _ (by decide)
  have d1 := m_draw s x46 e1 h0 (by omega)
  rw [et] at d1
  unfold fX12_draws_b53_i
  simp (disch := first | assumption | omega) only [p_some, p_gd, p_br, p_bi, p_nm, p_mp, p_Sl, p_Sr, p_bis, p_gdt, q_IL, q_IR, q_LI, q_LR, q_RI, q_RL, q_KI, q_KL, q_KR, q_NI, q_NL, q_NR, q_nI, q_nL, q_nR, q_okI, q_okL, q_okR, q_Ie, q_In, q_Le, q_Ln, SM_I, SM_L, s_c0, s_cg0, s_cl0, s_cge, s_cle, r_le, r_lt, r_eq, r_md, r_2, r_3, r_lit, r_litL, r_m1, nI_add, nI_1, nI_clamp, nI_leI, nI_ltI, nI_eq, pk_sub, q_ix, nI_l, lN_add, lN_mul, r_m1n, r_m1n', r_m1lt, r_m1nlt, r_m1le, r_m1nle, Nat.not_lt_zero, Nat.reduceEqDiff, Nat.reduceLT, Nat.reduceLeDiff, true_and, and_true, true_implies, false_implies, not_true_eq_false, not_false_eq_true, implies_true, and_self, ne_eq, decide_true, decide_false, Bool.not_true, Bool.not_false, if_true, if_false, reduceIte, mk0, mk1, mk2, mk3, mk4, mk5, mk6, mk7, mk8, mk9, mk10, mk11, mk12, mk13, mk14, mk15, mk16, mk17, mk18, mk19, mk20, mk21, mk22, mn1, mn2, mn3, mn4, mn5, mn6, mn7, mn8, mn9, mn10, mn11, mn12, mn13, mn14, mn15, mn16, mn17, mn18, mn19, mn20, mn21, mn22, mr1, mr6, mr7, mr8, mr9, mr10, mr21, mr22, mr23, mr25, mr26, mr29, mr30, mr32, mr33, mr34, mr43, mr47, mr53, mr54, mr55, mr56, hN.1 0 (by decide), d1, show ¬ n ≤ i by omega]
  have f1 : m_fr (fun o k => (o ≠ 2 ∨ k < 36 ∨ 49 ≤ k) ∧ (o ≠ 0 ∨ k ≠ 46)) h (z_sI h 0 46 x1) := m_fr.rf.sI (by omega)
  have y1 : z_I (z_sI h 0 46 x1) 0 46 = x1 := q_Ie rfl rfl
  have N1 : mNi (z_sI h 0 46 x1) bk i ans := hN.fr (C := fun o k => o ≠ 0) (m_fr.rf.sI (by omega)) (fun k => by omega)
  have s1 : SM (z_sI h 0 46 x1) := s
  generalize z_sI h 0 46 x1 = h1 at f1 y1 N1 s1 ⊢
  have d2 := m_draw (m := 9) s1 y1 e2 (by decide) (by decide)
  rw [e9] at d2
  simp (disch := first | assumption | omega) only [p_some, p_gd, p_br, p_bi, p_nm, p_mp, p_Sl, p_Sr, p_bis, p_gdt, q_IL, q_IR, q_LI, q_LR, q_RI, q_RL, q_KI, q_KL, q_KR, q_NI, q_NL, q_NR, q_nI, q_nL, q_nR, q_okI, q_okL, q_okR, q_Ie, q_In, q_Le, q_Ln, SM_I, SM_L, s_c0, s_cg0, s_cl0, s_cge, s_cle, r_le, r_lt, r_eq, r_md, r_2, r_3, r_lit, r_litL, r_m1, nI_add, nI_1, nI_clamp, nI_leI, nI_ltI, nI_eq, pk_sub, q_ix, nI_l, lN_add, lN_mul, r_m1n, r_m1n', r_m1lt, r_m1nlt, r_m1le, r_m1nle, Nat.not_lt_zero, Nat.reduceEqDiff, Nat.reduceLT, Nat.reduceLeDiff, true_and, and_true, true_implies, false_implies, not_true_eq_false, not_false_eq_true, implies_true, and_self, ne_eq, decide_true, decide_false, Bool.not_true, Bool.not_false, if_true, if_false, reduceIte, mk0, mk1, mk2, mk3, mk4, mk5, mk6, mk7, mk8, mk9, mk10, mk11, mk12, mk13, mk14, mk15, mk16, mk17, mk18, mk19, mk20, mk21, mk22, mn1, mn2, mn3, mn4, mn5, mn6, mn7, mn8, mn9, mn10, mn11, mn12, mn13, mn14, mn15, mn16, mn17, mn18, mn19, mn20, mn21, mn22, mr1, mr6, mr7, mr8, mr9, mr10, mr21, mr22, mr23, mr25, mr26, mr29, mr30, mr32, mr33, mr34, mr43, mr47, mr53, mr54, mr55, mr56, d2]
  have f2 : m_fr (fun o k => (o ≠ 2 ∨ k < 36 ∨ 49 ≤ k) ∧ (o ≠ 0 ∨ k ≠ 46)) h1 (z_sI h1 0 46 x2) := m_fr.rf.sI (by omega)
  have y2 : z_I (z_sI h1 0 46 x2) 0 46 = x2 := q_Ie rfl rfl
  have N2 : mNi (z_sI h1 0 46 x2) bk i ans := N1.fr (C := fun o k => o ≠ 0) (m_fr.rf.sI (by omega)) (fun k => by omega)
  have s2 : SM (z_sI h1 0 46 x2) := s1
  generalize z_sI h1 0 46 x2 = h2 at f2 y2 N2 s2 ⊢
  have hod := b.od (ans := ans) (n := i) (q := q) (t := t) (by omega)
  have hch := m_oddsOf (q := q) (t := t) (m := i) s2 b N2.1 N2.2.2 (fun j hj => by have := ha j hj; omega) (by omega) hq (by omega)
  unfold fX12_draws_b95
  simp (disch := first | assumption | omega) only [p_some, p_gd, p_br, p_bi, p_nm, p_mp, p_Sl, p_Sr, p_bis, p_gdt, q_IL, q_IR, q_LI, q_LR, q_RI, q_RL, q_KI, q_KL, q_KR, q_NI, q_NL, q_NR, q_nI, q_nL, q_nR, q_okI, q_okL, q_okR, q_Ie, q_In, q_Le, q_Ln, SM_I, SM_L, s_c0, s_cg0, s_cl0, s_cge, s_cle, r_le, r_lt, r_eq, r_md, r_2, r_3, r_lit, r_litL, r_m1, nI_add, nI_1, nI_clamp, nI_leI, nI_ltI, nI_eq, pk_sub, q_ix, nI_l, lN_add, lN_mul, r_m1n, r_m1n', r_m1lt, r_m1nlt, r_m1le, r_m1nle, Nat.not_lt_zero, Nat.reduceEqDiff, Nat.reduceLT, Nat.reduceLeDiff, true_and, and_true, true_implies, false_implies, not_true_eq_false, not_false_eq_true, implies_true, and_self, ne_eq, decide_true, decide_false, Bool.not_true, Bool.not_false, if_true, if_false, reduceIte, mk0, mk1, mk2, mk3, mk4, mk5, mk6, mk7, mk8, mk9, mk10, mk11, mk12, mk13, mk14, mk15, mk16, mk17, mk18, mk19, mk20, mk21, mk22, mn1, mn2, mn3, mn4, mn5, mn6, mn7, mn8, mn9, mn10, mn11, mn12, mn13, mn14, mn15, mn16, mn17, mn18, mn19, mn20, mn21, mn22, mr1, mr6, mr7, mr8, mr9, mr10, mr21, mr22, mr23, mr25, mr26, mr29, mr30, mr32, mr33, mr34, mr43, mr47, mr53, mr54, mr55, mr56, hch, pk_mul]
  refine ⟨fun c => ?_, fun c => ?_⟩
  · rw [if_neg (by omega)] at k
    simp (disch := first | assumption | omega) only [p_some, p_gd, p_br, p_bi, p_nm, p_mp, p_Sl, p_Sr, p_bis, p_gdt, q_IL, q_IR, q_LI, q_LR, q_RI, q_RL, q_KI, q_KL, q_KR, q_NI, q_NL, q_NR, q_nI, q_nL, q_nR, q_okI, q_okL, q_okR, q_Ie, q_In, q_Le, q_Ln, SM_I, SM_L, s_c0, s_cg0, s_cl0, s_cge, s_cle, r_le, r_lt, r_eq, r_md, r_2, r_3, r_lit, r_litL, r_m1, nI_add, nI_1, nI_clamp, nI_leI, nI_ltI, nI_eq, pk_sub, q_ix, nI_l, lN_add, lN_mul, r_m1n, r_m1n', r_m1lt, r_m1nlt, r_m1le, r_m1nle, Nat.not_lt_zero, Nat.reduceEqDiff, Nat.reduceLT, Nat.reduceLeDiff, true_and, and_true, true_implies, false_implies, not_true_eq_false, not_false_eq_true, implies_true, and_self, ne_eq, decide_true, decide_false, Bool.not_true, Bool.not_false, if_true, if_false, reduceIte, mk0, mk1, mk2, mk3, mk4, mk5, mk6, mk7, mk8, mk9, mk10, mk11, mk12, mk13, mk14, mk15, mk16, mk17, mk18, mk19, mk20, mk21, mk22, mn1, mn2, mn3, mn4, mn5, mn6, mn7, mn8, mn9, mn10, mn11, mn12, mn13, mn14, mn15, mn16, mn17, mn18, mn19, mn20, mn21, mn22, mr1, mr6, mr7, mr8, mr9, mr10, mr21, mr22, mr23, mr25, mr26, mr29, mr30, mr32, mr33, mr34, mr43, mr47, mr53, mr54, mr55, mr56, m_adds s2 N2 (by omega)]
    obtain ⟨N3, f3⟩ := N2.add2 (v := 2 * t + 0) (by omega)
    exact k _ ((f1.tr f2).tr (f3.w (fun o k c => c.1))) ((f3.I 0 46 (by omega)).trans y2) N3
  · rw [if_pos (by omega)] at k
    simp (disch := first | assumption | omega) only [p_some, p_gd, p_br, p_bi, p_nm, p_mp, p_Sl, p_Sr, p_bis, p_gdt, q_IL, q_IR, q_LI, q_LR, q_RI, q_RL, q_KI, q_KL, q_KR, q_NI, q_NL, q_NR, q_nI, q_nL, q_nR, q_okI, q_okL, q_okR, q_Ie, q_In, q_Le, q_Ln, SM_I, SM_L, s_c0, s_cg0, s_cl0, s_cge, s_cle, r_le, r_lt, r_eq, r_md, r_2, r_3, r_lit, r_litL, r_m1, nI_add, nI_1, nI_clamp, nI_leI, nI_ltI, nI_eq, pk_sub, q_ix, nI_l, lN_add, lN_mul, r_m1n, r_m1n', r_m1lt, r_m1nlt, r_m1le, r_m1nle, Nat.not_lt_zero, Nat.reduceEqDiff, Nat.reduceLT, Nat.reduceLeDiff, true_and, and_true, true_implies, false_implies, not_true_eq_false, not_false_eq_true, implies_true, and_self, ne_eq, decide_true, decide_false, Bool.not_true, Bool.not_false, if_true, if_false, reduceIte, mk0, mk1, mk2, mk3, mk4, mk5, mk6, mk7, mk8, mk9, mk10, mk11, mk12, mk13, mk14, mk15, mk16, mk17, mk18, mk19, mk20, mk21, mk22, mn1, mn2, mn3, mn4, mn5, mn6, mn7, mn8, mn9, mn10, mn11, mn12, mn13, mn14, mn15, mn16, mn17, mn18, mn19, mn20, mn21, mn22, mr1, mr6, mr7, mr8, mr9, mr10, mr21, mr22, mr23, mr25, mr26, mr29, mr30, mr32, mr33, mr34, mr43, mr47, mr53, mr54, mr55, mr56, m_adds s2 N2 (by omega)]
    obtain ⟨N3, f3⟩ := N2.add2 (v := 2 * t + 1) (by omega)
    exact k _ ((f1.tr f2).tr (f3.w (fun o k c => c.1))) ((f3.I 0 46 (by omega)).trans y2) N3
theorem m_draws0K {h : z_T} {n W r0 q0 : Nat} {bk : Nat → Nat} {x x1 : Int32} {Q : Int32 × z_T → Prop} (s : SM h) (b : BOK bk) (hB : mB h bk) (hn : n ≤ 12) (ht : n = 0 ∨ 0 < bk 0) (e1 : a_nx x = x1) (eW : sumN (a_w bk) 7 = W) (er : a_v x1 % W = r0) (eq : a_pick (a_w bk) 7 0 r0 = q0) (hq : q0 < 7) (hr24 : r0 < 2 ^ 24) (hrW : r0 < W)
    (k : ∀ h', m_fr (fun o k => (o ≠ 2 ∨ k < 36 ∨ 49 ≤ k) ∧ (o ≠ 0 ∨ k ≠ 46)) h h' → mNi h' bk n (a_dr bk q0 x1 n).2 → Q (nI q0, h')) : p_W (fX12_draws 0 (nI n) x h) Q := by
  have hw := b.wle
  rw [eW] at hw
  have hwp : 0 < W := by omega
  have h8 := b.1
  have f1 : m_fr (fun o k => (o ≠ 2 ∨ k < 36 ∨ 49 ≤ k) ∧ (o ≠ 0 ∨ k ≠ 46)) h (z_sI h 0 46 x) := m_fr.rf.sI (by omega)
  have y1 : z_I (z_sI h 0 46 x) 0 46 = x := q_Ie rfl rfl
  have s1 : SM (z_sI h 0 46 x) := s
  have B1 : mB (z_sI h 0 46 x) bk := fun k hk => (q_In (by omega)).trans (hB k hk)
  unfold fX12_draws
  simp (disch := first | assumption | omega) only [p_some, p_gd, p_br, p_bi, p_nm, p_mp, p_Sl, p_Sr, p_bis, p_gdt, q_IL, q_IR, q_LI, q_LR, q_RI, q_RL, q_KI, q_KL, q_KR, q_NI, q_NL, q_NR, q_nI, q_nL, q_nR, q_okI, q_okL, q_okR, q_Ie, q_In, q_Le, q_Ln, SM_I, SM_L, s_c0, s_cg0, s_cl0, s_cge, s_cle, r_le, r_lt, r_eq, r_md, r_2, r_3, r_lit, r_litL, r_m1, nI_add, nI_1, nI_clamp, nI_leI, nI_ltI, nI_eq, pk_sub, q_ix, nI_l, lN_add, lN_mul, r_m1n, r_m1n', r_m1lt, r_m1nlt, r_m1le, r_m1nle, Nat.not_lt_zero, Nat.reduceEqDiff, Nat.reduceLT, Nat.reduceLeDiff, true_and, and_true, true_implies, false_implies, not_true_eq_false, not_false_eq_true, implies_true, and_self, ne_eq, decide_true, decide_false, Bool.not_true, Bool.not_false, if_true, if_false, reduceIte, mk0, mk1, mk2, mk3, mk4, mk5, mk6, mk7, mk8, mk9, mk10, mk11, mk12, mk13, mk14, mk15, mk16, mk17, mk18, mk19, mk20, mk21, mk22, mn1, mn2, mn3, mn4, mn5, mn6, mn7, mn8, mn9, mn10, mn11, mn12, mn13, mn14, mn15, mn16, mn17, mn18, mn19, mn20, mn21, mn22, mr1, mr6, mr7, mr8, mr9, mr10, mr21, mr22, mr23, mr25, mr26, mr29, mr30, mr32, mr33, mr34, mr43, mr47, mr53, mr54, mr55, mr56]
  generalize z_sI h 0 46 x = h1 at f1 y1 s1 B1 ⊢
  have d1 := m_draw (m := W) s1 y1 e1 hwp (by omega)
  have d0 := m_allWeights s1 b B1
  rw [er] at d1
  rw [eW] at d0
  simp (disch := first | assumption | omega) only [p_some, p_gd, p_br, p_bi, p_nm, p_mp, p_Sl, p_Sr, p_bis, p_gdt, q_IL, q_IR, q_LI, q_LR, q_RI, q_RL, q_KI, q_KL, q_KR, q_NI, q_NL, q_NR, q_nI, q_nL, q_nR, q_okI, q_okL, q_okR, q_Ie, q_In, q_Le, q_Ln, SM_I, SM_L, s_c0, s_cg0, s_cl0, s_cge, s_cle, r_le, r_lt, r_eq, r_md, r_2, r_3, r_lit, r_litL, r_m1, nI_add, nI_1, nI_clamp, nI_leI, nI_ltI, nI_eq, pk_sub, q_ix, nI_l, lN_add, lN_mul, r_m1n, r_m1n', r_m1lt, r_m1nlt, r_m1le, r_m1nle, Nat.not_lt_zero, Nat.reduceEqDiff, Nat.reduceLT, Nat.reduceLeDiff, true_and, and_true, true_implies, false_implies, not_true_eq_false, not_false_eq_true, implies_true, and_self, ne_eq, decide_true, decide_false, Bool.not_true, Bool.not_false, if_true, if_false, reduceIte, mk0, mk1, mk2, mk3, mk4, mk5, mk6, mk7, mk8, mk9, mk10, mk11, mk12, mk13, mk14, mk15, mk16, mk17, mk18, mk19, mk20, mk21, mk22, mn1, mn2, mn3, mn4, mn5, mn6, mn7, mn8, mn9, mn10, mn11, mn12, mn13, mn14, mn15, mn16, mn17, mn18, mn19, mn20, mn21, mn22, mr1, mr6, mr7, mr8, mr9, mr10, mr21, mr22, mr23, mr25, mr26, mr29, mr30, mr32, mr33, mr34, mr43, mr47, mr53, mr54, mr55, mr56, d0, d1]
  have f2 : m_fr (fun o k => (o ≠ 2 ∨ k < 36 ∨ 49 ≤ k) ∧ (o ≠ 0 ∨ k ≠ 46)) h1 (z_sI h1 0 46 x1) := m_fr.rf.sI (by omega)
  have y2 : z_I (z_sI h1 0 46 x1) 0 46 = x1 := q_Ie rfl rfl
  have s2 : SM (z_sI h1 0 46 x1) := s1
  have B2 : mB (z_sI h1 0 46 x1) bk := fun k hk => (q_In (by omega)).trans (B1 k hk)
  generalize z_sI h1 0 46 x1 = h2 at f2 y2 s2 B2 ⊢
  unfold fX12_draws_b17
  refine p_for 7 (fun j w => ∃ r, w = (nI r, nI j) ∧ r < 2 ^ 24 ∧ r < sumN (fun i => a_w bk (j + i)) (7 - j) ∧ a_pick (a_w bk) (7 - j) j r = q0) ?_ ?_ 0 (by omega) ⟨r0, rfl, hr24, ?_, eq⟩
  · rintro j w hj ⟨r, rfl, hr, hrs, hp⟩
    rw [show 7 - j = (7 - (j + 1)) + 1 by omega, a_pick] at hp
    rw [show 7 - j = (7 - (j + 1)) + 1 by omega, sumN_head] at hrs
    have hrs : r < a_w bk j + sumN (fun i => a_w bk (j + (i + 1))) (7 - (j + 1)) := hrs
    have e : sumN (fun i => a_w bk (j + (i + 1))) (7 - (j + 1)) = sumN (fun i => a_w bk (j + 1 + i)) (7 - (j + 1)) := sumN_congr (fun i _ => by rw [show j + (i + 1) = j + 1 + i by omega])
    have hwj := b.w hj
    unfold fX12_draws_b17_i
    simp (disch := first | assumption | omega) only [p_some, p_gd, p_br, p_bi, p_nm, p_mp, p_Sl, p_Sr, p_bis, p_gdt, q_IL, q_IR, q_LI, q_LR, q_RI, q_RL, q_KI, q_KL, q_KR, q_NI, q_NL, q_NR, q_nI, q_nL, q_nR, q_okI, q_okL, q_okR, q_Ie, q_In, q_Le, q_Ln, SM_I, SM_L, s_c0, s_cg0, s_cl0, s_cge, s_cle, r_le, r_lt, r_eq, r_md, r_2, r_3, r_lit, r_litL, r_m1, nI_add, nI_1, nI_clamp, nI_leI, nI_ltI, nI_eq, pk_sub, q_ix, nI_l, lN_add, lN_mul, r_m1n, r_m1n', r_m1lt, r_m1nlt, r_m1le, r_m1nle, Nat.not_lt_zero, Nat.reduceEqDiff, Nat.reduceLT, Nat.reduceLeDiff, true_and, and_true, true_implies, false_implies, not_true_eq_false, not_false_eq_true, implies_true, and_self, ne_eq, decide_true, decide_false, Bool.not_true, Bool.not_false, if_true, if_false, reduceIte, mk0, mk1, mk2, mk3, mk4, mk5, mk6, mk7, mk8, mk9, mk10, mk11, mk12, mk13, mk14, mk15, mk16, mk17, mk18, mk19, mk20, mk21, mk22, mn1, mn2, mn3, mn4, mn5, mn6, mn7, mn8, mn9, mn10, mn11, mn12, mn13, mn14, mn15, mn16, mn17, mn18, mn19, mn20, mn21, mn22, mr1, mr6, mr7, mr8, mr9, mr10, mr21, mr22, mr23, mr25, mr26, mr29, mr30, mr32, mr33, mr34, mr43, mr47, mr53, mr54, mr55, mr56, m_weightOf s2 B2]
    refine ⟨fun c => ?_, fun c => ?_⟩
    · rw [if_neg (by omega)] at hp
      rw [hp]
      have f3 : m_fr (fun o k => (o ≠ 2 ∨ k < 36 ∨ 49 ≤ k) ∧ (o ≠ 0 ∨ k ≠ 46)) h2 (z_sI h2 2 36 (nI 0)) := m_fr.rf.sI (by omega)
      have y3 : z_I (z_sI h2 2 36 (nI 0)) 0 46 = x1 := (q_In (by omega)).trans y2
      have s3 : SM (z_sI h2 2 36 (nI 0)) := s2
      have N3 : mNi (z_sI h2 2 36 (nI 0)) bk 0 (fun _ => 0) := ⟨fun k hk => (q_In (by omega)).trans (B2 k hk), q_Ie rfl rfl, fun i hi => absurd hi (by omega)⟩
      generalize z_sI h2 2 36 (nI 0) = h3 at f3 y3 s3 N3 ⊢
      unfold fX12_draws_b53
      refine p_for n (fun i w => w.1 = nI i ∧ m_fr (fun o k => (o ≠ 2 ∨ k < 36 ∨ 49 ≤ k) ∧ (o ≠ 0 ∨ k ≠ 46)) h3 w.2 ∧ z_I w.2 0 46 = (a_dr bk (q0) x1 i).1 ∧ mNi w.2 bk i (a_dr bk (q0) x1 i).2) ?_ ?_ 0 (by omega) ⟨rfl, m_fr.rf, y3, N3⟩
      · rintro i ⟨y, h4⟩ hi ⟨e1, f4, x4, N4⟩
        dsimp only at e1 f4 x4 N4
        subst e1
        refine m_drawStepK (f4.s s3) b N4 x4 rfl rfl (a_dt_e _ _) rfl hi hn (fun j hj => a_dr_t (by omega) i j hj) (by omega) hq (fun h5 f5 y5 N5 => ⟨rfl, f4.tr f5, ?_, ?_⟩)
        · rw [a_dr_s]; exact y5
        · rw [a_ds_e] at N5
          rw [a_dr_s]; exact N5
      · rintro ⟨y, h4⟩ ⟨e1, f4, x4, N4⟩
        dsimp only at e1 f4 x4 N4
        subst e1
        unfold fX12_draws_b53_i
        simp (disch := first | assumption | omega) only [p_some, p_gd, p_br, p_bi, p_nm, p_mp, p_Sl, p_Sr, p_bis, p_gdt, q_IL, q_IR, q_LI, q_LR, q_RI, q_RL, q_KI, q_KL, q_KR, q_NI, q_NL, q_NR, q_nI, q_nL, q_nR, q_okI, q_okL, q_okR, q_Ie, q_In, q_Le, q_Ln, SM_I, SM_L, s_c0, s_cg0, s_cl0, s_cge, s_cle, r_le, r_lt, r_eq, r_md, r_2, r_3, r_lit, r_litL, r_m1, nI_add, nI_1, nI_clamp, nI_leI, nI_ltI, nI_eq, pk_sub, q_ix, nI_l, lN_add, lN_mul, r_m1n, r_m1n', r_m1lt, r_m1nlt, r_m1le, r_m1nle, Nat.not_lt_zero, Nat.reduceEqDiff, Nat.reduceLT, Nat.reduceLeDiff, true_and, and_true, true_implies, false_implies, not_true_eq_false, not_false_eq_true, implies_true, and_self, ne_eq, decide_true, decide_false, Bool.not_true, Bool.not_false, if_true, if_false, reduceIte, mk0, mk1, mk2, mk3, mk4, mk5, mk6, mk7, mk8, mk9, mk10, mk11, mk12, mk13, mk14, mk15, mk16, mk17, mk18, mk19, mk20, mk21, mk22, mn1, mn2, mn3, mn4, mn5, mn6, mn7, mn8, mn9, mn10, mn11, mn12, mn13, mn14, mn15, mn16, mn17, mn18, mn19, mn20, mn21, mn22, mr1, mr6, mr7, mr8, mr9, mr10, mr21, mr22, mr23, mr25, mr26, mr29, mr30, mr32, mr33, mr34, mr43, mr47, mr53, mr54, mr55, mr56, Nat.le_refl]
        exact k h4 (((f1.tr f2).tr f3).tr f4) N4
    · rw [if_pos (by omega)] at hp
      exact ⟨r - a_w bk j, by rw [pk_sub (by omega)], by omega, by rw [e] at hrs; omega, hp⟩
  · rintro w ⟨r, rfl, hr, hrs, hp⟩
    exact absurd hrs (Nat.not_lt_zero _)
  · rw [show sumN (fun j => a_w bk (0 + j)) (7 - 0) = sumN (a_w bk) 7 from sumN_congr (fun i _ => by rw [Nat.zero_add]), eW]
    exact hrW
theorem m_drawsK {h : z_T} {n : Nat} {bk : Nat → Nat} {Q : Int32 × z_T → Prop} (s : SM h) (b : BOK bk) (hB : mB h bk) (hn : n ≤ 12) (ht : n = 0 ∨ 0 < bk 0) (x : Int32)
    (k : ∀ h', m_fr (fun o k => (o ≠ 2 ∨ k < 36 ∨ 49 ≤ k) ∧ (o ≠ 0 ∨ k ≠ 46)) h h' → mNi h' bk n (a_da bk x n) → Q (nI (a_dq bk x), h')) : p_W (fX12_draws 0 (nI n) x h) Q :=
  m_draws0K s b hB hn ht rfl rfl rfl (a_dq_e bk x) (a_dq_lt bk x) (Nat.lt_of_le_of_lt (Nat.mod_le _ _) (a_v_lt _)) (Nat.mod_lt _ b.wpos) (fun h' f N => k h' f (by rw [a_da_e] at N; exact N))
theorem m_drawnK {h : z_T} {bk ans : Nat → Nat} {n k : Nat} {pa : Nat → Nat × (Nat → Nat)} {Q : Int32 × z_T → Prop} (s : SM h) (b : BOK bk) (hN : mNi h bk n ans) (hn : n ≤ 12) (hU : mU h k pa) (hk : k ≤ 8) (hpa : ∀ j, j < k → (pa j).1 ≤ 12) (y x : Int32)
    (k0 : ∀ h', m_fr mKp h h' → ¬ a_cd bk y → Q (m1, h'))
    (k1 : ∀ h' m, m_fr (fun o j => mKp o j ∧ o ≠ 8 ∧ (o ≠ 0 ∨ j ≠ 24) ∧ (o ≠ 2 ∨ j < 36 ∨ 49 ≤ j)) h h' → a_cd bk y → m ≤ 12 → y = nI m → (m = 0 ∨ 0 < bk 0) → mU h' (min (k + 1) 8) (a_push pa (n, ans)) → mNi h' bk m (a_da bk x m) → Q (nI (a_dq bk x), h')) : p_W (fX12_drawn 0 y x h) Q := by
  have s0 : SM (z_sI h 0 0 (nI 0)) := s
  unfold fX12_drawn
  simp (disch := first | assumption | omega) only [p_some, p_gd, p_br, p_bi, p_nm, p_mp, p_Sl, p_Sr, p_bis, p_gdt, q_IL, q_IR, q_LI, q_LR, q_RI, q_RL, q_KI, q_KL, q_KR, q_NI, q_NL, q_NR, q_nI, q_nL, q_nR, q_okI, q_okL, q_okR, q_Ie, q_In, q_Le, q_Ln, SM_I, SM_L, s_c0, s_cg0, s_cl0, s_cge, s_cle, r_le, r_lt, r_eq, r_md, r_2, r_3, r_lit, r_litL, r_m1, nI_add, nI_1, nI_clamp, nI_leI, nI_ltI, nI_eq, pk_sub, q_ix, nI_l, lN_add, lN_mul, r_m1n, r_m1n', r_m1lt, r_m1nlt, r_m1le, r_m1nle, Nat.not_lt_zero, Nat.reduceEqDiff, Nat.reduceLT, Nat.reduceLeDiff, true_and, and_true, true_implies, false_implies, not_true_eq_false, not_false_eq_true, implies_true, and_self, ne_eq, decide_true, decide_false, Bool.not_true, Bool.not_false, if_true, if_false, reduceIte, mk0, mk1, mk2, mk3, mk4, mk5, mk6, mk7, mk8, mk9, mk10, mk11, mk12, mk13, mk14, mk15, mk16, mk17, mk18, mk19, mk20, mk21, mk22, mn1, mn2, mn3, mn4, mn5, mn6, mn7, mn8, mn9, mn10, mn11, mn12, mn13, mn14, mn15, mn16, mn17, mn18, mn19, mn20, mn21, mn22, mr1, mr6, mr7, mr8, mr9, mr10, mr21, mr22, mr23, mr25, mr26, mr29, mr30, mr32, mr33, mr34, mr43, mr47, mr53, mr54, mr55, mr56]
  refine m_areDrawn s0 b hN.t0.1 y (fun c => ?_) (fun c => ?_)
  · obtain ⟨m, hm, rfl, hm0⟩ := a_cd_n c
    simp (disch := first | assumption | omega) only [p_some, p_gd, p_br, p_bi, p_nm, p_mp, p_Sl, p_Sr, p_bis, p_gdt, q_IL, q_IR, q_LI, q_LR, q_RI, q_RL, q_KI, q_KL, q_KR, q_NI, q_NL, q_NR, q_nI, q_nL, q_nR, q_okI, q_okL, q_okR, q_Ie, q_In, q_Le, q_Ln, SM_I, SM_L, s_c0, s_cg0, s_cl0, s_cge, s_cle, r_le, r_lt, r_eq, r_md, r_2, r_3, r_lit, r_litL, r_m1, nI_add, nI_1, nI_clamp, nI_leI, nI_ltI, nI_eq, pk_sub, q_ix, nI_l, lN_add, lN_mul, r_m1n, r_m1n', r_m1lt, r_m1nlt, r_m1le, r_m1nle, Nat.not_lt_zero, Nat.reduceEqDiff, Nat.reduceLT, Nat.reduceLeDiff, true_and, and_true, true_implies, false_implies, not_true_eq_false, not_false_eq_true, implies_true, and_self, ne_eq, decide_true, decide_false, Bool.not_true, Bool.not_false, if_true, if_false, reduceIte, mk0, mk1, mk2, mk3, mk4, mk5, mk6, mk7, mk8, mk9, mk10, mk11, mk12, mk13, mk14, mk15, mk16, mk17, mk18, mk19, mk20, mk21, mk22, mn1, mn2, mn3, mn4, mn5, mn6, mn7, mn8, mn9, mn10, mn11, mn12, mn13, mn14, mn15, mn16, mn17, mn18, mn19, mn20, mn21, mn22, mr1, mr6, mr7, mr8, mr9, mr10, mr21, mr22, mr23, mr25, mr26, mr29, mr30, mr32, mr33, mr34, mr43, mr47, mr53, mr54, mr55, mr56]
    refine m_keep s0 hN.t0 hn (hU.fr m_fr.t0 (by unfold mKp; omega) (fun k => by unfold mKp; omega)) hk hpa (fun h1 f hU1 => ?_)
    have s1 := f.s s0
    have hN1 := (hN.t0 (v := nI 0)).fr f (fun k => by omega)
    simp (disch := first | assumption | omega) only [p_some, p_gd, p_br, p_bi, p_nm, p_mp, p_Sl, p_Sr, p_bis, p_gdt, q_IL, q_IR, q_LI, q_LR, q_RI, q_RL, q_KI, q_KL, q_KR, q_NI, q_NL, q_NR, q_nI, q_nL, q_nR, q_okI, q_okL, q_okR, q_Ie, q_In, q_Le, q_Ln, SM_I, SM_L, s_c0, s_cg0, s_cl0, s_cge, s_cle, r_le, r_lt, r_eq, r_md, r_2, r_3, r_lit, r_litL, r_m1, nI_add, nI_1, nI_clamp, nI_leI, nI_ltI, nI_eq, pk_sub, q_ix, nI_l, lN_add, lN_mul, r_m1n, r_m1n', r_m1lt, r_m1nlt, r_m1le, r_m1nle, Nat.not_lt_zero, Nat.reduceEqDiff, Nat.reduceLT, Nat.reduceLeDiff, true_and, and_true, true_implies, false_implies, not_true_eq_false, not_false_eq_true, implies_true, and_self, ne_eq, decide_true, decide_false, Bool.not_true, Bool.not_false, if_true, if_false, reduceIte, mk0, mk1, mk2, mk3, mk4, mk5, mk6, mk7, mk8, mk9, mk10, mk11, mk12, mk13, mk14, mk15, mk16, mk17, mk18, mk19, mk20, mk21, mk22, mn1, mn2, mn3, mn4, mn5, mn6, mn7, mn8, mn9, mn10, mn11, mn12, mn13, mn14, mn15, mn16, mn17, mn18, mn19, mn20, mn21, mn22, mr1, mr6, mr7, mr8, mr9, mr10, mr21, mr22, mr23, mr25, mr26, mr29, mr30, mr32, mr33, mr34, mr43, mr47, mr53, mr54, mr55, mr56]
    refine m_drawsK s1 b hN1.1 hm hm0 x (fun h2 f2 N2 => ?_)
    exact k1 h2 m ((m_fr.t0.w (fun o k c => c.1)).tr (f.w (fun o k c => ⟨c.2.1, c.2.2.1⟩)) |>.tr (f2.w (fun o k c => ⟨c.2.2.2, by have := c.1; unfold mKp at this; omega⟩))) c hm rfl hm0 (hU1.fr f2 (by omega) (fun k => by omega)) N2
  · simp (disch := first | assumption | omega) only [p_some, p_gd, p_br, p_bi, p_nm, p_mp, p_Sl, p_Sr, p_bis, p_gdt, q_IL, q_IR, q_LI, q_LR, q_RI, q_RL, q_KI, q_KL, q_KR, q_NI, q_NL, q_NR, q_nI, q_nL, q_nR, q_okI, q_okL, q_okR, q_Ie, q_In, q_Le, q_Ln, SM_I, SM_L, s_c0, s_cg0, s_cl0, s_cge, s_cle, r_le, r_lt, r_eq, r_md, r_2, r_3, r_lit, r_litL, r_m1, nI_add, nI_1, nI_clamp, nI_leI, nI_ltI, nI_eq, pk_sub, q_ix, nI_l, lN_add, lN_mul, r_m1n, r_m1n', r_m1lt, r_m1nlt, r_m1le, r_m1nle, Nat.not_lt_zero, Nat.reduceEqDiff, Nat.reduceLT, Nat.reduceLeDiff, true_and, and_true, true_implies, false_implies, not_true_eq_false, not_false_eq_true, implies_true, and_self, ne_eq, decide_true, decide_false, Bool.not_true, Bool.not_false, if_true, if_false, reduceIte, mk0, mk1, mk2, mk3, mk4, mk5, mk6, mk7, mk8, mk9, mk10, mk11, mk12, mk13, mk14, mk15, mk16, mk17, mk18, mk19, mk20, mk21, mk22, mn1, mn2, mn3, mn4, mn5, mn6, mn7, mn8, mn9, mn10, mn11, mn12, mn13, mn14, mn15, mn16, mn17, mn18, mn19, mn20, mn21, mn22, mr1, mr6, mr7, mr8, mr9, mr10, mr21, mr22, mr23, mr25, mr26, mr29, mr30, mr32, mr33, mr34, mr43, mr47, mr53, mr54, mr55, mr56]
    exact k0 _ m_fr.t0 c
theorem m_wrongsK {h : z_T} {bk ans : Nat → Nat} {n : Nat} {Q : Int32 × z_T → Prop} (s : SM h) (b : BOK bk) (hN : mNi h bk n ans) (hn : n ≤ 12) (c y x : Int32)
    (k : ∀ h', m_fr (fun o j => mKp o j ∧ (o ≠ 2 ∨ j < 36 ∨ 49 ≤ j)) h h' → mNi h' bk n ans → Q (a_wr bk c y x, h')) : p_W (fX12_wrongs 0 c y x h) Q := by
  have s0 : SM (z_sI h 0 0 (nI 0)) := s
  have ft : m_fr (fun o j => mKp o j ∧ (o ≠ 2 ∨ j < 36 ∨ 49 ≤ j)) h (z_sI h 0 0 (nI 0)) := m_fr.t0.w (fun o k c => c.1)
  unfold a_wr at k
  unfold fX12_wrongs
  simp (disch := first | assumption | omega) only [p_some, p_gd, p_br, p_bi, p_nm, p_mp, p_Sl, p_Sr, p_bis, p_gdt, q_IL, q_IR, q_LI, q_LR, q_RI, q_RL, q_KI, q_KL, q_KR, q_NI, q_NL, q_NR, q_nI, q_nL, q_nR, q_okI, q_okL, q_okR, q_Ie, q_In, q_Le, q_Ln, SM_I, SM_L, s_c0, s_cg0, s_cl0, s_cge, s_cle, r_le, r_lt, r_eq, r_md, r_2, r_3, r_lit, r_litL, r_m1, nI_add, nI_1, nI_clamp, nI_leI, nI_ltI, nI_eq, pk_sub, q_ix, nI_l, lN_add, lN_mul, r_m1n, r_m1n', r_m1lt, r_m1nlt, r_m1le, r_m1nle, Nat.not_lt_zero, Nat.reduceEqDiff, Nat.reduceLT, Nat.reduceLeDiff, true_and, and_true, true_implies, false_implies, not_true_eq_false, not_false_eq_true, implies_true, and_self, ne_eq, decide_true, decide_false, Bool.not_true, Bool.not_false, if_true, if_false, reduceIte, mk0, mk1, mk2, mk3, mk4, mk5, mk6, mk7, mk8, mk9, mk10, mk11, mk12, mk13, mk14, mk15, mk16, mk17, mk18, mk19, mk20, mk21, mk22, mn1, mn2, mn3, mn4, mn5, mn6, mn7, mn8, mn9, mn10, mn11, mn12, mn13, mn14, mn15, mn16, mn17, mn18, mn19, mn20, mn21, mn22, mr1, mr6, mr7, mr8, mr9, mr10, mr21, mr22, mr23, mr25, mr26, mr29, mr30, mr32, mr33, mr34, mr43, mr47, mr53, mr54, mr55, mr56, m_isIn, bI_0]
  refine ⟨fun c1 => ?_, fun c1 => ?_⟩
  · rw [if_neg c1] at k
    exact k _ ft hN.t0
  have c2 := Classical.not_not.mp c1
  rw [if_pos c2] at k
  refine m_areDrawn s0 b hN.t0.1 y (fun cd => ?_) (fun cd => ?_)
  rotate_left
  · simp (disch := first | assumption | omega) only [p_some, p_gd, p_br, p_bi, p_nm, p_mp, p_Sl, p_Sr, p_bis, p_gdt, q_IL, q_IR, q_LI, q_LR, q_RI, q_RL, q_KI, q_KL, q_KR, q_NI, q_NL, q_NR, q_nI, q_nL, q_nR, q_okI, q_okL, q_okR, q_Ie, q_In, q_Le, q_Ln, SM_I, SM_L, s_c0, s_cg0, s_cl0, s_cge, s_cle, r_le, r_lt, r_eq, r_md, r_2, r_3, r_lit, r_litL, r_m1, nI_add, nI_1, nI_clamp, nI_leI, nI_ltI, nI_eq, pk_sub, q_ix, nI_l, lN_add, lN_mul, r_m1n, r_m1n', r_m1lt, r_m1nlt, r_m1le, r_m1nle, Nat.not_lt_zero, Nat.reduceEqDiff, Nat.reduceLT, Nat.reduceLeDiff, true_and, and_true, true_implies, false_implies, not_true_eq_false, not_false_eq_true, implies_true, and_self, ne_eq, decide_true, decide_false, Bool.not_true, Bool.not_false, if_true, if_false, reduceIte, mk0, mk1, mk2, mk3, mk4, mk5, mk6, mk7, mk8, mk9, mk10, mk11, mk12, mk13, mk14, mk15, mk16, mk17, mk18, mk19, mk20, mk21, mk22, mn1, mn2, mn3, mn4, mn5, mn6, mn7, mn8, mn9, mn10, mn11, mn12, mn13, mn14, mn15, mn16, mn17, mn18, mn19, mn20, mn21, mn22, mr1, mr6, mr7, mr8, mr9, mr10, mr21, mr22, mr23, mr25, mr26, mr29, mr30, mr32, mr33, mr34, mr43, mr47, mr53, mr54, mr55, mr56]
    unfold a_cd at cd
    rw [if_neg cd] at k
    exact k _ ft hN.t0
  obtain ⟨n2, hn2, e2, hn0⟩ := a_cd_n cd
  unfold a_cd at cd
  rw [if_pos cd] at k
  obtain ⟨m, hm, e3⟩ := a_c60 c2
  subst e2 e3
  rw [nI_clamp (by omega), nI_clamp (by omega)] at k
  clear c1 c2 cd
  simp (disch := first | assumption | omega) only [p_some, p_gd, p_br, p_bi, p_nm, p_mp, p_Sl, p_Sr, p_bis, p_gdt, q_IL, q_IR, q_LI, q_LR, q_RI, q_RL, q_KI, q_KL, q_KR, q_NI, q_NL, q_NR, q_nI, q_nL, q_nR, q_okI, q_okL, q_okR, q_Ie, q_In, q_Le, q_Ln, SM_I, SM_L, s_c0, s_cg0, s_cl0, s_cge, s_cle, r_le, r_lt, r_eq, r_md, r_2, r_3, r_lit, r_litL, r_m1, nI_add, nI_1, nI_clamp, nI_leI, nI_ltI, nI_eq, pk_sub, q_ix, nI_l, lN_add, lN_mul, r_m1n, r_m1n', r_m1lt, r_m1nlt, r_m1le, r_m1nle, Nat.not_lt_zero, Nat.reduceEqDiff, Nat.reduceLT, Nat.reduceLeDiff, true_and, and_true, true_implies, false_implies, not_true_eq_false, not_false_eq_true, implies_true, and_self, ne_eq, decide_true, decide_false, Bool.not_true, Bool.not_false, if_true, if_false, reduceIte, mk0, mk1, mk2, mk3, mk4, mk5, mk6, mk7, mk8, mk9, mk10, mk11, mk12, mk13, mk14, mk15, mk16, mk17, mk18, mk19, mk20, mk21, mk22, mn1, mn2, mn3, mn4, mn5, mn6, mn7, mn8, mn9, mn10, mn11, mn12, mn13, mn14, mn15, mn16, mn17, mn18, mn19, mn20, mn21, mn22, mr1, mr6, mr7, mr8, mr9, mr10, mr21, mr22, mr23, mr25, mr26, mr29, mr30, mr32, mr33, mr34, mr43, mr47, mr53, mr54, mr55, mr56]
  refine p_mono (m_tries s0) (fun h1 ⟨f1, g1⟩ => ?_)
  have s1 := f1.s s0
  have hN1 := hN.t0.fr f1 (fun k => by decide)
  unfold fX12_wrongs_b35
  refine p_for m (fun j w => w.1 = nI (sumN (fun j => a_w1 bk n2 (x + nI j)) j) ∧ w.2.1 = nI j ∧ sumN (fun j => a_w1 bk n2 (x + nI j)) j ≤ j ∧ m_fr (fun o k => (o ≠ 2 ∨ k < 36 ∨ 49 ≤ k) ∧ (o ≠ 0 ∨ k ≠ 46) ∧ o ≠ 7) h1 w.2.2) ?_ ?_ 0 (by omega) ⟨rfl, rfl, Nat.le_refl _, m_fr.rf⟩
  · rintro j ⟨a, x2, h2⟩ hj ⟨e1, e2, hS, f2⟩
    dsimp only at e1 e2 hS f2
    subst e1 e2
    have s2 := f2.s s1
    have hB2 : mB h2 bk := fun k hk => (f2.I 2 k (by omega)).trans (hN1.1 k hk)
    have hq := a_dq_lt bk (x + nI j)
    have hl := a_w1_le (bk := bk) (n := n2) (x := x + nI j)
    unfold fX12_wrongs_b35_i
    simp (disch := first | assumption | omega) only [p_some, p_gd, p_br, p_bi, p_nm, p_mp, p_Sl, p_Sr, p_bis, p_gdt, q_IL, q_IR, q_LI, q_LR, q_RI, q_RL, q_KI, q_KL, q_KR, q_NI, q_NL, q_NR, q_nI, q_nL, q_nR, q_okI, q_okL, q_okR, q_Ie, q_In, q_Le, q_Ln, SM_I, SM_L, s_c0, s_cg0, s_cl0, s_cge, s_cle, r_le, r_lt, r_eq, r_md, r_2, r_3, r_lit, r_litL, r_m1, nI_add, nI_1, nI_clamp, nI_leI, nI_ltI, nI_eq, pk_sub, q_ix, nI_l, lN_add, lN_mul, r_m1n, r_m1n', r_m1lt, r_m1nlt, r_m1le, r_m1nle, Nat.not_lt_zero, Nat.reduceEqDiff, Nat.reduceLT, Nat.reduceLeDiff, true_and, and_true, true_implies, false_implies, not_true_eq_false, not_false_eq_true, implies_true, and_self, ne_eq, decide_true, decide_false, Bool.not_true, Bool.not_false, if_true, if_false, reduceIte, mk0, mk1, mk2, mk3, mk4, mk5, mk6, mk7, mk8, mk9, mk10, mk11, mk12, mk13, mk14, mk15, mk16, mk17, mk18, mk19, mk20, mk21, mk22, mn1, mn2, mn3, mn4, mn5, mn6, mn7, mn8, mn9, mn10, mn11, mn12, mn13, mn14, mn15, mn16, mn17, mn18, mn19, mn20, mn21, mn22, mr1, mr6, mr7, mr8, mr9, mr10, mr21, mr22, mr23, mr25, mr26, mr29, mr30, mr32, mr33, mr34, mr43, mr47, mr53, mr54, mr55, mr56, show ¬ m ≤ j by omega]
    refine m_drawsK s2 b hB2 hn2 hn0 (x + nI j) (fun h3 f3 N3 => ?_)
    have s3 := f3.s s2
    have ha3 := (NOK.drawn b hn2 hn0 (x + nI j)).2.1
    have f4 := f2.tr (f3.w (fun o k c => ⟨c.1, c.2.1⟩))
    unfold fX12_wrongs_b60
    generalize hS0 : sumN (fun j => a_w1 bk n2 (x + nI j)) j = S at hS ⊢
    have eS : sumN (fun j => a_w1 bk n2 (x + nI j)) (j + 1) = S + a_w1 bk n2 (x + nI j) := by rw [sumN, hS0]
    simp (disch := first | assumption | omega) only [p_some, p_gd, p_br, p_bi, p_nm, p_mp, p_Sl, p_Sr, p_bis, p_gdt, q_IL, q_IR, q_LI, q_LR, q_RI, q_RL, q_KI, q_KL, q_KR, q_NI, q_NL, q_NR, q_nI, q_nL, q_nR, q_okI, q_okL, q_okR, q_Ie, q_In, q_Le, q_Ln, SM_I, SM_L, s_c0, s_cg0, s_cl0, s_cge, s_cle, r_le, r_lt, r_eq, r_md, r_2, r_3, r_lit, r_litL, r_m1, nI_add, nI_1, nI_clamp, nI_leI, nI_ltI, nI_eq, pk_sub, q_ix, nI_l, lN_add, lN_mul, r_m1n, r_m1n', r_m1lt, r_m1nlt, r_m1le, r_m1nle, Nat.not_lt_zero, Nat.reduceEqDiff, Nat.reduceLT, Nat.reduceLeDiff, true_and, and_true, true_implies, false_implies, not_true_eq_false, not_false_eq_true, implies_true, and_self, ne_eq, decide_true, decide_false, Bool.not_true, Bool.not_false, if_true, if_false, reduceIte, mk0, mk1, mk2, mk3, mk4, mk5, mk6, mk7, mk8, mk9, mk10, mk11, mk12, mk13, mk14, mk15, mk16, mk17, mk18, mk19, mk20, mk21, mk22, mn1, mn2, mn3, mn4, mn5, mn6, mn7, mn8, mn9, mn10, mn11, mn12, mn13, mn14, mn15, mn16, mn17, mn18, mn19, mn20, mn21, mn22, mr1, mr6, mr7, mr8, mr9, mr10, mr21, mr22, mr23, mr25, mr26, mr29, mr30, mr32, mr33, mr34, mr43, mr47, mr53, mr54, mr55, mr56]
    refine ⟨fun c => ?_, fun c => ?_⟩
    · refine m_isUp s3 b N3 hn2 ha3 (fun h5 f5 u => ?_) (fun h5 f5 u => ?_)
      · have e := a_w1_t u
        rw [if_pos c] at e
        unfold fX12_wrongs_b72
        simp (disch := first | assumption | omega) only [p_some, p_gd, p_br, p_bi, p_nm, p_mp, p_Sl, p_Sr, p_bis, p_gdt, q_IL, q_IR, q_LI, q_LR, q_RI, q_RL, q_KI, q_KL, q_KR, q_NI, q_NL, q_NR, q_nI, q_nL, q_nR, q_okI, q_okL, q_okR, q_Ie, q_In, q_Le, q_Ln, SM_I, SM_L, s_c0, s_cg0, s_cl0, s_cge, s_cle, r_le, r_lt, r_eq, r_md, r_2, r_3, r_lit, r_litL, r_m1, nI_add, nI_1, nI_clamp, nI_leI, nI_ltI, nI_eq, pk_sub, q_ix, nI_l, lN_add, lN_mul, r_m1n, r_m1n', r_m1lt, r_m1nlt, r_m1le, r_m1nle, Nat.not_lt_zero, Nat.reduceEqDiff, Nat.reduceLT, Nat.reduceLeDiff, true_and, and_true, true_implies, false_implies, not_true_eq_false, not_false_eq_true, implies_true, and_self, ne_eq, decide_true, decide_false, Bool.not_true, Bool.not_false, if_true, if_false, reduceIte, mk0, mk1, mk2, mk3, mk4, mk5, mk6, mk7, mk8, mk9, mk10, mk11, mk12, mk13, mk14, mk15, mk16, mk17, mk18, mk19, mk20, mk21, mk22, mn1, mn2, mn3, mn4, mn5, mn6, mn7, mn8, mn9, mn10, mn11, mn12, mn13, mn14, mn15, mn16, mn17, mn18, mn19, mn20, mn21, mn22, mr1, mr6, mr7, mr8, mr9, mr10, mr21, mr22, mr23, mr25, mr26, mr29, mr30, mr32, mr33, mr34, mr43, mr47, mr53, mr54, mr55, mr56]
        rw [eS, e]
        exact ⟨rfl, by omega, f4.tr (f5.w (fun o k c => c.2.2))⟩
      · have e := a_w1_f u
        rw [if_pos c] at e
        unfold fX12_wrongs_b72
        simp (disch := first | assumption | omega) only [p_some, p_gd, p_br, p_bi, p_nm, p_mp, p_Sl, p_Sr, p_bis, p_gdt, q_IL, q_IR, q_LI, q_LR, q_RI, q_RL, q_KI, q_KL, q_KR, q_NI, q_NL, q_NR, q_nI, q_nL, q_nR, q_okI, q_okL, q_okR, q_Ie, q_In, q_Le, q_Ln, SM_I, SM_L, s_c0, s_cg0, s_cl0, s_cge, s_cle, r_le, r_lt, r_eq, r_md, r_2, r_3, r_lit, r_litL, r_m1, nI_add, nI_1, nI_clamp, nI_leI, nI_ltI, nI_eq, pk_sub, q_ix, nI_l, lN_add, lN_mul, r_m1n, r_m1n', r_m1lt, r_m1nlt, r_m1le, r_m1nle, Nat.not_lt_zero, Nat.reduceEqDiff, Nat.reduceLT, Nat.reduceLeDiff, true_and, and_true, true_implies, false_implies, not_true_eq_false, not_false_eq_true, implies_true, and_self, ne_eq, decide_true, decide_false, Bool.not_true, Bool.not_false, if_true, if_false, reduceIte, mk0, mk1, mk2, mk3, mk4, mk5, mk6, mk7, mk8, mk9, mk10, mk11, mk12, mk13, mk14, mk15, mk16, mk17, mk18, mk19, mk20, mk21, mk22, mn1, mn2, mn3, mn4, mn5, mn6, mn7, mn8, mn9, mn10, mn11, mn12, mn13, mn14, mn15, mn16, mn17, mn18, mn19, mn20, mn21, mn22, mr1, mr6, mr7, mr8, mr9, mr10, mr21, mr22, mr23, mr25, mr26, mr29, mr30, mr32, mr33, mr34, mr43, mr47, mr53, mr54, mr55, mr56]
        rw [eS, e]
        exact ⟨rfl, by omega, f4.tr (f5.w (fun o k c => c.2.2))⟩
    · refine m_isUp s3 b N3 hn2 ha3 (fun h5 f5 u => ?_) (fun h5 f5 u => ?_)
      · have e := a_w1_t u
        rw [if_neg c] at e
        unfold fX12_wrongs_b72
        simp (disch := first | assumption | omega) only [p_some, p_gd, p_br, p_bi, p_nm, p_mp, p_Sl, p_Sr, p_bis, p_gdt, q_IL, q_IR, q_LI, q_LR, q_RI, q_RL, q_KI, q_KL, q_KR, q_NI, q_NL, q_NR, q_nI, q_nL, q_nR, q_okI, q_okL, q_okR, q_Ie, q_In, q_Le, q_Ln, SM_I, SM_L, s_c0, s_cg0, s_cl0, s_cge, s_cle, r_le, r_lt, r_eq, r_md, r_2, r_3, r_lit, r_litL, r_m1, nI_add, nI_1, nI_clamp, nI_leI, nI_ltI, nI_eq, pk_sub, q_ix, nI_l, lN_add, lN_mul, r_m1n, r_m1n', r_m1lt, r_m1nlt, r_m1le, r_m1nle, Nat.not_lt_zero, Nat.reduceEqDiff, Nat.reduceLT, Nat.reduceLeDiff, true_and, and_true, true_implies, false_implies, not_true_eq_false, not_false_eq_true, implies_true, and_self, ne_eq, decide_true, decide_false, Bool.not_true, Bool.not_false, if_true, if_false, reduceIte, mk0, mk1, mk2, mk3, mk4, mk5, mk6, mk7, mk8, mk9, mk10, mk11, mk12, mk13, mk14, mk15, mk16, mk17, mk18, mk19, mk20, mk21, mk22, mn1, mn2, mn3, mn4, mn5, mn6, mn7, mn8, mn9, mn10, mn11, mn12, mn13, mn14, mn15, mn16, mn17, mn18, mn19, mn20, mn21, mn22, mr1, mr6, mr7, mr8, mr9, mr10, mr21, mr22, mr23, mr25, mr26, mr29, mr30, mr32, mr33, mr34, mr43, mr47, mr53, mr54, mr55, mr56]
        rw [eS, e]
        exact ⟨rfl, by omega, f4.tr (f5.w (fun o k c => c.2.2))⟩
      · have e := a_w1_f u
        rw [if_neg c] at e
        unfold fX12_wrongs_b72
        simp (disch := first | assumption | omega) only [p_some, p_gd, p_br, p_bi, p_nm, p_mp, p_Sl, p_Sr, p_bis, p_gdt, q_IL, q_IR, q_LI, q_LR, q_RI, q_RL, q_KI, q_KL, q_KR, q_NI, q_NL, q_NR, q_nI, q_nL, q_nR, q_okI, q_okL, q_okR, q_Ie, q_In, q_Le, q_Ln, SM_I, SM_L, s_c0, s_cg0, s_cl0, s_cge, s_cle, r_le, r_lt, r_eq, r_md, r_2, r_3, r_lit, r_litL, r_m1, nI_add, nI_1, nI_clamp, nI_leI, nI_ltI, nI_eq, pk_sub, q_ix, nI_l, lN_add, lN_mul, r_m1n, r_m1n', r_m1lt, r_m1nlt, r_m1le, r_m1nle, Nat.not_lt_zero, Nat.reduceEqDiff, Nat.reduceLT, Nat.reduceLeDiff, true_and, and_true, true_implies, false_implies, not_true_eq_false, not_false_eq_true, implies_true, and_self, ne_eq, decide_true, decide_false, Bool.not_true, Bool.not_false, if_true, if_false, reduceIte, mk0, mk1, mk2, mk3, mk4, mk5, mk6, mk7, mk8, mk9, mk10, mk11, mk12, mk13, mk14, mk15, mk16, mk17, mk18, mk19, mk20, mk21, mk22, mn1, mn2, mn3, mn4, mn5, mn6, mn7, mn8, mn9, mn10, mn11, mn12, mn13, mn14, mn15, mn16, mn17, mn18, mn19, mn20, mn21, mn22, mr1, mr6, mr7, mr8, mr9, mr10, mr21, mr22, mr23, mr25, mr26, mr29, mr30, mr32, mr33, mr34, mr43, mr47, mr53, mr54, mr55, mr56]
        rw [eS, e]
        exact ⟨rfl, by omega, f4.tr (f5.w (fun o k c => c.2.2))⟩
  · rintro ⟨a, x2, h2⟩ ⟨e1, e2, hS, f2⟩
    dsimp only at e1 e2 hS f2
    subst e1 e2
    have s2 := f2.s s1
    unfold fX12_wrongs_b35_i
    simp (disch := first | assumption | omega) only [p_some, p_gd, p_br, p_bi, p_nm, p_mp, p_Sl, p_Sr, p_bis, p_gdt, q_IL, q_IR, q_LI, q_LR, q_RI, q_RL, q_KI, q_KL, q_KR, q_NI, q_NL, q_NR, q_nI, q_nL, q_nR, q_okI, q_okL, q_okR, q_Ie, q_In, q_Le, q_Ln, SM_I, SM_L, s_c0, s_cg0, s_cl0, s_cge, s_cle, r_le, r_lt, r_eq, r_md, r_2, r_3, r_lit, r_litL, r_m1, nI_add, nI_1, nI_clamp, nI_leI, nI_ltI, nI_eq, pk_sub, q_ix, nI_l, lN_add, lN_mul, r_m1n, r_m1n', r_m1lt, r_m1nlt, r_m1le, r_m1nle, Nat.not_lt_zero, Nat.reduceEqDiff, Nat.reduceLT, Nat.reduceLeDiff, true_and, and_true, true_implies, false_implies, not_true_eq_false, not_false_eq_true, implies_true, and_self, ne_eq, decide_true, decide_false, Bool.not_true, Bool.not_false, if_true, if_false, reduceIte, mk0, mk1, mk2, mk3, mk4, mk5, mk6, mk7, mk8, mk9, mk10, mk11, mk12, mk13, mk14, mk15, mk16, mk17, mk18, mk19, mk20, mk21, mk22, mn1, mn2, mn3, mn4, mn5, mn6, mn7, mn8, mn9, mn10, mn11, mn12, mn13, mn14, mn15, mn16, mn17, mn18, mn19, mn20, mn21, mn22, mr1, mr6, mr7, mr8, mr9, mr10, mr21, mr22, mr23, mr25, mr26, mr29, mr30, mr32, mr33, mr34, mr43, mr47, mr53, mr54, mr55, mr56, Nat.le_refl]
    refine p_mono (m_back s2) (fun h3 ⟨f3, g3⟩ => ?_)
    have g : ∀ i, i < 13 → z_I h3 2 (36 + i) = z_I h 2 (36 + i) := fun i hi => by
      rw [g3 i hi, f2.I 9 i (by omega), g1 i hi]
      rfl
    refine k h3 (ft.tr ((f1.w (fun o k c => ?_)).tr ((f2.w (fun o k c => ?_)).tr (f3.w (fun o k c => ?_))))) ⟨fun i hi => ?_, (g 0 (by omega)).trans hN.2.1, fun i hi => ?_⟩
    · have := c.1; unfold mKp at this; omega
    · have := c.1; unfold mKp at this; omega
    · omega
    · rw [f3.I 2 i (by omega), f2.I 2 i (by omega)]
      exact hN1.1 i hi
    · have := g (i + 1) (by omega)
      rw [show 36 + (i + 1) = 37 + i by omega] at this
      exact this.trans (hN.2.2 i hi)
