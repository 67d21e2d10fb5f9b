/-! leads, both sides -/
def a_lp (nd ans : Nat → Nat) : Nat → Nat
  | 0 => 1
  | i + 1 => if a_lp nd ans i ≠ 0 ∧ nd (a_lp nd ans i) = 3 + ans i / 2 then 2 * a_lp nd ans i + (1 - ans i % 2) else 0
def a_leads (nd ans : Nat → Nat) (n : Nat) : Int32 := if a_lp nd ans n = 0 then -2 else if nd (a_lp nd ans n) = 1 then nI 1 else if nd (a_lp nd ans n) = 2 then nI 0 else nI (10 + (nd (a_lp nd ans n) - 3))
theorem a_lp_0 {nd ans : Nat → Nat} {i : Nat} (h : a_lp nd ans i = 0) : ∀ k, a_lp nd ans (i + k) = 0
  | 0 => h
  | k + 1 => by
    have ih := a_lp_0 h k
    show (if a_lp nd ans (i + k) ≠ 0 ∧ _ then _ else 0) = 0
    rw [if_neg (fun q => q.1 ih)]
theorem a_lp_ok {nd ans : Nat → Nat} {n0 : Nat} (T : TOK n0 nd) : ∀ i, a_lp nd ans i ≠ 0 → nd (a_lp nd ans i) ≠ 0 ∧ a_lp nd ans i < 32
  | 0, _ => ⟨T.2.1, by show 1 < 32; omega⟩
  | i + 1, h => by
    have e : a_lp nd ans (i + 1) = if a_lp nd ans i ≠ 0 ∧ nd (a_lp nd ans i) = 3 + ans i / 2 then 2 * a_lp nd ans i + (1 - ans i % 2) else 0 := rfl
    rw [e] at h ⊢
    by_cases c : a_lp nd ans i ≠ 0 ∧ nd (a_lp nd ans i) = 3 + ans i / 2
    · rw [if_pos c]
      obtain ⟨-, g2, g3, g4⟩ := T.2.2.2 (a_lp nd ans i) (by omega)
      have m2 : ans i % 2 = 0 ∨ ans i % 2 = 1 := by omega
      rcases m2 with q | q
      · rw [q]; exact ⟨g4, by omega⟩
      · rw [q]; exact ⟨g3, by omega⟩
    · rw [if_neg c] at h
      exact absurd rfl h
theorem a_leads_0 {nd ans : Nat → Nat} {n i : Nat} (hi : i < n) (h : ¬ (a_lp nd ans i ≠ 0 ∧ nd (a_lp nd ans i) = 3 + ans i / 2)) : a_leads nd ans n = -2 := by
  have e : a_lp nd ans (i + 1) = 0 := if_neg h
  have z := a_lp_0 e (n - (i + 1))
  rw [show i + 1 + (n - (i + 1)) = n by omega] at z
  unfold a_leads
  rw [if_pos z]
def mTr (h : z_T) (nd pos : Nat → Nat) (m : Nat) : Prop := z_I h 2 49 = nI m ∧ 0 < m ∧ m ≤ 31 ∧ MT (fun k => z_I h 2 (52 + k)) nd pos m ∧ ∀ q, nd q ≤ 10
theorem a_nv_m1 : ∀ c, c ≤ 10 → (a_nv c = -1 ↔ c = 1) := by decide +kernel
theorem a_nv_m2 : ∀ c, c ≤ 10 → (a_nv c = -2 ↔ c = 2) := by decide +kernel
theorem a_nv_lt : ∀ c, c ≤ 10 → (a_nv c < 0 ↔ c = 1 ∨ c = 2) := by decide +kernel
theorem a_nv_3 {c : Nat} (h : 3 ≤ c) : a_nv c = nI (c - 3) := by
  unfold a_nv
  rw [if_neg (by omega), if_neg (by omega), if_neg (by omega)]
theorem a_nv_e : ∀ c, c ≤ 10 → c ≠ 0 → ¬ c = 1 → ¬ c = 2 → nI 10 + a_nv c = nI (10 + (c - 3)) := by decide +kernel
theorem m_leads {h : z_T} {bk ans nd pos : Nat → Nat} {n m : Nat} {Q : Int32 × z_T → Prop} (s : SM h) (b : BOK bk) (hN : mNi h bk n ans) (hn : n ≤ 12) (ha : ∀ i, i < n → ans i < 2 * bk 0) (T : TOK (bk 0) nd) (M : mTr h nd pos m) (k : ∀ h', m_fr mKp h h' → Q (a_leads nd ans n, h')) : p_W (fX12_leads 0 h) Q := by
  have h8 := b.1
  obtain ⟨M0, Mp, M31, MM, Mb⟩ := M
  have hM := MM
  obtain ⟨M1, M2, M3, M4, M5, M6, M7⟩ := MM
  have N0 := hN.t0 (v := nI 0)
  have kk := k _ (m_fr.t0 (h := h) (v := nI 0))
  clear k
  have M0' : z_I (z_sI h 0 0 (nI 0)) 2 49 = nI m := (q_In (by omega)).trans M0
  have M4' : ∀ i, i < m → z_I (z_sI h 0 0 (nI 0)) 2 (52 + 4 * i) = a_nv (nd (pos i)) := fun i hi => (q_In (by omega)).trans (M4 i hi)
  have M6' : ∀ i j b, i < m → j < m → b < 2 → pos j = 2 * pos i + b → z_I (z_sI h 0 0 (nI 0)) 2 (52 + 4 * i + 1 + b) = nI j := fun i j b hi hj hb e => (q_In (by omega)).trans (by
    have := M6 i j b hi hj hb e
    rw [← this]
    show z_I h 2 _ = z_I h 2 _
    congr 1
    omega)
  have s0 : SM (z_sI h 0 0 (nI 0)) := s
  unfold fX12_leads
  simp (disch := first | assumption | omega) only [p_some, p_gd, p_br, p_bi, p_nm, p_mp, p_Sl, p_Sr, p_bis, p_gdt, Nat.not_lt_zero, Nat.reduceEqDiff, Nat.reduceLT, Nat.reduceLeDiff, true_and, and_true, true_implies, false_implies, not_true_eq_false, not_false_eq_true, implies_true, and_self, ne_eq, decide_true, decide_false, Bool.not_true, Bool.not_false, if_true, if_false, reduceIte, mk0 s, r_lit, mr6 s0, mk2 s0, mn2 s0]
  generalize z_sI h 0 0 (nI 0) = h0 at *
  simp (disch := first | assumption | omega) only [p_some, p_gd, p_br, p_bi, p_nm, p_mp, p_Sl, p_Sr, p_bis, p_gdt, q_IL, q_IR, q_LI, q_LR, q_RI, q_RL, q_KI, q_KL, q_KR, q_NI, q_NL, q_NR, q_nI, q_nL, q_nR, q_okI, q_okL, q_okR, q_Ie, q_In, q_Le, q_Ln, SM_I, SM_L, s_c0, s_cg0, s_cl0, s_cge, s_cle, r_le, r_lt, r_eq, r_md, r_2, r_3, r_lit, r_litL, r_m1, nI_add, nI_1, nI_clamp, nI_leI, nI_ltI, nI_eq, pk_sub, q_ix, nI_l, lN_add, lN_mul, r_m1n, r_m1n', r_m1lt, r_m1nlt, r_m1le, r_m1nle, Nat.not_lt_zero, Nat.reduceEqDiff, Nat.reduceLT, Nat.reduceLeDiff, true_and, and_true, true_implies, false_implies, not_true_eq_false, not_false_eq_true, implies_true, and_self, ne_eq, decide_true, decide_false, Bool.not_true, Bool.not_false, if_true, if_false, reduceIte, mk0, mk1, mk2, mk3, mk4, mk5, mk6, mk7, mk8, mk9, mk10, mk11, mk12, mk13, mk14, mk15, mk16, mk17, mk18, mk19, mk20, mk21, mk22, mn1, mn2, mn3, mn4, mn5, mn6, mn7, mn8, mn9, mn10, mn11, mn12, mn13, mn14, mn15, mn16, mn17, mn18, mn19, mn20, mn21, mn22, mr1, mr6, mr7, mr8, mr9, mr10, mr21, mr22, mr23, mr25, mr26, mr29, mr30, mr32, mr33, mr34, mr43, mr47, mr53, mr54, mr55, mr56, M0', show ¬ m = 0 by omega]
  unfold fX12_leads_b21
  refine p_for n (fun i w => ∃ x, w = (nI x, nI i) ∧ x < m ∧ pos x = a_lp nd ans i ∧ a_lp nd ans i ≠ 0) ?_ ?_ 0 (by omega) ⟨0, rfl, Mp, M7 Mp, by show (1 : Nat) ≠ 0; omega⟩
  · rintro i w hi ⟨x, rfl, hx, px, hp0⟩
    have ax := N0.2.2 i hi
    have an := ha i hi
    have v := M4' x hx
    have vk := a_nv_k (nd (pos x)) (Mb _) (ans i / 2) (by omega)
    have nz := (M1 x hx).2.2
    have lz := fun c => a_leads_0 (nd := nd) (ans := ans) (n := n) (i := i) hi c
    have ls : a_lp nd ans (i + 1) = if a_lp nd ans i ≠ 0 ∧ nd (a_lp nd ans i) = 3 + ans i / 2 then 2 * a_lp nd ans i + (1 - ans i % 2) else 0 := rfl
    obtain ⟨p1, p2⟩ := a_lp_ok (ans := ans) T i hp0
    have nx : nd (pos x) = 3 + ans i / 2 → ∀ b, b < 2 → ∃ j, j < m ∧ pos j = 2 * pos x + b ∧ z_I h0 2 (52 + 4 * x + 1 + b) = nI j := fun e b hb => by
      obtain ⟨-, g2, g3, g4⟩ := T.2.2.2 (pos x) (by omega)
      have : nd (2 * pos x + b) ≠ 0 := by
        rcases (show b = 0 ∨ b = 1 by omega) with q | q
        · rw [q]; exact g3
        · rw [q]; exact g4
      obtain ⟨j, hj, e2⟩ := hM.at (by omega) this
      exact ⟨j, hj, e2, M6' x j b hx hj hb e2⟩
    have m2 : ans i % 2 = 0 ∨ ans i % 2 = 1 := by omega
    unfold fX12_leads_b21_i fX12_leads_b90
    simp (disch := first | assumption | omega) only [p_some, p_gd, p_br, p_bi, p_nm, p_mp, p_Sl, p_Sr, p_bis, p_gdt, q_IL, q_IR, q_LI, q_LR, q_RI, q_RL, q_KI, q_KL, q_KR, q_NI, q_NL, q_NR, q_nI, q_nL, q_nR, q_okI, q_okL, q_okR, q_Ie, q_In, q_Le, q_Ln, SM_I, SM_L, s_c0, s_cg0, s_cl0, s_cge, s_cle, r_le, r_lt, r_eq, r_md, r_2, r_3, r_lit, r_litL, r_m1, nI_add, nI_1, nI_clamp, nI_leI, nI_ltI, nI_eq, pk_sub, q_ix, nI_l, lN_add, lN_mul, r_m1n, r_m1n', r_m1lt, r_m1nlt, r_m1le, r_m1nle, Nat.not_lt_zero, Nat.reduceEqDiff, Nat.reduceLT, Nat.reduceLeDiff, true_and, and_true, true_implies, false_implies, not_true_eq_false, not_false_eq_true, implies_true, and_self, ne_eq, decide_true, decide_false, Bool.not_true, Bool.not_false, if_true, if_false, reduceIte, mk0, mk1, mk2, mk3, mk4, mk5, mk6, mk7, mk8, mk9, mk10, mk11, mk12, mk13, mk14, mk15, mk16, mk17, mk18, mk19, mk20, mk21, mk22, mn1, mn2, mn3, mn4, mn5, mn6, mn7, mn8, mn9, mn10, mn11, mn12, mn13, mn14, mn15, mn16, mn17, mn18, mn19, mn20, mn21, mn22, mr1, mr6, mr7, mr8, mr9, mr10, mr21, mr22, mr23, mr25, mr26, mr29, mr30, mr32, mr33, mr34, mr43, mr47, mr53, mr54, mr55, mr56, N0.2.1, show ¬ n ≤ i by omega, pk_mul, v, ax, pk_div]
    rw [← px] at ls lz hp0
    refine ⟨fun q => ?_, fun q => ?_⟩
    · have e3 := vk.mp ⟨q, nz⟩
      rw [if_pos ⟨hp0, e3⟩] at ls
      refine ⟨fun q1 => ?_, fun q1 => ?_⟩
      · obtain ⟨j, hj, e4, e5⟩ := nx e3 0 (by omega)
        rw [Nat.add_zero] at e5
        simp (disch := first | assumption | omega) only [p_some, p_gd, p_br, p_bi, p_nm, p_mp, p_Sl, p_Sr, p_bis, p_gdt, q_IL, q_IR, q_LI, q_LR, q_RI, q_RL, q_KI, q_KL, q_KR, q_NI, q_NL, q_NR, q_nI, q_nL, q_nR, q_okI, q_okL, q_okR, q_Ie, q_In, q_Le, q_Ln, SM_I, SM_L, s_c0, s_cg0, s_cl0, s_cge, s_cle, r_le, r_lt, r_eq, r_md, r_2, r_3, r_lit, r_litL, r_m1, nI_add, nI_1, nI_clamp, nI_leI, nI_ltI, nI_eq, pk_sub, q_ix, nI_l, lN_add, lN_mul, r_m1n, r_m1n', r_m1lt, r_m1nlt, r_m1le, r_m1nle, Nat.not_lt_zero, Nat.reduceEqDiff, Nat.reduceLT, Nat.reduceLeDiff, true_and, and_true, true_implies, false_implies, not_true_eq_false, not_false_eq_true, implies_true, and_self, ne_eq, decide_true, decide_false, Bool.not_true, Bool.not_false, if_true, if_false, reduceIte, mk0, mk1, mk2, mk3, mk4, mk5, mk6, mk7, mk8, mk9, mk10, mk11, mk12, mk13, mk14, mk15, mk16, mk17, mk18, mk19, mk20, mk21, mk22, mn1, mn2, mn3, mn4, mn5, mn6, mn7, mn8, mn9, mn10, mn11, mn12, mn13, mn14, mn15, mn16, mn17, mn18, mn19, mn20, mn21, mn22, mr1, mr6, mr7, mr8, mr9, mr10, mr21, mr22, mr23, mr25, mr26, mr29, mr30, mr32, mr33, mr34, mr43, mr47, mr53, mr54, mr55, mr56, e5]
        exact ⟨j, rfl, hj, by rw [ls, e4]; omega, by rw [ls]; omega⟩
      · obtain ⟨j, hj, e4, e5⟩ := nx e3 1 (by omega)
        rw [Nat.add_assoc] at e5
        simp (disch := first | assumption | omega) only [p_some, p_gd, p_br, p_bi, p_nm, p_mp, p_Sl, p_Sr, p_bis, p_gdt, q_IL, q_IR, q_LI, q_LR, q_RI, q_RL, q_KI, q_KL, q_KR, q_NI, q_NL, q_NR, q_nI, q_nL, q_nR, q_okI, q_okL, q_okR, q_Ie, q_In, q_Le, q_Ln, SM_I, SM_L, s_c0, s_cg0, s_cl0, s_cge, s_cle, r_le, r_lt, r_eq, r_md, r_2, r_3, r_lit, r_litL, r_m1, nI_add, nI_1, nI_clamp, nI_leI, nI_ltI, nI_eq, pk_sub, q_ix, nI_l, lN_add, lN_mul, r_m1n, r_m1n', r_m1lt, r_m1nlt, r_m1le, r_m1nle, Nat.not_lt_zero, Nat.reduceEqDiff, Nat.reduceLT, Nat.reduceLeDiff, true_and, and_true, true_implies, false_implies, not_true_eq_false, not_false_eq_true, implies_true, and_self, ne_eq, decide_true, decide_false, Bool.not_true, Bool.not_false, if_true, if_false, reduceIte, mk0, mk1, mk2, mk3, mk4, mk5, mk6, mk7, mk8, mk9, mk10, mk11, mk12, mk13, mk14, mk15, mk16, mk17, mk18, mk19, mk20, mk21, mk22, mn1, mn2, mn3, mn4, mn5, mn6, mn7, mn8, mn9, mn10, mn11, mn12, mn13, mn14, mn15, mn16, mn17, mn18, mn19, mn20, mn21, mn22, mr1, mr6, mr7, mr8, mr9, mr10, mr21, mr22, mr23, mr25, mr26, mr29, mr30, mr32, mr33, mr34, mr43, mr47, mr53, mr54, mr55, mr56, e5]
        exact ⟨j, rfl, hj, by rw [ls, e4]; omega, by rw [ls]; omega⟩
    · rw [lz (fun z => q (vk.mpr z.2).1)] at kk
      exact kk
  · rintro w ⟨x, rfl, hx, px, hp0⟩
    have v := M4' x hx
    have nz := (M1 x hx).2.2
    have c1 := a_nv_m1 (nd (pos x)) (Mb _)
    have c2 := a_nv_m2 (nd (pos x)) (Mb _)
    have c3 := a_nv_e (nd (pos x)) (Mb _) nz
    unfold a_leads at kk
    rw [if_neg hp0, ← px] at kk
    generalize nd (pos x) = c at *
    unfold fX12_leads_b21_i
    simp (disch := first | assumption | omega) only [p_some, p_gd, p_br, p_bi, p_nm, p_mp, p_Sl, p_Sr, p_bis, p_gdt, q_IL, q_IR, q_LI, q_LR, q_RI, q_RL, q_KI, q_KL, q_KR, q_NI, q_NL, q_NR, q_nI, q_nL, q_nR, q_okI, q_okL, q_okR, q_Ie, q_In, q_Le, q_Ln, SM_I, SM_L, s_c0, s_cg0, s_cl0, s_cge, s_cle, r_le, r_lt, r_eq, r_md, r_2, r_3, r_lit, r_litL, r_m1, nI_add, nI_1, nI_clamp, nI_leI, nI_ltI, nI_eq, pk_sub, q_ix, nI_l, lN_add, lN_mul, r_m1n, r_m1n', r_m1lt, r_m1nlt, r_m1le, r_m1nle, Nat.not_lt_zero, Nat.reduceEqDiff, Nat.reduceLT, Nat.reduceLeDiff, true_and, and_true, true_implies, false_implies, not_true_eq_false, not_false_eq_true, implies_true, and_self, ne_eq, decide_true, decide_false, Bool.not_true, Bool.not_false, if_true, if_false, reduceIte, mk0, mk1, mk2, mk3, mk4, mk5, mk6, mk7, mk8, mk9, mk10, mk11, mk12, mk13, mk14, mk15, mk16, mk17, mk18, mk19, mk20, mk21, mk22, mn1, mn2, mn3, mn4, mn5, mn6, mn7, mn8, mn9, mn10, mn11, mn12, mn13, mn14, mn15, mn16, mn17, mn18, mn19, mn20, mn21, mn22, mr1, mr6, mr7, mr8, mr9, mr10, mr21, mr22, mr23, mr25, mr26, mr29, mr30, mr32, mr33, mr34, mr43, mr47, mr53, mr54, mr55, mr56, N0.2.1, Nat.le_refl, pk_mul, v]
    refine p_br.mpr ⟨fun q => p_some.mpr ?_, fun q => p_br.mpr ⟨fun q2 => p_some.mpr ?_, fun q2 => p_some.mpr ?_⟩⟩
    · rw [if_pos (c1.mp q)] at kk; exact kk
    · rw [if_neg (fun z => q (c1.mpr z)), if_pos (c2.mp q2)] at kk; exact kk
    · rw [if_neg (fun z => q (c1.mpr z)), if_neg (fun z => q2 (c2.mpr z))] at kk
      rw [c3 (fun z => q (c1.mpr z)) (fun z => q2 (c2.mpr z))]
      exact kk
