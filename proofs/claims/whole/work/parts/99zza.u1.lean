/-! the reference hangs a node -/
theorem MT.lt {nf : Nat → Int32} {nd pos : Nat → Nat} {m p : Nat} (M : MT nf nd pos m) (hp1 : 1 ≤ p) (hp : p < 32) (h0 : nd p = 0) : m ≤ 30 := by
  have h := M.2.2.1 (fun _ => 1)
  have z := M.z0
  have e1 : sumN (fun _ => 1) m = m := by
    have : ∀ k, sumN (fun _ => 1) k = k := fun k => by
      induction k with
      | zero => rfl
      | succ k ih => rw [sumN, ih]
    exact this m
  rw [e1] at h
  have u := sumN_ud (F := fun q => if nd q = 0 then 0 else 1) (p := p) (v := 1) (by rw [if_pos h0]) 32
  rw [if_pos hp, ← h, sumN_head] at u
  have g0 : a_ud (fun q => if nd q = 0 then 0 else 1) p 1 0 = 0 := by rw [a_ud_n (by omega), if_pos z]
  have b : sumN (fun i => a_ud (fun q => if nd q = 0 then 0 else 1) p 1 (i + 1)) 31 ≤ 31 * 1 := sumN_le (fun i hi => by
    unfold a_ud
    split
    · omega
    · show (if nd (i + 1) = 0 then 0 else 1) ≤ 1
      split <;> omega)
  omega
theorem m_hangs {h : z_T} {nd pos : Nat → Nat} {m p c r o : Nat} {v : Int32} {Q : z_T → Prop} (s : SM h) (M : MT (z_I h 14) nd pos m) (h35 : z_I h 0 35 = nI m) (h36 : z_I h 0 36 = nI o) (hp : 1 ≤ p) (hp2 : p < 32) (h0 : nd p = 0) (hc : c ≠ 0) (hv : v = a_nv c)
    (hr : (o = 0 ∧ p = 1 ∧ m = 0) ∨ (0 < o ∧ o ≤ 4 ∧ 2 ≤ p ∧ r < m ∧ pos r = p / 2 ∧ z_I h 15 (o - 1) = nI r ∧ z_I h 16 (o - 1) = nI (p % 2)))
    (k : ∀ h', m_fr (fun a k => a ≠ 14 ∧ (a ≠ 0 ∨ k ≠ 35)) h h' → z_I h' 0 35 = nI (m + 1) → MT (z_I h' 14) (a_ud nd p c) (a_ud pos m p) (m + 1) → Q h') : p_W (fX12_hangs 0 v h) Q := by
  have m30 := M.lt hp hp2 h0
  have f3 : m_fr (fun a k => a ≠ 14 ∧ (a ≠ 0 ∨ k ≠ 35)) h (z_sI (z_sI (z_sI h 14 (4 * m) v) 14 (4 * m + 1) m1) 14 (4 * m + 2) m1) := ((m_fr.rf.sI (by omega)).sI (by omega)).sI (by omega)
  have j35 : z_I (z_sI (z_sI (z_sI h 14 (4 * m) v) 14 (4 * m + 1) m1) 14 (4 * m + 2) m1) 0 35 = nI m := by rw [q_In (by omega), q_In (by omega), q_In (by omega)]; exact h35
  have e0 : z_I (z_sI (z_sI (z_sI h 14 (4 * m) v) 14 (4 * m + 1) m1) 14 (4 * m + 2) m1) 14 (4 * m) = v := by rw [q_In (by omega), q_In (by omega), q_Ie rfl rfl]
  have es : ∀ k, k < 4 * m → z_I (z_sI (z_sI (z_sI h 14 (4 * m) v) 14 (4 * m + 1) m1) 14 (4 * m + 2) m1) 14 k = z_I h 14 k := fun k hk => by rw [q_In (by omega), q_In (by omega), q_In (by omega)]
  have hp2' : p % 2 < 2 := Nat.mod_lt _ (by decide)
  have j36 := (f3.I 0 36 (by omega)).trans h36
  have s3 := f3.s s
  rw [hv] at e0
  unfold fX12_hangs
  rcases hr with ⟨q1, q2, q3⟩ | ⟨q1, q2, q3, q4, q5, q6, q7⟩
  · subst q1 q2 q3
    simp (disch := first | assumption | omega) only [p_some, p_gd, p_br, p_bi, p_nm, p_mp, p_Sl, p_Sr, p_bis, p_gdt, q_IL, q_IR, q_LI, q_LR, q_RI, q_RL, q_KI, q_KL, q_KR, q_NI, q_NL, q_NR, q_nI, q_nL, q_nR, q_okI, q_okL, q_okR, q_Ie, q_In, q_Le, q_Ln, SM_I, SM_L, s_c0, s_cg0, s_cl0, s_cge, s_cle, r_le, r_lt, r_eq, r_md, r_2, r_3, r_lit, r_litL, r_m1, nI_add, nI_1, nI_clamp, nI_leI, nI_ltI, nI_eq, pk_sub, q_ix, nI_l, lN_add, lN_mul, r_m1n, r_m1n', r_m1lt, r_m1nlt, r_m1le, r_m1nle, Nat.not_lt_zero, Nat.reduceEqDiff, Nat.reduceLT, Nat.reduceLeDiff, true_and, and_true, true_implies, false_implies, not_true_eq_false, not_false_eq_true, implies_true, and_self, ne_eq, decide_true, decide_false, Bool.not_true, Bool.not_false, if_true, if_false, reduceIte, mk0, mk1, mk2, mk3, mk4, mk5, mk6, mk7, mk8, mk9, mk10, mk11, mk12, mk13, mk14, mk15, mk16, mk17, mk18, mk19, mk20, mk21, mk22, mn1, mn2, mn3, mn4, mn5, mn6, mn7, mn8, mn9, mn10, mn11, mn12, mn13, mn14, mn15, mn16, mn17, mn18, mn19, mn20, mn21, mn22, mr1, mr6, mr7, mr8, mr9, mr10, mr21, mr22, mr23, mr25, mr26, mr29, mr30, mr32, mr33, mr34, mr43, mr47, mr53, mr54, mr55, mr56, h35, h36, pk_mul, Nat.le_refl]
    rw [hv]
    rw [hv] at j35 j36 f3 es s3
    generalize z_sI (z_sI (z_sI h 14 (4 * 0) (a_nv c)) 14 (4 * 0 + 1) m1) 14 (4 * 0 + 2) m1 = h3 at *
    unfold fX12_hangs_b61 fX12_hangs_b105
    simp (disch := first | assumption | omega) only [p_some, p_gd, p_br, p_bi, p_nm, p_mp, p_Sl, p_Sr, p_bis, p_gdt, q_IL, q_IR, q_LI, q_LR, q_RI, q_RL, q_KI, q_KL, q_KR, q_NI, q_NL, q_NR, q_nI, q_nL, q_nR, q_okI, q_okL, q_okR, q_Ie, q_In, q_Le, q_Ln, SM_I, SM_L, s_c0, s_cg0, s_cl0, s_cge, s_cle, r_le, r_lt, r_eq, r_md, r_2, r_3, r_lit, r_litL, r_m1, nI_add, nI_1, nI_clamp, nI_leI, nI_ltI, nI_eq, pk_sub, q_ix, nI_l, lN_add, lN_mul, r_m1n, r_m1n', r_m1lt, r_m1nlt, r_m1le, r_m1nle, Nat.not_lt_zero, Nat.reduceEqDiff, Nat.reduceLT, Nat.reduceLeDiff, true_and, and_true, true_implies, false_implies, not_true_eq_false, not_false_eq_true, implies_true, and_self, ne_eq, decide_true, decide_false, Bool.not_true, Bool.not_false, if_true, if_false, reduceIte, mk0, mk1, mk2, mk3, mk4, mk5, mk6, mk7, mk8, mk9, mk10, mk11, mk12, mk13, mk14, mk15, mk16, mk17, mk18, mk19, mk20, mk21, mk22, mn1, mn2, mn3, mn4, mn5, mn6, mn7, mn8, mn9, mn10, mn11, mn12, mn13, mn14, mn15, mn16, mn17, mn18, mn19, mn20, mn21, mn22, mr1, mr6, mr7, mr8, mr9, mr10, mr21, mr22, mr23, mr25, mr26, mr29, mr30, mr32, mr33, mr34, mr43, mr47, mr53, mr54, mr55, mr56, j36, j35, Nat.le_refl]
    refine k _ ((f3.sI (by omega)).sI (by omega)) (q_Ie rfl rfl) (M.hang (r := 0) (by omega) (by omega) h0 hc (Or.inl ⟨rfl, rfl, (q_In (by omega)).trans (q_Ie rfl rfl)⟩) ((q_In (by omega)).trans ((q_In (by omega)).trans e0)) (fun k hk => by omega))
  · have j15 := (f3.I 15 (o - 1) (by omega)).trans q6
    have j16 := (f3.I 16 (o - 1) (by omega)).trans q7
    generalize hb : p % 2 = b at *
    simp (disch := first | assumption | omega) only [p_some, p_gd, p_br, p_bi, p_nm, p_mp, p_Sl, p_Sr, p_bis, p_gdt, q_IL, q_IR, q_LI, q_LR, q_RI, q_RL, q_KI, q_KL, q_KR, q_NI, q_NL, q_NR, q_nI, q_nL, q_nR, q_okI, q_okL, q_okR, q_Ie, q_In, q_Le, q_Ln, SM_I, SM_L, s_c0, s_cg0, s_cl0, s_cge, s_cle, r_le, r_lt, r_eq, r_md, r_2, r_3, r_lit, r_litL, r_m1, nI_add, nI_1, nI_clamp, nI_leI, nI_ltI, nI_eq, pk_sub, q_ix, nI_l, lN_add, lN_mul, r_m1n, r_m1n', r_m1lt, r_m1nlt, r_m1le, r_m1nle, Nat.not_lt_zero, Nat.reduceEqDiff, Nat.reduceLT, Nat.reduceLeDiff, true_and, and_true, true_implies, false_implies, not_true_eq_false, not_false_eq_true, implies_true, and_self, ne_eq, decide_true, decide_false, Bool.not_true, Bool.not_false, if_true, if_false, reduceIte, mk0, mk1, mk2, mk3, mk4, mk5, mk6, mk7, mk8, mk9, mk10, mk11, mk12, mk13, mk14, mk15, mk16, mk17, mk18, mk19, mk20, mk21, mk22, mn1, mn2, mn3, mn4, mn5, mn6, mn7, mn8, mn9, mn10, mn11, mn12, mn13, mn14, mn15, mn16, mn17, mn18, mn19, mn20, mn21, mn22, mr1, mr6, mr7, mr8, mr9, mr10, mr21, mr22, mr23, mr25, mr26, mr29, mr30, mr32, mr33, mr34, mr43, mr47, mr53, mr54, mr55, mr56, h35, h36, pk_mul, q6, show ¬ o ≤ 0 by omega]
    rw [hv]
    rw [hv] at j35 j36 f3 es s3 j15 j16
    generalize z_sI (z_sI (z_sI h 14 (4 * m) (a_nv c)) 14 (4 * m + 1) m1) 14 (4 * m + 2) m1 = h3 at *
    unfold fX12_hangs_b61 fX12_hangs_b105
    simp (disch := first | assumption | omega) only [p_some, p_gd, p_br, p_bi, p_nm, p_mp, p_Sl, p_Sr, p_bis, p_gdt, q_IL, q_IR, q_LI, q_LR, q_RI, q_RL, q_KI, q_KL, q_KR, q_NI, q_NL, q_NR, q_nI, q_nL, q_nR, q_okI, q_okL, q_okR, q_Ie, q_In, q_Le, q_Ln, SM_I, SM_L, s_c0, s_cg0, s_cl0, s_cge, s_cle, r_le, r_lt, r_eq, r_md, r_2, r_3, r_lit, r_litL, r_m1, nI_add, nI_1, nI_clamp, nI_leI, nI_ltI, nI_eq, pk_sub, q_ix, nI_l, lN_add, lN_mul, r_m1n, r_m1n', r_m1lt, r_m1nlt, r_m1le, r_m1nle, Nat.not_lt_zero, Nat.reduceEqDiff, Nat.reduceLT, Nat.reduceLeDiff, true_and, and_true, true_implies, false_implies, not_true_eq_false, not_false_eq_true, implies_true, and_self, ne_eq, decide_true, decide_false, Bool.not_true, Bool.not_false, if_true, if_false, reduceIte, mk0, mk1, mk2, mk3, mk4, mk5, mk6, mk7, mk8, mk9, mk10, mk11, mk12, mk13, mk14, mk15, mk16, mk17, mk18, mk19, mk20, mk21, mk22, mn1, mn2, mn3, mn4, mn5, mn6, mn7, mn8, mn9, mn10, mn11, mn12, mn13, mn14, mn15, mn16, mn17, mn18, mn19, mn20, mn21, mn22, mr1, mr6, mr7, mr8, mr9, mr10, mr21, mr22, mr23, mr25, mr26, mr29, mr30, mr32, mr33, mr34, mr43, mr47, mr53, mr54, mr55, mr56, j36, j35, j15, j16, pk_mul, show ¬ o ≤ 0 by omega]
    have f4 : m_fr (fun a k => a ≠ 14) h3 (z_sI h3 14 (4 * m + 3) (nI r)) := m_fr.rf.sI (by omega)
    refine k _ (((f3.sI (by omega)).sI (by omega)).sI (by omega)) (q_Ie rfl rfl) (M.hang (r := r) hp hp2 h0 hc (Or.inr ⟨q3, q4, q5, ?_, ?_⟩) ?_ (fun k hk hk2 => ?_))
    · rw [q_In (by omega), q_In (by omega), q_Ie rfl rfl]
    · rw [q_In (by omega), q_Ie rfl (by omega)]
    · rw [q_In (by omega), q_In (by omega), q_In (by omega)]
      exact e0
    · have := hk2 q4
      rw [q_In (by omega), q_In (by omega), q_In (by omega)]
      exact es k hk
