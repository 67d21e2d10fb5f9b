/-! a book, a night of the class: what is read of them -/
def xBv (h : z_T) (bo : Nat) (bk : Nat → Nat) : Prop := z_I h bo 1 = nI (bk 0) ∧ z_I h bo 2 = nI (bk 1) ∧ (∀ i, i < 6 → z_I h (bo + 1) i = nI (bk (2 + i))) ∧ (∀ t, t < 8 → z_I h (bo + 3) t = nI (bk (8 + t))) ∧ (∀ t, t < 8 → z_I h (bo + 4) t = nI (bk (16 + t))) ∧ (∀ d, d < 6 → z_I h (bo + 6) (d + 1) = nI (bk (24 + d))) ∧ (∀ d, d < 6 → z_I h (bo + 7) (d + 1) = nI (bk (30 + d)))
def xBk (h : z_T) (bo : Nat) (bk : Nat → Nat) : Prop := xBs h bo ∧ xBv h bo bk
theorem xBk.fr {C : Nat → Nat → Prop} {h h' : z_T} {bo : Nat} {bk : Nat → Nat} (f : x_fr C h h') (hb : bo = 1 ∨ 83 ≤ bo) (hc : ∀ j k, j < 8 → C (bo + j) k) (s : xBk h bo bk) : xBk h' bo bk := by
  obtain ⟨s, v1, v2, v3, v4, v5, v6, v7⟩ := s
  have g : ∀ j k, j < 8 → z_ok h (bo + j) (z_K h (bo + j)) = true → z_I h' (bo + j) k = z_I h (bo + j) k := fun j k hj hk => f.I _ _ (z_ok_lt hk) (hc j k hj)
  have gk : ∀ {o kd}, z_ok h o kd = true → z_ok h o (z_K h o) = true := fun e => by rw [z_ok_K e]; exact e
  refine ⟨s.fr f hb, ?_, ?_, fun i hi => ?_, fun i hi => ?_, fun i hi => ?_, fun i hi => ?_, fun i hi => ?_⟩
  · exact (g 0 1 (by decide) (gk (xb_0 s))).trans v1
  · exact (g 0 2 (by decide) (gk (xb_0 s))).trans v2
  · exact (g 1 i (by decide) (gk (xb_1 s))).trans (v3 i hi)
  · exact (g 3 i (by decide) (gk (xb_7 s))).trans (v4 i hi)
  · exact (g 4 i (by decide) (gk (xb_10 s))).trans (v5 i hi)
  · exact (g 6 (i + 1) (by decide) (gk (xb_16 s))).trans (v6 i hi)
  · exact (g 7 (i + 1) (by decide) (gk (xb_19 s))).trans (v7 i hi)
theorem bI_m (n : Nat) (x : Int32) (hn : n < 2 ^ 31) {Q : Int32 → Prop} (k : Q (bI (z_ix x n = true))) : (x < nI 0 → Q (nI 0)) ∧ (¬ x < nI 0 → (nI n ≤ x → Q (nI 0)) ∧ (¬ nI n ≤ x → Q (nI 1))) := by
  refine ⟨fun c => ?_, fun c => ⟨fun c2 => ?_, fun c2 => ?_⟩⟩
  · rw [bI_f (fun q => by obtain ⟨t, ht, rfl⟩ := (z_ix_e hn).mp q; exact absurd c (nI_pos (by omega)))] at k
    exact k
  · rw [bI_f (fun q => by obtain ⟨t, ht, rfl⟩ := (z_ix_e hn).mp q; rw [nI_leI (by omega) (by omega)] at c2; omega)] at k
    exact k
  · rw [bI_t ((z_ix_e hn).mpr (by
      obtain ⟨j, hj, rfl⟩ := nI_of (x := x) c
      rw [nI_leI (by omega) (by omega)] at c2
      exact ⟨j, by omega, rfl⟩))] at k
    exact k
theorem x_hasTest {h : z_T} {bo : Nat} {bk : Nat → Nat} (b : BOK bk) (B : xBk h bo bk) (x : Int32) : fX0_hasTest bo x h = some (bI (z_ix x (bk 0) = true)) := by
  obtain ⟨s, v⟩ := B
  have := b.1
  refine p_of ?_
  generalize hQ : (fun w => w = bI (z_ix x (bk 0) = true)) = Q
  unfold fX0_hasTest fX0_hasTest_b16
  simp (disch := first | assumption | omega) only [p_some, p_gd, p_br, p_bi, p_nm, p_mp, p_Sl, p_Sr, p_bis, p_gdt, q_IL, q_IR, q_LI, q_LR, q_RI, q_RL, q_KI, q_KL, q_KR, q_NI, q_NL, q_NR, q_nI, q_nL, q_nR, q_okI, q_okL, q_okR, q_Ie, q_In, q_Le, q_Ln, SM_I, SM_L, s_c0, s_cg0, s_cl0, s_cge, s_cle, r_le, r_lt, r_eq, r_md, r_2, r_3, r_lit, r_litL, r_m1, nI_add, nI_1, nI_clamp, nI_leI, nI_ltI, nI_eq, pk_sub, q_ix, nI_l, lN_add, lN_mul, r_m1n, r_m1n', r_m1lt, r_m1nlt, r_m1le, r_m1nle, Nat.not_lt_zero, Nat.reduceEqDiff, Nat.reduceLT, Nat.reduceLeDiff, true_and, and_true, true_implies, false_implies, not_true_eq_false, not_false_eq_true, implies_true, and_self, ne_eq, decide_true, decide_false, Bool.not_true, Bool.not_false, if_true, if_false, reduceIte, xb_0, xb_1, xb_2, xb_3, xb_4, xb_5, xb_6, xb_7, xb_8, xb_9, xb_10, xb_11, xb_12, xb_13, xb_14, xb_15, xb_16, xb_17, xb_18, xb_19, xb_20, xb_21, xo_0, xo_1, xo_2, xo_3, xo_4, xo_5, xo_6, xo_7, xo_8, xo_9, v.1]
  exact bI_m _ _ (by omega) (by rw [← hQ])
theorem x_hasDream {h : z_T} {bo : Nat} {bk : Nat → Nat} (b : BOK bk) (B : xBk h bo bk) (x : Int32) : fX0_hasDream bo x h = some (bI (z_ix x (bk 1) = true)) := by
  obtain ⟨s, v⟩ := B
  have := b.2.1
  refine p_of ?_
  generalize hQ : (fun w => w = bI (z_ix x (bk 1) = true)) = Q
  unfold fX0_hasDream fX0_hasDream_b16
  simp (disch := first | assumption | omega) only [p_some, p_gd, p_br, p_bi, p_nm, p_mp, p_Sl, p_Sr, p_bis, p_gdt, q_IL, q_IR, q_LI, q_LR, q_RI, q_RL, q_KI, q_KL, q_KR, q_NI, q_NL, q_NR, q_nI, q_nL, q_nR, q_okI, q_okL, q_okR, q_Ie, q_In, q_Le, q_Ln, SM_I, SM_L, s_c0, s_cg0, s_cl0, s_cge, s_cle, r_le, r_lt, r_eq, r_md, r_2, r_3, r_lit, r_litL, r_m1, nI_add, nI_1, nI_clamp, nI_leI, nI_ltI, nI_eq, pk_sub, q_ix, nI_l, lN_add, lN_mul, r_m1n, r_m1n', r_m1lt, r_m1nlt, r_m1le, r_m1nle, Nat.not_lt_zero, Nat.reduceEqDiff, Nat.reduceLT, Nat.reduceLeDiff, true_and, and_true, true_implies, false_implies, not_true_eq_false, not_false_eq_true, implies_true, and_self, ne_eq, decide_true, decide_false, Bool.not_true, Bool.not_false, if_true, if_false, reduceIte, xb_0, xb_1, xb_2, xb_3, xb_4, xb_5, xb_6, xb_7, xb_8, xb_9, xb_10, xb_11, xb_12, xb_13, xb_14, xb_15, xb_16, xb_17, xb_18, xb_19, xb_20, xb_21, xo_0, xo_1, xo_2, xo_3, xo_4, xo_5, xo_6, xo_7, xo_8, xo_9, v.2.1]
  exact bI_m _ _ (by omega) (by rw [← hQ])
theorem r_nlt0 {n : Nat} (h : n < 2 ^ 31) : (nI n < nI 0) = False := by
  simp only [eq_iff_iff, iff_false]
  exact nI_pos h
theorem x_setting {h : z_T} {bo k : Nat} {bk : Nat → Nat} (B : xBk h bo bk) (hk : k < 6) : fX0_setting bo (nI k) h = some (nI (bk (2 + k))) := by
  obtain ⟨s, v⟩ := B
  refine p_of ?_
  unfold fX0_setting fX0_setting_b22
  simp (disch := first | assumption | omega) only [p_some, p_gd, p_br, p_bi, p_nm, p_mp, p_Sl, p_Sr, p_bis, p_gdt, q_IL, q_IR, q_LI, q_LR, q_RI, q_RL, q_KI, q_KL, q_KR, q_NI, q_NL, q_NR, q_nI, q_nL, q_nR, q_okI, q_okL, q_okR, q_Ie, q_In, q_Le, q_Ln, SM_I, SM_L, s_c0, s_cg0, s_cl0, s_cge, s_cle, r_le, r_lt, r_eq, r_md, r_2, r_3, r_lit, r_litL, r_m1, nI_add, nI_1, nI_clamp, nI_leI, nI_ltI, nI_eq, pk_sub, q_ix, nI_l, lN_add, lN_mul, r_m1n, r_m1n', r_m1lt, r_m1nlt, r_m1le, r_m1nle, Nat.not_lt_zero, Nat.reduceEqDiff, Nat.reduceLT, Nat.reduceLeDiff, true_and, and_true, true_implies, false_implies, not_true_eq_false, not_false_eq_true, implies_true, and_self, ne_eq, decide_true, decide_false, Bool.not_true, Bool.not_false, if_true, if_false, reduceIte, xb_0, xb_1, xb_2, xb_3, xb_4, xb_5, xb_6, xb_7, xb_8, xb_9, xb_10, xb_11, xb_12, xb_13, xb_14, xb_15, xb_16, xb_17, xb_18, xb_19, xb_20, xb_21, xo_0, xo_1, xo_2, xo_3, xo_4, xo_5, xo_6, xo_7, xo_8, xo_9, v.2.2.1, r_nlt0, show ¬ 6 ≤ k by omega]
theorem x_inRoom {h : z_T} {bo k : Nat} {bk : Nat → Nat} (B : xBk h bo bk) (hk : k < 8) : fX0_inRoom bo (nI k) h = some (nI (bk (8 + k))) := by
  obtain ⟨s, v⟩ := B
  refine p_of ?_
  unfold fX0_inRoom fX0_inRoom_b22
  simp (disch := first | assumption | omega) only [p_some, p_gd, p_br, p_bi, p_nm, p_mp, p_Sl, p_Sr, p_bis, p_gdt, q_IL, q_IR, q_LI, q_LR, q_RI, q_RL, q_KI, q_KL, q_KR, q_NI, q_NL, q_NR, q_nI, q_nL, q_nR, q_okI, q_okL, q_okR, q_Ie, q_In, q_Le, q_Ln, SM_I, SM_L, s_c0, s_cg0, s_cl0, s_cge, s_cle, r_le, r_lt, r_eq, r_md, r_2, r_3, r_lit, r_litL, r_m1, nI_add, nI_1, nI_clamp, nI_leI, nI_ltI, nI_eq, pk_sub, q_ix, nI_l, lN_add, lN_mul, r_m1n, r_m1n', r_m1lt, r_m1nlt, r_m1le, r_m1nle, Nat.not_lt_zero, Nat.reduceEqDiff, Nat.reduceLT, Nat.reduceLeDiff, true_and, and_true, true_implies, false_implies, not_true_eq_false, not_false_eq_true, implies_true, and_self, ne_eq, decide_true, decide_false, Bool.not_true, Bool.not_false, if_true, if_false, reduceIte, xb_0, xb_1, xb_2, xb_3, xb_4, xb_5, xb_6, xb_7, xb_8, xb_9, xb_10, xb_11, xb_12, xb_13, xb_14, xb_15, xb_16, xb_17, xb_18, xb_19, xb_20, xb_21, xo_0, xo_1, xo_2, xo_3, xo_4, xo_5, xo_6, xo_7, xo_8, xo_9, v.2.2.2.1, r_nlt0, show ¬ 8 ≤ k by omega]
theorem x_inDream {h : z_T} {bo k : Nat} {bk : Nat → Nat} (B : xBk h bo bk) (hk : k < 8) : fX0_inDream bo (nI k) h = some (nI (bk (16 + k))) := by
  obtain ⟨s, v⟩ := B
  refine p_of ?_
  unfold fX0_inDream fX0_inDream_b22
  simp (disch := first | assumption | omega) only [p_some, p_gd, p_br, p_bi, p_nm, p_mp, p_Sl, p_Sr, p_bis, p_gdt, q_IL, q_IR, q_LI, q_LR, q_RI, q_RL, q_KI, q_KL, q_KR, q_NI, q_NL, q_NR, q_nI, q_nL, q_nR, q_okI, q_okL, q_okR, q_Ie, q_In, q_Le, q_Ln, SM_I, SM_L, s_c0, s_cg0, s_cl0, s_cge, s_cle, r_le, r_lt, r_eq, r_md, r_2, r_3, r_lit, r_litL, r_m1, nI_add, nI_1, nI_clamp, nI_leI, nI_ltI, nI_eq, pk_sub, q_ix, nI_l, lN_add, lN_mul, r_m1n, r_m1n', r_m1lt, r_m1nlt, r_m1le, r_m1nle, Nat.not_lt_zero, Nat.reduceEqDiff, Nat.reduceLT, Nat.reduceLeDiff, true_and, and_true, true_implies, false_implies, not_true_eq_false, not_false_eq_true, implies_true, and_self, ne_eq, decide_true, decide_false, Bool.not_true, Bool.not_false, if_true, if_false, reduceIte, xb_0, xb_1, xb_2, xb_3, xb_4, xb_5, xb_6, xb_7, xb_8, xb_9, xb_10, xb_11, xb_12, xb_13, xb_14, xb_15, xb_16, xb_17, xb_18, xb_19, xb_20, xb_21, xo_0, xo_1, xo_2, xo_3, xo_4, xo_5, xo_6, xo_7, xo_8, xo_9, v.2.2.2.2.1, r_nlt0, show ¬ 8 ≤ k by omega]
theorem x_keptIn {h : z_T} {bo d : Nat} {bk : Nat → Nat} (B : xBk h bo bk) (hd : d < 6) : fX0_keptIn bo (nI (d + 1)) h = some (nI (bk (30 + d))) := by
  obtain ⟨s, v⟩ := B
  refine p_of ?_
  unfold fX0_keptIn fX0_keptIn_b22
  simp (disch := first | assumption | omega) only [p_some, p_gd, p_br, p_bi, p_nm, p_mp, p_Sl, p_Sr, p_bis, p_gdt, q_IL, q_IR, q_LI, q_LR, q_RI, q_RL, q_KI, q_KL, q_KR, q_NI, q_NL, q_NR, q_nI, q_nL, q_nR, q_okI, q_okL, q_okR, q_Ie, q_In, q_Le, q_Ln, SM_I, SM_L, s_c0, s_cg0, s_cl0, s_cge, s_cle, r_le, r_lt, r_eq, r_md, r_2, r_3, r_lit, r_litL, r_m1, nI_add, nI_1, nI_clamp, nI_leI, nI_ltI, nI_eq, pk_sub, q_ix, nI_l, lN_add, lN_mul, r_m1n, r_m1n', r_m1lt, r_m1nlt, r_m1le, r_m1nle, Nat.not_lt_zero, Nat.reduceEqDiff, Nat.reduceLT, Nat.reduceLeDiff, true_and, and_true, true_implies, false_implies, not_true_eq_false, not_false_eq_true, implies_true, and_self, ne_eq, decide_true, decide_false, Bool.not_true, Bool.not_false, if_true, if_false, reduceIte, xb_0, xb_1, xb_2, xb_3, xb_4, xb_5, xb_6, xb_7, xb_8, xb_9, xb_10, xb_11, xb_12, xb_13, xb_14, xb_15, xb_16, xb_17, xb_18, xb_19, xb_20, xb_21, xo_0, xo_1, xo_2, xo_3, xo_4, xo_5, xo_6, xo_7, xo_8, xo_9, v.2.2.2.2.2.2, r_nlt0, show ¬ 7 ≤ d + 1 by omega]
theorem x_weightOf {h : z_T} {bo q : Nat} {bk : Nat → Nat} (B : xBk h bo bk) (hq : q < 7) : fX0_weightOf bo (nI q) h = some (nI (a_w bk q)) := by
  obtain ⟨s, v⟩ := B
  refine p_of ?_
  unfold fX0_weightOf fX0_weightOf_b33 a_w
  by_cases e : q = 0
  · subst e
    simp (disch := first | assumption | omega) only [p_some, p_gd, p_br, p_bi, p_nm, p_mp, p_Sl, p_Sr, p_bis, p_gdt, q_IL, q_IR, q_LI, q_LR, q_RI, q_RL, q_KI, q_KL, q_KR, q_NI, q_NL, q_NR, q_nI, q_nL, q_nR, q_okI, q_okL, q_okR, q_Ie, q_In, q_Le, q_Ln, SM_I, SM_L, s_c0, s_cg0, s_cl0, s_cge, s_cle, r_le, r_lt, r_eq, r_md, r_2, r_3, r_lit, r_litL, r_m1, nI_add, nI_1, nI_clamp, nI_leI, nI_ltI, nI_eq, pk_sub, q_ix, nI_l, lN_add, lN_mul, r_m1n, r_m1n', r_m1lt, r_m1nlt, r_m1le, r_m1nle, Nat.not_lt_zero, Nat.reduceEqDiff, Nat.reduceLT, Nat.reduceLeDiff, true_and, and_true, true_implies, false_implies, not_true_eq_false, not_false_eq_true, implies_true, and_self, ne_eq, decide_true, decide_false, Bool.not_true, Bool.not_false, if_true, if_false, reduceIte, xb_0, xb_1, xb_2, xb_3, xb_4, xb_5, xb_6, xb_7, xb_8, xb_9, xb_10, xb_11, xb_12, xb_13, xb_14, xb_15, xb_16, xb_17, xb_18, xb_19, xb_20, xb_21, xo_0, xo_1, xo_2, xo_3, xo_4, xo_5, xo_6, xo_7, xo_8, xo_9, v.2.2.1]
  · have e2 := v.2.2.2.2.2.1 (q - 1) (by omega)
    rw [show q - 1 + 1 = q by omega] at e2
    simp (disch := first | assumption | omega) only [p_some, p_gd, p_br, p_bi, p_nm, p_mp, p_Sl, p_Sr, p_bis, p_gdt, q_IL, q_IR, q_LI, q_LR, q_RI, q_RL, q_KI, q_KL, q_KR, q_NI, q_NL, q_NR, q_nI, q_nL, q_nR, q_okI, q_okL, q_okR, q_Ie, q_In, q_Le, q_Ln, SM_I, SM_L, s_c0, s_cg0, s_cl0, s_cge, s_cle, r_le, r_lt, r_eq, r_md, r_2, r_3, r_lit, r_litL, r_m1, nI_add, nI_1, nI_clamp, nI_leI, nI_ltI, nI_eq, pk_sub, q_ix, nI_l, lN_add, lN_mul, r_m1n, r_m1n', r_m1lt, r_m1nlt, r_m1le, r_m1nle, Nat.not_lt_zero, Nat.reduceEqDiff, Nat.reduceLT, Nat.reduceLeDiff, true_and, and_true, true_implies, false_implies, not_true_eq_false, not_false_eq_true, implies_true, and_self, ne_eq, decide_true, decide_false, Bool.not_true, Bool.not_false, if_true, if_false, reduceIte, xb_0, xb_1, xb_2, xb_3, xb_4, xb_5, xb_6, xb_7, xb_8, xb_9, xb_10, xb_11, xb_12, xb_13, xb_14, xb_15, xb_16, xb_17, xb_18, xb_19, xb_20, xb_21, xo_0, xo_1, xo_2, xo_3, xo_4, xo_5, xo_6, xo_7, xo_8, xo_9, e, e2, show ¬ 7 ≤ q by omega, show ¬ q ≤ 0 by omega]
    rw [show 24 + (q - 1) = 24 + q - 1 by omega]
theorem x_allWeights {h : z_T} {bo : Nat} {bk : Nat → Nat} (B : xBk h bo bk) : fX0_allWeights bo h = some (nI (sumN (a_w bk) 7)) := by
  refine p_of ?_
  unfold fX0_allWeights fX0_allWeights_b4
  refine p_for 7 (fun j w => w = (nI (sumN (a_w bk) j), nI j)) ?_ ?_ 0 (by omega) rfl
  · rintro j w hj rfl
    unfold fX0_allWeights_b4_i
    simp (disch := first | assumption | omega) only [p_some, p_gd, p_br, p_bi, p_nm, p_mp, p_Sl, p_Sr, p_bis, p_gdt, q_IL, q_IR, q_LI, q_LR, q_RI, q_RL, q_KI, q_KL, q_KR, q_NI, q_NL, q_NR, q_nI, q_nL, q_nR, q_okI, q_okL, q_okR, q_Ie, q_In, q_Le, q_Ln, SM_I, SM_L, s_c0, s_cg0, s_cl0, s_cge, s_cle, r_le, r_lt, r_eq, r_md, r_2, r_3, r_lit, r_litL, r_m1, nI_add, nI_1, nI_clamp, nI_leI, nI_ltI, nI_eq, pk_sub, q_ix, nI_l, lN_add, lN_mul, r_m1n, r_m1n', r_m1lt, r_m1nlt, r_m1le, r_m1nle, Nat.not_lt_zero, Nat.reduceEqDiff, Nat.reduceLT, Nat.reduceLeDiff, true_and, and_true, true_implies, false_implies, not_true_eq_false, not_false_eq_true, implies_true, and_self, ne_eq, decide_true, decide_false, Bool.not_true, Bool.not_false, if_true, if_false, reduceIte, xb_0, xb_1, xb_2, xb_3, xb_4, xb_5, xb_6, xb_7, xb_8, xb_9, xb_10, xb_11, xb_12, xb_13, xb_14, xb_15, xb_16, xb_17, xb_18, xb_19, xb_20, xb_21, xo_0, xo_1, xo_2, xo_3, xo_4, xo_5, xo_6, xo_7, xo_8, xo_9, xb_0 B.1, x_weightOf B, show ¬ 7 ≤ j by omega]
    rw [sumN]
  · rintro w rfl
    unfold fX0_allWeights_b4_i
    simp (disch := first | assumption | omega) only [p_some, p_gd, p_br, p_bi, p_nm, p_mp, p_Sl, p_Sr, p_bis, p_gdt, q_IL, q_IR, q_LI, q_LR, q_RI, q_RL, q_KI, q_KL, q_KR, q_NI, q_NL, q_NR, q_nI, q_nL, q_nR, q_okI, q_okL, q_okR, q_Ie, q_In, q_Le, q_Ln, SM_I, SM_L, s_c0, s_cg0, s_cl0, s_cge, s_cle, r_le, r_lt, r_eq, r_md, r_2, r_3, r_lit, r_litL, r_m1, nI_add, nI_1, nI_clamp, nI_leI, nI_ltI, nI_eq, pk_sub, q_ix, nI_l, lN_add, lN_mul, r_m1n, r_m1n', r_m1lt, r_m1nlt, r_m1le, r_m1nle, Nat.not_lt_zero, Nat.reduceEqDiff, Nat.reduceLT, Nat.reduceLeDiff, true_and, and_true, true_implies, false_implies, not_true_eq_false, not_false_eq_true, implies_true, and_self, ne_eq, decide_true, decide_false, Bool.not_true, Bool.not_false, if_true, if_false, reduceIte, xb_0, xb_1, xb_2, xb_3, xb_4, xb_5, xb_6, xb_7, xb_8, xb_9, xb_10, xb_11, xb_12, xb_13, xb_14, xb_15, xb_16, xb_17, xb_18, xb_19, xb_20, xb_21, xo_0, xo_1, xo_2, xo_3, xo_4, xo_5, xo_6, xo_7, xo_8, xo_9, Nat.le_refl]
theorem s_tb {n j : Nat} (hj : j < 31) : (nI n &&& nI (2 ^ j) = nI 0) = (n.testBit j = false) := propext (fa_bit hj)
theorem x_keepersOf {h : z_T} {bo t : Nat} {bk : Nat → Nat} (B : xBk h bo bk) (ht : t < 31) : fX0_keepersOf bo (nI t) h = some (nI (a_bs (fun d => (bk (30 + d)).testBit t) 6)) := by
  refine p_of ?_
  unfold fX0_keepersOf fX0_keepersOf_b4
  refine p_for 6 (fun j w => w = (nI (a_bs (fun d => (bk (30 + d)).testBit t) j), nI j)) ?_ ?_ 0 (by omega) rfl
  · rintro j w hj rfl
    unfold fX0_keepersOf_b4_i fX0_keepersOf_b30
    simp (disch := first | assumption | omega) only [p_some, p_gd, p_br, p_bi, p_nm, p_mp, p_Sl, p_Sr, p_bis, p_gdt, q_IL, q_IR, q_LI, q_LR, q_RI, q_RL, q_KI, q_KL, q_KR, q_NI, q_NL, q_NR, q_nI, q_nL, q_nR, q_okI, q_okL, q_okR, q_Ie, q_In, q_Le, q_Ln, SM_I, SM_L, s_c0, s_cg0, s_cl0, s_cge, s_cle, r_le, r_lt, r_eq, r_md, r_2, r_3, r_lit, r_litL, r_m1, nI_add, nI_1, nI_clamp, nI_leI, nI_ltI, nI_eq, pk_sub, q_ix, nI_l, lN_add, lN_mul, r_m1n, r_m1n', r_m1lt, r_m1nlt, r_m1le, r_m1nle, Nat.not_lt_zero, Nat.reduceEqDiff, Nat.reduceLT, Nat.reduceLeDiff, true_and, and_true, true_implies, false_implies, not_true_eq_false, not_false_eq_true, implies_true, and_self, ne_eq, decide_true, decide_false, Bool.not_true, Bool.not_false, if_true, if_false, reduceIte, xb_0, xb_1, xb_2, xb_3, xb_4, xb_5, xb_6, xb_7, xb_8, xb_9, xb_10, xb_11, xb_12, xb_13, xb_14, xb_15, xb_16, xb_17, xb_18, xb_19, xb_20, xb_21, xo_0, xo_1, xo_2, xo_3, xo_4, xo_5, xo_6, xo_7, xo_8, xo_9, xb_0 B.1, x_keptIn B, r_shl, s_tb, fa_or, show ¬ 6 ≤ j by omega]
    rw [a_bs]
    refine ⟨fun c => ?_, fun c => ?_⟩
    · rw [if_neg (by rw [c]; decide), Nat.or_zero]
    · rw [if_pos (by simpa using c)]
  · rintro w rfl
    unfold fX0_keepersOf_b4_i
    simp (disch := first | assumption | omega) only [p_some, p_gd, p_br, p_bi, p_nm, p_mp, p_Sl, p_Sr, p_bis, p_gdt, q_IL, q_IR, q_LI, q_LR, q_RI, q_RL, q_KI, q_KL, q_KR, q_NI, q_NL, q_NR, q_nI, q_nL, q_nR, q_okI, q_okL, q_okR, q_Ie, q_In, q_Le, q_Ln, SM_I, SM_L, s_c0, s_cg0, s_cl0, s_cge, s_cle, r_le, r_lt, r_eq, r_md, r_2, r_3, r_lit, r_litL, r_m1, nI_add, nI_1, nI_clamp, nI_leI, nI_ltI, nI_eq, pk_sub, q_ix, nI_l, lN_add, lN_mul, r_m1n, r_m1n', r_m1lt, r_m1nlt, r_m1le, r_m1nle, Nat.not_lt_zero, Nat.reduceEqDiff, Nat.reduceLT, Nat.reduceLeDiff, true_and, and_true, true_implies, false_implies, not_true_eq_false, not_false_eq_true, implies_true, and_self, ne_eq, decide_true, decide_false, Bool.not_true, Bool.not_false, if_true, if_false, reduceIte, xb_0, xb_1, xb_2, xb_3, xb_4, xb_5, xb_6, xb_7, xb_8, xb_9, xb_10, xb_11, xb_12, xb_13, xb_14, xb_15, xb_16, xb_17, xb_18, xb_19, xb_20, xb_21, xo_0, xo_1, xo_2, xo_3, xo_4, xo_5, xo_6, xo_7, xo_8, xo_9, Nat.le_refl]
theorem x_plainChance {h : z_T} {bo t q : Nat} {bk : Nat → Nat} (B : xBk h bo bk) (ht : t < 8) (hq : q < 7) : fX0_plainChance bo (nI t) (nI q) h = some (nI (a_pl bk q t)) := by
  refine p_of ?_
  unfold fX0_plainChance fX0_plainChance_b16 fX0_plainChance_b21 a_pl
  by_cases e : q = 0
  · subst e
    simp (disch := first | assumption | omega) only [p_some, p_gd, p_br, p_bi, p_nm, p_mp, p_Sl, p_Sr, p_bis, p_gdt, q_IL, q_IR, q_LI, q_LR, q_RI, q_RL, q_KI, q_KL, q_KR, q_NI, q_NL, q_NR, q_nI, q_nL, q_nR, q_okI, q_okL, q_okR, q_Ie, q_In, q_Le, q_Ln, SM_I, SM_L, s_c0, s_cg0, s_cl0, s_cge, s_cle, r_le, r_lt, r_eq, r_md, r_2, r_3, r_lit, r_litL, r_m1, nI_add, nI_1, nI_clamp, nI_leI, nI_ltI, nI_eq, pk_sub, q_ix, nI_l, lN_add, lN_mul, r_m1n, r_m1n', r_m1lt, r_m1nlt, r_m1le, r_m1nle, Nat.not_lt_zero, Nat.reduceEqDiff, Nat.reduceLT, Nat.reduceLeDiff, true_and, and_true, true_implies, false_implies, not_true_eq_false, not_false_eq_true, implies_true, and_self, ne_eq, decide_true, decide_false, Bool.not_true, Bool.not_false, if_true, if_false, reduceIte, xb_0, xb_1, xb_2, xb_3, xb_4, xb_5, xb_6, xb_7, xb_8, xb_9, xb_10, xb_11, xb_12, xb_13, xb_14, xb_15, xb_16, xb_17, xb_18, xb_19, xb_20, xb_21, xo_0, xo_1, xo_2, xo_3, xo_4, xo_5, xo_6, xo_7, xo_8, xo_9, xb_0 B.1, x_inRoom B, true_or]
  · have e2 := x_keptIn B (d := q - 1) (by omega)
    rw [show q - 1 + 1 = q by omega, show 30 + (q - 1) = 30 + q - 1 by omega] at e2
    simp (disch := first | assumption | omega) only [p_some, p_gd, p_br, p_bi, p_nm, p_mp, p_Sl, p_Sr, p_bis, p_gdt, q_IL, q_IR, q_LI, q_LR, q_RI, q_RL, q_KI, q_KL, q_KR, q_NI, q_NL, q_NR, q_nI, q_nL, q_nR, q_okI, q_okL, q_okR, q_Ie, q_In, q_Le, q_Ln, SM_I, SM_L, s_c0, s_cg0, s_cl0, s_cge, s_cle, r_le, r_lt, r_eq, r_md, r_2, r_3, r_lit, r_litL, r_m1, nI_add, nI_1, nI_clamp, nI_leI, nI_ltI, nI_eq, pk_sub, q_ix, nI_l, lN_add, lN_mul, r_m1n, r_m1n', r_m1lt, r_m1nlt, r_m1le, r_m1nle, Nat.not_lt_zero, Nat.reduceEqDiff, Nat.reduceLT, Nat.reduceLeDiff, true_and, and_true, true_implies, false_implies, not_true_eq_false, not_false_eq_true, implies_true, and_self, ne_eq, decide_true, decide_false, Bool.not_true, Bool.not_false, if_true, if_false, reduceIte, xb_0, xb_1, xb_2, xb_3, xb_4, xb_5, xb_6, xb_7, xb_8, xb_9, xb_10, xb_11, xb_12, xb_13, xb_14, xb_15, xb_16, xb_17, xb_18, xb_19, xb_20, xb_21, xo_0, xo_1, xo_2, xo_3, xo_4, xo_5, xo_6, xo_7, xo_8, xo_9, xb_0 B.1, e, e2, r_shl, s_tb, x_inRoom B, x_inDream B, false_or]
    refine ⟨fun c => ?_, fun c => ?_⟩
    · rw [if_neg (by rw [c]; decide)]
    · rw [if_pos (by simpa using c)]
/-- a night of the class: its book at bo, n answers -/
def xNv (h : z_T) (o : Nat) (bk ans : Nat → Nat) (n : Nat) : Prop := z_I h o 1 = nI n ∧ (∀ i, i < n → z_I h (o + 1) i = nI (ans i)) ∧ (∀ t, t < 8 → z_I h (o + 2) t = nI (a_tm ans t n)) ∧ (∀ q, q < 7 → z_L h (o + 3) q = lN (a_lk bk ans q n))
def xNi (h : z_T) (o bo : Nat) (bk ans : Nat → Nat) (n : Nat) : Prop := xNs h o ∧ z_R h o 0 = some bo ∧ xBk h bo bk ∧ xNv h o bk ans n
theorem xNv.fr {C : Nat → Nat → Prop} {h h' : z_T} {o n : Nat} {bk ans : Nat → Nat} (f : x_fr C h h') (hc : ∀ j k, j < 4 → C (o + j) k) (s : xNs h o) (v : xNv h o bk ans n) : xNv h' o bk ans n := by
  obtain ⟨v1, v2, v3, v4⟩ := v
  refine ⟨?_, fun i hi => ?_, fun i hi => ?_, fun i hi => ?_⟩
  · exact (f.I _ _ (z_ok_lt (xo_0 s)) (hc 0 1 (by decide))).trans v1
  · exact (f.I _ _ (z_ok_lt (xo_4 s)) (hc 1 i (by decide))).trans (v2 i hi)
  · exact (f.I _ _ (z_ok_lt (xo_6 s)) (hc 2 i (by decide))).trans (v3 i hi)
  · exact (f.L _ _ (z_ok_lt (xo_8 s)) (hc 3 i (by decide))).trans (v4 i hi)
theorem xNi.fr {C : Nat → Nat → Prop} {h h' : z_T} {o bo n : Nat} {bk ans : Nat → Nat} (f : x_fr C h h') (ho : isN o) (hb : bo = 1 ∨ 83 ≤ bo) (hc : ∀ j k, j < 4 → C (o + j) k) (hc2 : ∀ j k, j < 8 → C (bo + j) k) (v : xNi h o bo bk ans n) : xNi h' o bo bk ans n :=
  ⟨v.1.fr f ho, (f.R _ _ (z_ok_lt (xo_0 v.1)) (hc 0 0 (by decide))).trans v.2.1, v.2.2.1.fr f hb hc2, v.2.2.2.fr f hc v.1⟩
theorem x_ofPlace {h : z_T} {o bo n q : Nat} {bk ans : Nat → Nat} (N : xNi h o bo bk ans n) (hq : q < 7) : fX2_ofPlace o (nI q) h = some (lN (a_lk bk ans q n)) := by
  obtain ⟨s, r, B, v⟩ := N
  refine p_of ?_
  unfold fX2_ofPlace fX2_ofPlace_b22
  simp (disch := first | assumption | omega) only [p_some, p_gd, p_br, p_bi, p_nm, p_mp, p_Sl, p_Sr, p_bis, p_gdt, q_IL, q_IR, q_LI, q_LR, q_RI, q_RL, q_KI, q_KL, q_KR, q_NI, q_NL, q_NR, q_nI, q_nL, q_nR, q_okI, q_okL, q_okR, q_Ie, q_In, q_Le, q_Ln, SM_I, SM_L, s_c0, s_cg0, s_cl0, s_cge, s_cle, r_le, r_lt, r_eq, r_md, r_2, r_3, r_lit, r_litL, r_m1, nI_add, nI_1, nI_clamp, nI_leI, nI_ltI, nI_eq, pk_sub, q_ix, nI_l, lN_add, lN_mul, r_m1n, r_m1n', r_m1lt, r_m1nlt, r_m1le, r_m1nle, Nat.not_lt_zero, Nat.reduceEqDiff, Nat.reduceLT, Nat.reduceLeDiff, true_and, and_true, true_implies, false_implies, not_true_eq_false, not_false_eq_true, implies_true, and_self, ne_eq, decide_true, decide_false, Bool.not_true, Bool.not_false, if_true, if_false, reduceIte, xb_0, xb_1, xb_2, xb_3, xb_4, xb_5, xb_6, xb_7, xb_8, xb_9, xb_10, xb_11, xb_12, xb_13, xb_14, xb_15, xb_16, xb_17, xb_18, xb_19, xb_20, xb_21, xo_0, xo_1, xo_2, xo_3, xo_4, xo_5, xo_6, xo_7, xo_8, xo_9, v.2.2.2, r_nlt0, show ¬ 7 ≤ q by omega]
theorem x_ofRoom {h : z_T} {o bo n : Nat} {bk ans : Nat → Nat} (N : xNi h o bo bk ans n) : fX2_ofRoom o h = some (lN (a_lk bk ans 0 n)) := by
  refine p_of ?_
  unfold fX2_ofRoom
  simp (disch := first | assumption | omega) only [p_some, p_gd, p_br, p_bi, p_nm, p_mp, p_Sl, p_Sr, p_bis, p_gdt, q_IL, q_IR, q_LI, q_LR, q_RI, q_RL, q_KI, q_KL, q_KR, q_NI, q_NL, q_NR, q_nI, q_nL, q_nR, q_okI, q_okL, q_okR, q_Ie, q_In, q_Le, q_Ln, SM_I, SM_L, s_c0, s_cg0, s_cl0, s_cge, s_cle, r_le, r_lt, r_eq, r_md, r_2, r_3, r_lit, r_litL, r_m1, nI_add, nI_1, nI_clamp, nI_leI, nI_ltI, nI_eq, pk_sub, q_ix, nI_l, lN_add, lN_mul, r_m1n, r_m1n', r_m1lt, r_m1nlt, r_m1le, r_m1nle, Nat.not_lt_zero, Nat.reduceEqDiff, Nat.reduceLT, Nat.reduceLeDiff, true_and, and_true, true_implies, false_implies, not_true_eq_false, not_false_eq_true, implies_true, and_self, ne_eq, decide_true, decide_false, Bool.not_true, Bool.not_false, if_true, if_false, reduceIte, xb_0, xb_1, xb_2, xb_3, xb_4, xb_5, xb_6, xb_7, xb_8, xb_9, xb_10, xb_11, xb_12, xb_13, xb_14, xb_15, xb_16, xb_17, xb_18, xb_19, xb_20, xb_21, xo_0, xo_1, xo_2, xo_3, xo_4, xo_5, xo_6, xo_7, xo_8, xo_9, xo_0 N.1, x_ofPlace N]
theorem x_ofDreams {h : z_T} {o bo n : Nat} {bk ans : Nat → Nat} (N : xNi h o bo bk ans n) : fX2_ofDreams o h = some (lN (sumN (fun q => a_lk bk ans (q + 1) n) 6)) := by
  refine p_of ?_
  unfold fX2_ofDreams fX2_ofDreams_b4
  refine p_for 6 (fun j w => w = (lN (sumN (fun q => a_lk bk ans (q + 1) n) j), nI (j + 1))) ?_ ?_ 0 (by omega) rfl
  · rintro j w hj rfl
    unfold fX2_ofDreams_b4_i
    simp (disch := first | assumption | omega) only [p_some, p_gd, p_br, p_bi, p_nm, p_mp, p_Sl, p_Sr, p_bis, p_gdt, q_IL, q_IR, q_LI, q_LR, q_RI, q_RL, q_KI, q_KL, q_KR, q_NI, q_NL, q_NR, q_nI, q_nL, q_nR, q_okI, q_okL, q_okR, q_Ie, q_In, q_Le, q_Ln, SM_I, SM_L, s_c0, s_cg0, s_cl0, s_cge, s_cle, r_le, r_lt, r_eq, r_md, r_2, r_3, r_lit, r_litL, r_m1, nI_add, nI_1, nI_clamp, nI_leI, nI_ltI, nI_eq, pk_sub, q_ix, nI_l, lN_add, lN_mul, r_m1n, r_m1n', r_m1lt, r_m1nlt, r_m1le, r_m1nle, Nat.not_lt_zero, Nat.reduceEqDiff, Nat.reduceLT, Nat.reduceLeDiff, true_and, and_true, true_implies, false_implies, not_true_eq_false, not_false_eq_true, implies_true, and_self, ne_eq, decide_true, decide_false, Bool.not_true, Bool.not_false, if_true, if_false, reduceIte, xb_0, xb_1, xb_2, xb_3, xb_4, xb_5, xb_6, xb_7, xb_8, xb_9, xb_10, xb_11, xb_12, xb_13, xb_14, xb_15, xb_16, xb_17, xb_18, xb_19, xb_20, xb_21, xo_0, xo_1, xo_2, xo_3, xo_4, xo_5, xo_6, xo_7, xo_8, xo_9, xo_0 N.1, x_ofPlace N, show ¬ 7 ≤ j + 1 by omega]
    rw [sumN]
  · rintro w rfl
    unfold fX2_ofDreams_b4_i
    simp (disch := first | assumption | omega) only [p_some, p_gd, p_br, p_bi, p_nm, p_mp, p_Sl, p_Sr, p_bis, p_gdt, q_IL, q_IR, q_LI, q_LR, q_RI, q_RL, q_KI, q_KL, q_KR, q_NI, q_NL, q_NR, q_nI, q_nL, q_nR, q_okI, q_okL, q_okR, q_Ie, q_In, q_Le, q_Ln, SM_I, SM_L, s_c0, s_cg0, s_cl0, s_cge, s_cle, r_le, r_lt, r_eq, r_md, r_2, r_3, r_lit, r_litL, r_m1, nI_add, nI_1, nI_clamp, nI_leI, nI_ltI, nI_eq, pk_sub, q_ix, nI_l, lN_add, lN_mul, r_m1n, r_m1n', r_m1lt, r_m1nlt, r_m1le, r_m1nle, Nat.not_lt_zero, Nat.reduceEqDiff, Nat.reduceLT, Nat.reduceLeDiff, true_and, and_true, true_implies, false_implies, not_true_eq_false, not_false_eq_true, implies_true, and_self, ne_eq, decide_true, decide_false, Bool.not_true, Bool.not_false, if_true, if_false, reduceIte, xb_0, xb_1, xb_2, xb_3, xb_4, xb_5, xb_6, xb_7, xb_8, xb_9, xb_10, xb_11, xb_12, xb_13, xb_14, xb_15, xb_16, xb_17, xb_18, xb_19, xb_20, xb_21, xo_0, xo_1, xo_2, xo_3, xo_4, xo_5, xo_6, xo_7, xo_8, xo_9, Nat.le_refl]
theorem a_all_split {bk ans : Nat → Nat} (b : BOK bk) (n : Nat) : a_lk bk ans 0 n + sumN (fun q => a_lk bk ans (q + 1) n) 6 = a_all bk ans n := by
  rw [← b.all7]
  exact (sumN_head (f := fun q => a_lk bk ans q n) (n := 6)).symm
theorem x_ofAll {h : z_T} {o bo n : Nat} {bk ans : Nat → Nat} (b : BOK bk) (N : xNi h o bo bk ans n) : fX2_ofAll o h = some (lN (a_all bk ans n)) := by
  refine p_of ?_
  unfold fX2_ofAll
  simp (disch := first | assumption | omega) only [p_some, p_gd, p_br, p_bi, p_nm, p_mp, p_Sl, p_Sr, p_bis, p_gdt, q_IL, q_IR, q_LI, q_LR, q_RI, q_RL, q_KI, q_KL, q_KR, q_NI, q_NL, q_NR, q_nI, q_nL, q_nR, q_okI, q_okL, q_okR, q_Ie, q_In, q_Le, q_Ln, SM_I, SM_L, s_c0, s_cg0, s_cl0, s_cge, s_cle, r_le, r_lt, r_eq, r_md, r_2, r_3, r_lit, r_litL, r_m1, nI_add, nI_1, nI_clamp, nI_leI, nI_ltI, nI_eq, pk_sub, q_ix, nI_l, lN_add, lN_mul, r_m1n, r_m1n', r_m1lt, r_m1nlt, r_m1le, r_m1nle, Nat.not_lt_zero, Nat.reduceEqDiff, Nat.reduceLT, Nat.reduceLeDiff, true_and, and_true, true_implies, false_implies, not_true_eq_false, not_false_eq_true, implies_true, and_self, ne_eq, decide_true, decide_false, Bool.not_true, Bool.not_false, if_true, if_false, reduceIte, xb_0, xb_1, xb_2, xb_3, xb_4, xb_5, xb_6, xb_7, xb_8, xb_9, xb_10, xb_11, xb_12, xb_13, xb_14, xb_15, xb_16, xb_17, xb_18, xb_19, xb_20, xb_21, xo_0, xo_1, xo_2, xo_3, xo_4, xo_5, xo_6, xo_7, xo_8, xo_9, xo_0 N.1, x_ofRoom N, x_ofDreams N]
  rw [a_all_split b]
theorem x_timesAsked {h : z_T} {o bo n t : Nat} {bk ans : Nat → Nat} (N : xNi h o bo bk ans n) (ht : t < 8) : fX2_timesAsked o (nI t) h = some (nI (a_tm ans t n)) := by
  obtain ⟨s, r, B, v⟩ := N
  refine p_of ?_
  unfold fX2_timesAsked fX2_timesAsked_b22
  simp (disch := first | assumption | omega) only [p_some, p_gd, p_br, p_bi, p_nm, p_mp, p_Sl, p_Sr, p_bis, p_gdt, q_IL, q_IR, q_LI, q_LR, q_RI, q_RL, q_KI, q_KL, q_KR, q_NI, q_NL, q_NR, q_nI, q_nL, q_nR, q_okI, q_okL, q_okR, q_Ie, q_In, q_Le, q_Ln, SM_I, SM_L, s_c0, s_cg0, s_cl0, s_cge, s_cle, r_le, r_lt, r_eq, r_md, r_2, r_3, r_lit, r_litL, r_m1, nI_add, nI_1, nI_clamp, nI_leI, nI_ltI, nI_eq, pk_sub, q_ix, nI_l, lN_add, lN_mul, r_m1n, r_m1n', r_m1lt, r_m1nlt, r_m1le, r_m1nle, Nat.not_lt_zero, Nat.reduceEqDiff, Nat.reduceLT, Nat.reduceLeDiff, true_and, and_true, true_implies, false_implies, not_true_eq_false, not_false_eq_true, implies_true, and_self, ne_eq, decide_true, decide_false, Bool.not_true, Bool.not_false, if_true, if_false, reduceIte, xb_0, xb_1, xb_2, xb_3, xb_4, xb_5, xb_6, xb_7, xb_8, xb_9, xb_10, xb_11, xb_12, xb_13, xb_14, xb_15, xb_16, xb_17, xb_18, xb_19, xb_20, xb_21, xo_0, xo_1, xo_2, xo_3, xo_4, xo_5, xo_6, xo_7, xo_8, xo_9, v.2.2.1, r_nlt0, show ¬ 8 ≤ t by omega]
theorem x_chance {h : z_T} {o bo n t q : Nat} {bk ans : Nat → Nat} (b : BOK bk) (N : xNi h o bo bk ans n) (hn : n ≤ 12) (ht : t < 8) (hq : q < 7) : fX2_chance o (nI t) (nI q) h = some (nI (a_od bk ans n q t)) := by
  have h3 := b.2.2.2.1
  have h7 := b.2.2.2.2.2.2.2.1
  have htm := a_tm_le ans t n
  have e1 : fX0_setting bo (nI 1) h = some (nI (bk 3)) := x_setting N.2.2.1 (k := 1) (by decide)
  have e5 : fX0_setting bo (nI 5) h = some (nI (bk 7)) := x_setting N.2.2.1 (k := 5) (by decide)
  refine p_of ?_
  unfold fX2_chance fX2_chance_b26 fX2_chance_b50 fX2_chance_b51 a_od
  simp (disch := first | assumption | omega) only [p_some, p_gd, p_br, p_bi, p_nm, p_mp, p_Sl, p_Sr, p_bis, p_gdt, q_IL, q_IR, q_LI, q_LR, q_RI, q_RL, q_KI, q_KL, q_KR, q_NI, q_NL, q_NR, q_nI, q_nL, q_nR, q_okI, q_okL, q_okR, q_Ie, q_In, q_Le, q_Ln, SM_I, SM_L, s_c0, s_cg0, s_cl0, s_cge, s_cle, r_le, r_lt, r_eq, r_md, r_2, r_3, r_lit, r_litL, r_m1, nI_add, nI_1, nI_clamp, nI_leI, nI_ltI, nI_eq, pk_sub, q_ix, nI_l, lN_add, lN_mul, r_m1n, r_m1n', r_m1lt, r_m1nlt, r_m1le, r_m1nle, Nat.not_lt_zero, Nat.reduceEqDiff, Nat.reduceLT, Nat.reduceLeDiff, true_and, and_true, true_implies, false_implies, not_true_eq_false, not_false_eq_true, implies_true, and_self, ne_eq, decide_true, decide_false, Bool.not_true, Bool.not_false, if_true, if_false, reduceIte, xb_0, xb_1, xb_2, xb_3, xb_4, xb_5, xb_6, xb_7, xb_8, xb_9, xb_10, xb_11, xb_12, xb_13, xb_14, xb_15, xb_16, xb_17, xb_18, xb_19, xb_20, xb_21, xo_0, xo_1, xo_2, xo_3, xo_4, xo_5, xo_6, xo_7, xo_8, xo_9, xo_0 N.1, N.2.1, xb_0 N.2.2.1.1, N.2.2.2.1, e1, e5, x_timesAsked N, x_plainChance N.2.2.1, x_inRoom N.2.2.1]
  have hp0 : a_pl bk 0 t = bk (8 + t) := by unfold a_pl; rw [if_pos (Or.inl rfl)]
  have key : (bk 7 = 1 → (a_tm ans t n ≤ 0 → nI (a_pl bk q t) = nI (if 0 < q ∧ bk 7 = 1 ∧ 0 < a_tm ans t n then bk (8 + t) else a_pl bk q t)) ∧ (¬ a_tm ans t n ≤ 0 → nI (bk (8 + t)) = nI (if 0 < q ∧ bk 7 = 1 ∧ 0 < a_tm ans t n then bk (8 + t) else a_pl bk q t))) ∧ (¬ bk 7 = 1 → nI (a_pl bk q t) = nI (if 0 < q ∧ bk 7 = 1 ∧ 0 < a_tm ans t n then bk (8 + t) else a_pl bk q t)) := by
    refine ⟨fun c4 => ⟨fun c5 => ?_, fun c5 => ?_⟩, fun c4 => ?_⟩
    · rw [if_neg (by omega)]
    · by_cases e : q = 0
      · subst e
        rw [hp0, if_neg (by omega)]
      · rw [if_pos ⟨by omega, c4, by omega⟩]
    · rw [if_neg (by omega)]
  refine ⟨fun c1 => ?_, fun c1 => ⟨fun c2 => ?_, fun c2 => ?_⟩⟩
  · rw [if_neg (by omega)]
    exact key
  · rw [if_neg (by omega)]
    exact key
  · rw [if_pos (by omega)]
theorem x_chanceOf {h : z_T} {o bo n t q st : Nat} {bk ans : Nat → Nat} (b : BOK bk) (N : xNi h o bo bk ans n) (hn : n ≤ 12) (ht : t < 8) (hq : q < 7) (hst : st < 2 ^ 31) : fX2_chanceOf o (nI t) (nI st) (nI q) h = some (nI (a_fa (a_od bk ans n q t) st)) := by
  have ho := b.od (ans := ans) (n := n) (q := q) ht
  refine p_of ?_
  unfold fX2_chanceOf a_fa
  simp (disch := first | assumption | omega) only [p_some, p_gd, p_br, p_bi, p_nm, p_mp, p_Sl, p_Sr, p_bis, p_gdt, q_IL, q_IR, q_LI, q_LR, q_RI, q_RL, q_KI, q_KL, q_KR, q_NI, q_NL, q_NR, q_nI, q_nL, q_nR, q_okI, q_okL, q_okR, q_Ie, q_In, q_Le, q_Ln, SM_I, SM_L, s_c0, s_cg0, s_cl0, s_cge, s_cle, r_le, r_lt, r_eq, r_md, r_2, r_3, r_lit, r_litL, r_m1, nI_add, nI_1, nI_clamp, nI_leI, nI_ltI, nI_eq, pk_sub, q_ix, nI_l, lN_add, lN_mul, r_m1n, r_m1n', r_m1lt, r_m1nlt, r_m1le, r_m1nle, Nat.not_lt_zero, Nat.reduceEqDiff, Nat.reduceLT, Nat.reduceLeDiff, true_and, and_true, true_implies, false_implies, not_true_eq_false, not_false_eq_true, implies_true, and_self, ne_eq, decide_true, decide_false, Bool.not_true, Bool.not_false, if_true, if_false, reduceIte, xb_0, xb_1, xb_2, xb_3, xb_4, xb_5, xb_6, xb_7, xb_8, xb_9, xb_10, xb_11, xb_12, xb_13, xb_14, xb_15, xb_16, xb_17, xb_18, xb_19, xb_20, xb_21, xo_0, xo_1, xo_2, xo_3, xo_4, xo_5, xo_6, xo_7, xo_8, xo_9, xo_0 N.1, x_chance b N]
  refine ⟨fun c => ?_, fun c => ?_⟩
  · rw [if_pos c]
  · rw [if_neg c]
