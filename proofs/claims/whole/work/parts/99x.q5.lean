/-! the class chooses, all depths -/
theorem s_nar0 : vp_nar .boolean (nI 0) = nI 0 := by decide
theorem x_chEnd {rc : Nat → Int32 → Int32 → Int32 → z_T → Option z_T} {h : z_T} {bk : Nat → Nat} {n x : Nat} {Q : z_T → Prop} (s : SX h) (b : BOK bk) (hx : x < 729) (ha : a_aq x 6 ≤ n) (K : xKI h bk n) (hc : (a_V bk (n - a_aq x 6) x).2 = 6 ∨ (¬ z_I h 78 (x + 3 ^ (a_V bk (n - a_aq x 6) x).2) = nI 0 ∧ ¬ z_I h 78 (x + 2 * 3 ^ (a_V bk (n - a_aq x 6) x).2) = nI 0))
    (k : ∀ h', x_fr (fun o _ => o < 75 ∨ 79 ≤ o) h h' → xKI h' bk n → xMk h h' → ¬ z_I h' 78 x = nI 0 → Q h') :
    p_W (fX5_choose_b126 rc 68 (nI x) (lN (bk 6 * a_q1 bk x 6)) (lN (bk 5 * a_q bk x 0)) (lN (a_V bk (n - a_aq x 6) x).1) (a_cI (a_V bk (n - a_aq x 6) x).2) h) Q := by
  have h0 := s.1
  have v5 : bk 5 * a_q bk x 0 ≤ 99 * 10628820 := Nat.mul_le_mul b.2.2.2.2.2.1 (a_q_le b (by decide))
  have v6 : bk 6 * a_q1 bk x 6 ≤ 99 * 63772920 := Nat.mul_le_mul b.2.2.2.2.2.2.1 (a_q1_le b)
  have eu : a_ub bk x = if bk 5 * a_q bk x 0 < bk 6 * a_q1 bk x 6 then nI 0 else nI 1 := rfl
  have hm0 : ∀ y, ¬ z_I h 78 y = nI 0 → ¬ z_I (z_sI h 78 x (nI 1)) 78 y = nI 0 := fun y hy => by
    by_cases e : y = x
    · rw [q_Ie rfl e]; decide
    · rw [q_In (by omega)]; exact hy
  have fin : ∀ u, u = a_ub bk x → Q (z_sI (z_sI (z_sL (z_sI h 78 x (nI 1)) 75 x (lN (a_V bk (n - a_aq x 6) x).1)) 76 x (a_cI (a_V bk (n - a_aq x 6) x).2)) 77 x u) := fun u hu => by
    have hm : xMk h (z_sI (z_sI (z_sL (z_sI h 78 x (nI 1)) 75 x (lN (a_V bk (n - a_aq x 6) x).1)) 76 x (a_cI (a_V bk (n - a_aq x 6) x).2)) 77 x u) := fun y hy => by
      rw [q_In (by omega), q_In (by omega)]
      exact hm0 y hy
    refine k _ ((((x_fr.rf.sI (fun _ => by omega)).sL (fun _ => by omega)).sI (fun _ => by omega)).sI (fun _ => by omega)) (fun y hy hk => ?_) hm ?_
    · by_cases e : y = x
      · subst e
        refine ⟨ha, ?_, ?_, ?_, ?_⟩
        · exact q_Le rfl rfl
        · rw [q_In (by omega), q_Ie rfl rfl]
        · rw [q_Ie rfl rfl, hu]
        · exact hc.imp id (fun q => ⟨hm _ q.1, hm _ q.2⟩)
      · have hk2 : ¬ z_I h 78 y = nI 0 := fun q => hk (by
          rw [q_In (by omega), q_In (by omega)]
          show z_I (z_sI h 78 x (nI 1)) 78 y = nI 0
          rw [q_In (by omega)]
          exact q)
        obtain ⟨a1, a2, a3, a4, a5⟩ := K y hy hk2
        refine ⟨a1, ?_, ?_, ?_, a5.imp id (fun q => ⟨hm _ q.1, hm _ q.2⟩)⟩
        · show z_L (z_sL (z_sI h 78 x (nI 1)) 75 x _) 75 y = _
          rw [q_Ln (by omega)]
          exact a2
        · rw [q_In (by omega), q_In (by omega)]
          show z_I (z_sI h 78 x (nI 1)) 76 y = _
          rw [q_In (by omega)]
          exact a3
        · rw [q_In (by omega), q_In (by omega)]
          show z_I (z_sI h 78 x (nI 1)) 77 y = _
          rw [q_In (by omega)]
          exact a4
    · rw [q_In (by omega), q_In (by omega)]
      show ¬ z_I (z_sI h 78 x (nI 1)) 78 x = nI 0
      rw [q_Ie rfl rfl]
      decide
  generalize (a_V bk (n - a_aq x 6) x).1 = V at *
  generalize a_cI (a_V bk (n - a_aq x 6) x).2 = c at *
  unfold fX5_choose_b126
  simp (disch := first | assumption | omega) only [p_some, p_gd, p_br, p_bi, p_nm, p_mp, p_Sl, p_Sr, p_bis, p_gdt, q_IL, q_IR, q_LI, q_LR, q_RI, q_RL, q_KI, q_KL, q_KR, q_NI, q_NL, q_NR, q_nI, q_nL, q_nR, q_okI, q_okL, q_okR, q_Ie, q_In, q_Le, q_Ln, SM_I, SM_L, s_c0, s_cg0, s_cl0, s_cge, s_cle, r_le, r_lt, r_eq, r_md, r_2, r_3, r_lit, r_litL, r_m1, nI_add, nI_1, nI_clamp, nI_leI, nI_ltI, nI_eq, pk_sub, q_ix, nI_l, lN_add, lN_mul, r_m1n, r_m1n', r_m1lt, r_m1nlt, r_m1le, r_m1nle, Nat.not_lt_zero, Nat.reduceEqDiff, Nat.reduceLT, Nat.reduceLeDiff, true_and, and_true, true_implies, false_implies, not_true_eq_false, not_false_eq_true, implies_true, and_self, ne_eq, decide_true, decide_false, Bool.not_true, Bool.not_false, if_true, if_false, reduceIte, xb_0, xb_1, xb_2, xb_3, xb_4, xb_5, xb_6, xb_7, xb_8, xb_9, xb_10, xb_11, xb_12, xb_13, xb_14, xb_15, xb_16, xb_17, xb_18, xb_19, xb_20, xb_21, xo_0, xo_1, xo_2, xo_3, xo_4, xo_5, xo_6, xo_7, xo_8, xo_9, xk68 s, xr68_1 s, xr68_2 s, xr68_3 s, xr68_4 s, xk75 s, xk76 s, xk77 s, xk78 s, xn75 s, xn76 s, xn77 s, xn78 s, s_nar0, s_nar1, r_cmpg0]
  refine ⟨fun q => ?_, fun q => ?_⟩
  · exact fin _ (by rw [eu, if_pos q])
  · exact fin _ (by rw [eu, if_neg (by omega)])
