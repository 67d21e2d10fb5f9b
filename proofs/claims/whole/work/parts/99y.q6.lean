/-! the class's choice of a state, by depth -/
theorem x_choose {bo n : Nat} {bk : Nat → Nat} (b : BOK bk) (hn : n ≤ 4) (hb0 : bk 0 ≤ 6) : ∀ d r, r < d → xIH (fX5_choose d) bo bk n r := by
  intro d
  induction d with
  | zero => exact fun r h => absurd h (Nat.not_lt_zero _)
  | succ d ih =>
    intro r hr h x Q har hx s P R K k
    have h0 := s.1
    have hml := a_mk_lt (x := x)
    have bc := x_bits (a_mk x) (by omega)
    rw [a_mk_pc x hx] at bc
    have v5 : bk 5 * a_q bk x 0 ≤ 99 * 10628820 := Nat.mul_le_mul b.2.2.2.2.2.1 (a_q_le b (by decide))
    have v6 : bk 6 * a_q1 bk x 6 ≤ 99 * 63772920 := Nat.mul_le_mul b.2.2.2.2.2.2.1 (a_q1_le b)
    have cu : fX5_costOfUp 68 (nI (a_aq x 6)) h = some (lN (bk 6 * a_q1 bk x 6)) := x_costOfUp s b P (by omega) R
    have cb := x_costOfBed s b P (show a_aq x 6 < 5 by omega) R
    have pw := x_power (n := r) (by omega)
    have em : (if bk 5 * a_q bk x 0 < bk 6 * a_q1 bk x 6 then lN (bk 5 * a_q bk x 0) else lN (bk 6 * a_q1 bk x 6)) = lN (a_lf bk x) := by
      unfold a_lf
      by_cases c : bk 5 * a_q bk x 0 ≤ bk 6 * a_q1 bk x 6
      · rw [if_pos c]
        by_cases c2 : bk 5 * a_q bk x 0 = bk 6 * a_q1 bk x 6
        · rw [c2, if_neg (Nat.lt_irrefl _)]
        · rw [if_pos (by omega)]
      · rw [if_neg c, if_neg (by omega)]
    have er : n - a_aq x 6 = r := by omega
    have fin : ∀ h2, x_fr (xCc (a_aq x 6)) h h2 → xKI h2 bk n → xMk h h2 → ((a_V bk r x).2 = 6 ∨ (¬ z_I h2 78 (x + 3 ^ (a_V bk r x).2) = nI 0 ∧ ¬ z_I h2 78 (x + 2 * 3 ^ (a_V bk r x).2) = nI 0)) → p_W (fX5_choose_b126 (fX5_choose d) 68 (nI x) (lN (bk 6 * a_q1 bk x 6)) (lN (bk 5 * a_q bk x 0)) (lN (a_V bk r x).1) (a_cI (a_V bk r x).2) h2) Q := fun h2 f2 K2 M2 c2 => by
      have := x_chEnd (rc := fX5_choose d) (Q := Q) (f2.s s) b hx (show a_aq x 6 ≤ n by omega) K2 (by rw [er]; exact c2) (fun h3 f3 K3 M3 k3 => k h3 (f2.tr (f3.w (fun o k _ c => by unfold xCc at c; omega))) K3 (fun y hy => M3 y (M2 y hy)) k3)
      rw [er] at this
      exact this
    show p_W (fX5_choose_s (fX5_choose d) 68 (nI x) (nI (a_mk x)) (nI r) h) Q
    unfold fX5_choose_s
    simp (disch := first | assumption | omega) only [p_some, p_gd, p_br, p_bi, p_nm, p_mp, p_Sl, p_Sr, p_bis, p_gdt, q_IL, q_IR, q_LI, q_LR, q_RI, q_RL, q_KI, q_KL, q_KR, q_NI, q_NL, q_NR, q_nI, q_nL, q_nR, q_okI, q_okL, q_okR, q_Ie, q_In, q_Le, q_Ln, SM_I, SM_L, s_c0, s_cg0, s_cl0, s_cge, s_cle, r_le, r_lt, r_eq, r_md, r_2, r_3, r_lit, r_litL, r_m1, nI_add, nI_1, nI_clamp, nI_leI, nI_ltI, nI_eq, pk_sub, q_ix, nI_l, lN_add, lN_mul, r_m1n, r_m1n', r_m1lt, r_m1nlt, r_m1le, r_m1nle, Nat.not_lt_zero, Nat.reduceEqDiff, Nat.reduceLT, Nat.reduceLeDiff, true_and, and_true, true_implies, false_implies, not_true_eq_false, not_false_eq_true, implies_true, and_self, ne_eq, decide_true, decide_false, Bool.not_true, Bool.not_false, if_true, if_false, reduceIte, xb_0, xb_1, xb_2, xb_3, xb_4, xb_5, xb_6, xb_7, xb_8, xb_9, xb_10, xb_11, xb_12, xb_13, xb_14, xb_15, xb_16, xb_17, xb_18, xb_19, xb_20, xb_21, xo_0, xo_1, xo_2, xo_3, xo_4, xo_5, xo_6, xo_7, xo_8, xo_9, bc, x_isState hx, xk68 s, cu, cb, pw, show a_aq x 6 ≤ 4 by omega]
    rw [em, lN_mul]
    generalize hU : bk 6 * a_q1 bk x 6 = U at *
    generalize hD : bk 5 * a_q bk x 0 = D at *
    unfold fX5_choose_b56
    cases r with
    | zero =>
      refine p_for 0 (fun i w => w = (lN (a_V bk 0 x).1, m1, nI 0, h)) (fun i w hi _ => absurd hi (Nat.not_lt_zero _)) ?_ 0 (Nat.le_refl _) rfl
      rintro w rfl
      have ff := fin h x_fr.rf K (fun _ q => q) (Or.inl rfl)
      generalize (a_V bk 0 x).1 = V at *
      obtain ⟨r1, B, hb⟩ := P
      unfold fX5_choose_b56_i
      simp (disch := first | assumption | omega) only [p_some, p_gd, p_br, p_bi, p_nm, p_mp, p_Sl, p_Sr, p_bis, p_gdt, q_IL, q_IR, q_LI, q_LR, q_RI, q_RL, q_KI, q_KL, q_KR, q_NI, q_NL, q_NR, q_nI, q_nL, q_nR, q_okI, q_okL, q_okR, q_Ie, q_In, q_Le, q_Ln, SM_I, SM_L, s_c0, s_cg0, s_cl0, s_cge, s_cle, r_le, r_lt, r_eq, r_md, r_2, r_3, r_lit, r_litL, r_m1, nI_add, nI_1, nI_clamp, nI_leI, nI_ltI, nI_eq, pk_sub, q_ix, nI_l, lN_add, lN_mul, r_m1n, r_m1n', r_m1lt, r_m1nlt, r_m1le, r_m1nle, Nat.not_lt_zero, Nat.reduceEqDiff, Nat.reduceLT, Nat.reduceLeDiff, true_and, and_true, true_implies, false_implies, not_true_eq_false, not_false_eq_true, implies_true, and_self, ne_eq, decide_true, decide_false, Bool.not_true, Bool.not_false, if_true, if_false, reduceIte, xb_0, xb_1, xb_2, xb_3, xb_4, xb_5, xb_6, xb_7, xb_8, xb_9, xb_10, xb_11, xb_12, xb_13, xb_14, xb_15, xb_16, xb_17, xb_18, xb_19, xb_20, xb_21, xo_0, xo_1, xo_2, xo_3, xo_4, xo_5, xo_6, xo_7, xo_8, xo_9, xk68 s, r1, xb_0 B.1, B.2.1]
      refine ⟨fun _ => ff, fun _ => ff⟩
    | succ r =>
      have IH := ih r (by omega)
      have hv : a_lf bk x * 9 ^ (r + 1) ≤ 6903833114000 := Nat.le_trans (Nat.mul_le_mul (a_lf_le b) (Nat.pow_le_pow_right (by decide) (show r + 1 ≤ 4 by omega))) (by decide)
      rw [a_V_s] at fin
      generalize a_lf bk x * 9 ^ (r + 1) = v0 at *
      refine p_for (bk 0) (fun i w => ∃ h2, w = (lN (a_fd (fun y => (a_V bk r y).1) x v0 i).1, a_cI (a_fd (fun y => (a_V bk r y).1) x v0 i).2, nI i, h2) ∧ x_fr (xCc (a_aq x 6)) h h2 ∧ xKI h2 bk n ∧ xMk h h2 ∧ ((a_fd (fun y => (a_V bk r y).1) x v0 i).2 = 6 ∨ (¬ z_I h2 78 (x + 3 ^ (a_fd (fun y => (a_V bk r y).1) x v0 i).2) = nI 0 ∧ ¬ z_I h2 78 (x + 2 * 3 ^ (a_fd (fun y => (a_V bk r y).1) x v0 i).2) = nI 0))) ?_ ?_ 0 (by omega) ⟨h, rfl, x_fr.rf, K, fun _ q => q, Or.inl rfl⟩
      · rintro i w hi ⟨h2, rfl, f2, K2, M2, C2⟩
        have s2 := f2.s s
        have P2 := P.fr s f2 (by unfold xCc; omega) (fun j k hj => by have := P.2.2; unfold xCc; omega)
        have R2 : xRw h2 bk x := fun q hq => (f2.L _ q (by omega) (by unfold xCc; omega)).trans (R q hq)
        have r1 := P2.1
        have B := P2.2.1
        have h02 := s2.1
        have le := a_fd_le (f := fun y => (a_V bk r y).1) (x := x) (v0 := v0) i
        have ft := a_fd_t (f := fun y => (a_V bk r y).1) (x := x) (v0 := v0) (i := i)
        have fn := a_fd_f (f := fun y => (a_V bk r y).1) (x := x) (v0 := v0) (i := i)
        have b1 : (a_V bk r (x + 3 ^ i)).1 ≤ 6903833114000 := a_V_b b (by omega)
        have b2 : (a_V bk r (x + 2 * 3 ^ i)).1 ≤ 6903833114000 := a_V_b b (by omega)
        have CB1 := fun hd0 Q' k' => x_costBehind (rc := fX5_choose d) (e := 1) (Q := Q') IH s2 b P2 hn hx (by omega) (show i < 6 by omega) hd0 (Or.inl rfl) R2 K2 k'
        have CB2 := fun hd0 h3 (f3 : x_fr (xCc (a_aq x 6)) h2 h3) K3 Q' k' => x_costBehind (rc := fX5_choose d) (e := 0) (Q := Q') (h := h3) IH (f3.s s2) b (P2.fr s2 f3 (by unfold xCc; omega) (fun j k hj => by have := P.2.2; unfold xCc; omega)) hn hx (by omega) (show i < 6 by omega) hd0 (Or.inr rfl) (fun q hq => (f3.L _ q (by omega) (by unfold xCc; omega)).trans (R2 q hq)) K3 k'
        rw [if_pos rfl, Nat.one_mul] at CB1
        rw [if_neg (show ¬ 0 = 1 by decide)] at CB2
        generalize a_fd (fun y => (a_V bk r y).1) x v0 i = t at *
        generalize a_fd (fun y => (a_V bk r y).1) x v0 (i + 1) = t' at *
        generalize (a_V bk r (x + 3 ^ i)).1 = V1 at *
        generalize (a_V bk r (x + 2 * 3 ^ i)).1 = V2 at *
        unfold fX5_choose_b56_i
        by_cases hd0 : a_dg x i = 0
        · have tb : (a_mk x).testBit i = false := by rw [a_mk_tb (show i < 6 by omega)]; exact hd0
          simp (disch := first | assumption | omega) only [p_some, p_gd, p_br, p_bi, p_nm, p_mp, p_Sl, p_Sr, p_bis, p_gdt, Nat.not_lt_zero, Nat.reduceEqDiff, Nat.reduceLT, Nat.reduceLeDiff, true_and, and_true, true_implies, false_implies, not_true_eq_false, not_false_eq_true, implies_true, and_self, ne_eq, decide_true, decide_false, Bool.not_true, Bool.not_false, if_true, if_false, reduceIte, xk68 s2, r1, xb_0 B.1, B.2.1, r_lit, nI_leI, show ¬ r + 1 ≤ 0 by omega, show ¬ bk 0 ≤ i by omega, r_shl, s_tb, tb]
          refine CB1 hd0 _ (fun h3 f3 K3 M3 k3 => ?_)
          have s3 := f3.s s2
          simp (disch := first | assumption | omega) only [p_some, p_gd, p_br, p_bi, p_nm, p_mp, p_Sl, p_Sr, p_bis, p_gdt, Nat.not_lt_zero, Nat.reduceEqDiff, Nat.reduceLT, Nat.reduceLeDiff, true_and, and_true, true_implies, false_implies, not_true_eq_false, not_false_eq_true, implies_true, and_self, ne_eq, decide_true, decide_false, Bool.not_true, Bool.not_false, if_true, if_false, reduceIte, xk68 s3]
          refine CB2 hd0 h3 f3 K3 _ (fun h4 f4 K4 M4 k4 => ?_)
          have f5 := f2.tr (f3.tr f4)
          unfold fX5_choose_b120
          simp (disch := first | assumption | omega) only [p_some, p_gd, p_br, p_bi, p_nm, p_mp, p_Sl, p_Sr, p_bis, p_gdt, q_IL, q_IR, q_LI, q_LR, q_RI, q_RL, q_KI, q_KL, q_KR, q_NI, q_NL, q_NR, q_nI, q_nL, q_nR, q_okI, q_okL, q_okR, q_Ie, q_In, q_Le, q_Ln, SM_I, SM_L, s_c0, s_cg0, s_cl0, s_cge, s_cle, r_le, r_lt, r_eq, r_md, r_2, r_3, r_lit, r_litL, r_m1, nI_add, nI_1, nI_clamp, nI_leI, nI_ltI, nI_eq, pk_sub, q_ix, nI_l, lN_add, lN_mul, r_m1n, r_m1n', r_m1lt, r_m1nlt, r_m1le, r_m1nle, Nat.not_lt_zero, Nat.reduceEqDiff, Nat.reduceLT, Nat.reduceLeDiff, true_and, and_true, true_implies, false_implies, not_true_eq_false, not_false_eq_true, implies_true, and_self, ne_eq, decide_true, decide_false, Bool.not_true, Bool.not_false, if_true, if_false, reduceIte, xb_0, xb_1, xb_2, xb_3, xb_4, xb_5, xb_6, xb_7, xb_8, xb_9, xb_10, xb_11, xb_12, xb_13, xb_14, xb_15, xb_16, xb_17, xb_18, xb_19, xb_20, xb_21, xo_0, xo_1, xo_2, xo_3, xo_4, xo_5, xo_6, xo_7, xo_8, xo_9]
          refine ⟨fun c => ?_, fun c => ?_⟩
          · have e := fn (fun q => by omega)
            rw [e]
            exact ⟨h4, rfl, f5, K4, fun y hy => M4 y (M3 y (M2 y hy)), C2.imp id (fun q => ⟨M4 _ (M3 _ q.1), M4 _ (M3 _ q.2)⟩)⟩
          · have e := ft hd0 (by omega)
            rw [e, a_cI_n (by omega)]
            exact ⟨h4, rfl, f5, K4, fun y hy => M4 y (M3 y (M2 y hy)), Or.inr ⟨M4 _ k3, k4⟩⟩
        · have tb : ¬ (a_mk x).testBit i = false := by rw [a_mk_tb (show i < 6 by omega)]; exact hd0
          have e := fn (fun q => hd0 q.1)
          simp (disch := first | assumption | omega) only [p_some, p_gd, p_br, p_bi, p_nm, p_mp, p_Sl, p_Sr, p_bis, p_gdt, Nat.not_lt_zero, Nat.reduceEqDiff, Nat.reduceLT, Nat.reduceLeDiff, true_and, and_true, true_implies, false_implies, not_true_eq_false, not_false_eq_true, implies_true, and_self, ne_eq, decide_true, decide_false, Bool.not_true, Bool.not_false, if_true, if_false, reduceIte, xk68 s2, r1, xb_0 B.1, B.2.1, r_lit, nI_leI, show ¬ r + 1 ≤ 0 by omega, show ¬ bk 0 ≤ i by omega, r_shl, s_tb, tb]
          unfold fX5_choose_b120
          simp (disch := first | assumption | omega) only [p_some, p_gd, p_br, p_bi, p_nm, p_mp, p_Sl, p_Sr, p_bis, p_gdt, Nat.not_lt_zero, Nat.reduceEqDiff, Nat.reduceLT, Nat.reduceLeDiff, true_and, and_true, true_implies, false_implies, not_true_eq_false, not_false_eq_true, implies_true, and_self, ne_eq, decide_true, decide_false, Bool.not_true, Bool.not_false, if_true, if_false, reduceIte, r_lit, nI_add, nI_1]
          rw [e]
          exact ⟨fun q => absurd q (by decide), fun _ => ⟨h2, rfl, f2, K2, M2, C2⟩⟩
      · rintro w ⟨h2, rfl, f2, K2, M2, C2⟩
        have s2 := f2.s s
        have P2 := P.fr s f2 (by unfold xCc; omega) (fun j k hj => by have := P.2.2; unfold xCc; omega)
        have ff := fin h2 f2 K2 M2 C2
        generalize a_fd (fun y => (a_V bk r y).1) x v0 (bk 0) = t at *
        obtain ⟨r1, B, -⟩ := P2
        unfold fX5_choose_b56_i
        simp (disch := first | assumption | omega) only [p_some, p_gd, p_br, p_bi, p_nm, p_mp, p_Sl, p_Sr, p_bis, p_gdt, q_IL, q_IR, q_LI, q_LR, q_RI, q_RL, q_KI, q_KL, q_KR, q_NI, q_NL, q_NR, q_nI, q_nL, q_nR, q_okI, q_okL, q_okR, q_Ie, q_In, q_Le, q_Ln, SM_I, SM_L, s_c0, s_cg0, s_cl0, s_cge, s_cle, r_le, r_lt, r_eq, r_md, r_2, r_3, r_lit, r_litL, r_m1, nI_add, nI_1, nI_clamp, nI_leI, nI_ltI, nI_eq, pk_sub, q_ix, nI_l, lN_add, lN_mul, r_m1n, r_m1n', r_m1lt, r_m1nlt, r_m1le, r_m1nle, Nat.not_lt_zero, Nat.reduceEqDiff, Nat.reduceLT, Nat.reduceLeDiff, true_and, and_true, true_implies, false_implies, not_true_eq_false, not_false_eq_true, implies_true, and_self, ne_eq, decide_true, decide_false, Bool.not_true, Bool.not_false, if_true, if_false, reduceIte, xb_0, xb_1, xb_2, xb_3, xb_4, xb_5, xb_6, xb_7, xb_8, xb_9, xb_10, xb_11, xb_12, xb_13, xb_14, xb_15, xb_16, xb_17, xb_18, xb_19, xb_20, xb_21, xo_0, xo_1, xo_2, xo_3, xo_4, xo_5, xo_6, xo_7, xo_8, xo_9, xk68 s2, r1, xb_0 B.1, B.2.1, Nat.le_refl]
        exact ff
