/-! a night of the class: drawn -/
def a_dt (bk : Nat → Nat) (x : Int32) : Nat := a_v (a_nx x) % bk 0
def a_ds (bk ans : Nat → Nat) (q : Nat) (x : Int32) (i : Nat) : Nat := if a_v (a_nx (a_nx x)) % 9 < a_od bk ans i q (a_dt bk x) then 1 else 0
theorem a_ds_lt (bk ans : Nat → Nat) (q : Nat) (x : Int32) (i : Nat) : a_ds bk ans q x i < 2 := by unfold a_ds; split <;> omega
theorem xNi.x5 {h : z_T} {o bo n : Nat} {bk ans : Nat → Nat} {v : Int32} (N : xNi h o bo bk ans n) (ho : isN o) (hb : bo = 1 ∨ 83 ≤ bo) : xNi (z_sI h o 5 v) o bo bk ans n ∧ x_fr (nC o) h (z_sI h o 5 v) := by
  have hd : bo + 7 < o ∨ o + 3 < bo := by unfold isN at ho; omega
  have f : x_fr (nC o) h (z_sI h o 5 v) := x_fr.rf.sI (fun _ => by unfold nC; omega)
  exact ⟨⟨N.1.fr f ho, N.2.1, N.2.2.1.fr f hb (fun j k hj => by unfold nC; omega), (q_In (by omega)).trans N.2.2.2.1, fun i hi => (q_In (by omega)).trans (N.2.2.2.2.1 i hi), fun t ht => (q_In (by omega)).trans (N.2.2.2.2.2.1 t ht), N.2.2.2.2.2.2⟩, f⟩
theorem x_drawStep {h : z_T} {o bo i q n t v9 : Nat} {bk ans : Nat → Nat} {x x1 x2 : Int32} {R : Int32 × z_T → Prop} {Q : Int32 × z_T → Prop} (b : BOK bk) (N : xNi h o bo bk ans i) (x5 : z_I h o 5 = x) (e1 : a_nx x = x1) (e2 : a_nx x1 = x2) (et : a_v x1 % bk 0 = t) (e9 : a_v x2 % 9 = v9) (hi : i < n) (hn : n ≤ 12) (h0 : 0 < bk 0) (hq : q < 7) (ho : isN o) (hb : bo = 1 ∨ 83 ≤ bo)
    (k : ∀ h', x_fr (nC o) h h' → z_I h' o 5 = x2 → xNi h' o bo bk (a_u ans i (2 * t + if v9 < a_od bk ans i q t then 1 else 0)) (i + 1) → R (nI (i + 1), h')) : p_W (fX2_draw_b21_i o (nI n) (nI q) (nI i) h) (p_S R Q) := by
  have h8 := b.1
  have htm : t < bk 0 := by rw [← et]; exact Nat.mod_lt _ h0
  have h9 : v9 < 9 := by rw [← e9]; exact Nat.mod_lt _ (by decide)
  unfold fX2_draw_b21_i
  simp (disch := first | assumption | omega) only [p_some, p_gd, p_br, p_bi, p_nm, p_mp, p_Sl, p_Sr, p_bis, p_gdt, q_IL, q_IR, q_LI, q_LR, q_RI, q_RL, q_KI, q_KL, q_KR, q_NI, q_NL, q_NR, q_nI, q_nL, q_nR, q_okI, q_okL, q_okR, q_Ie, q_In, q_Le, q_Ln, SM_I, SM_L, s_c0, s_cg0, s_cl0, s_cge, s_cle, r_le, r_lt, r_eq, r_md, r_2, r_3, r_lit, r_litL, r_m1, nI_add, nI_1, nI_clamp, nI_leI, nI_ltI, nI_eq, pk_sub, q_ix, nI_l, lN_add, lN_mul, r_m1n, r_m1n', r_m1lt, r_m1nlt, r_m1le, r_m1nle, Nat.not_lt_zero, Nat.reduceEqDiff, Nat.reduceLT, Nat.reduceLeDiff, true_and, and_true, true_implies, false_implies, not_true_eq_false, not_false_eq_true, implies_true, and_self, ne_eq, decide_true, decide_false, Bool.not_true, Bool.not_false, if_true, if_false, reduceIte, xb_0, xb_1, xb_2, xb_3, xb_4, xb_5, xb_6, xb_7, xb_8, xb_9, xb_10, xb_11, xb_12, xb_13, xb_14, xb_15, xb_16, xb_17, xb_18, xb_19, xb_20, xb_21, xo_0, xo_1, xo_2, xo_3, xo_4, xo_5, xo_6, xo_7, xo_8, xo_9, xo_0 N.1, N.2.1, xb_0 N.2.2.1.1, N.2.2.1.2.1, show ¬ n ≤ i by omega]
  refine x_drawBelow N.1 h0 (by omega) ?_
  rw [x5, e1, et]
  obtain ⟨N1, f1⟩ := N.x5 (v := x1) ho hb
  have y1 : z_I (z_sI h o 5 x1) o 5 = x1 := q_Ie rfl rfl
  generalize z_sI h o 5 x1 = h1 at N1 f1 y1 ⊢
  simp (disch := first | assumption | omega) only [p_some, p_gd, p_br, p_bi, p_nm, p_mp, p_Sl, p_Sr, p_bis, p_gdt, q_IL, q_IR, q_LI, q_LR, q_RI, q_RL, q_KI, q_KL, q_KR, q_NI, q_NL, q_NR, q_nI, q_nL, q_nR, q_okI, q_okL, q_okR, q_Ie, q_In, q_Le, q_Ln, SM_I, SM_L, s_c0, s_cg0, s_cl0, s_cge, s_cle, r_le, r_lt, r_eq, r_md, r_2, r_3, r_lit, r_litL, r_m1, nI_add, nI_1, nI_clamp, nI_leI, nI_ltI, nI_eq, pk_sub, q_ix, nI_l, lN_add, lN_mul, r_m1n, r_m1n', r_m1lt, r_m1nlt, r_m1le, r_m1nle, Nat.not_lt_zero, Nat.reduceEqDiff, Nat.reduceLT, Nat.reduceLeDiff, true_and, and_true, true_implies, false_implies, not_true_eq_false, not_false_eq_true, implies_true, and_self, ne_eq, decide_true, decide_false, Bool.not_true, Bool.not_false, if_true, if_false, reduceIte, xb_0, xb_1, xb_2, xb_3, xb_4, xb_5, xb_6, xb_7, xb_8, xb_9, xb_10, xb_11, xb_12, xb_13, xb_14, xb_15, xb_16, xb_17, xb_18, xb_19, xb_20, xb_21, xo_0, xo_1, xo_2, xo_3, xo_4, xo_5, xo_6, xo_7, xo_8, xo_9, xo_0 N1.1]
  refine x_drawBelow (m := 9) N1.1 (by decide) (by decide) ?_
  rw [y1, e2, e9]
  obtain ⟨N2, f2⟩ := N1.x5 (v := x2) ho hb
  have y2 : z_I (z_sI h1 o 5 x2) o 5 = x2 := q_Ie rfl rfl
  generalize z_sI h1 o 5 x2 = h2 at N2 f2 y2 ⊢
  have hod := b.od (ans := ans) (n := i) (q := q) (t := t) (by omega)
  have hch := x_chance b N2 (t := t) (q := q) (by omega) (by omega) hq
  unfold fX2_draw_b64
  simp (disch := first | assumption | omega) only [p_some, p_gd, p_br, p_bi, p_nm, p_mp, p_Sl, p_Sr, p_bis, p_gdt, q_IL, q_IR, q_LI, q_LR, q_RI, q_RL, q_KI, q_KL, q_KR, q_NI, q_NL, q_NR, q_nI, q_nL, q_nR, q_okI, q_okL, q_okR, q_Ie, q_In, q_Le, q_Ln, SM_I, SM_L, s_c0, s_cg0, s_cl0, s_cge, s_cle, r_le, r_lt, r_eq, r_md, r_2, r_3, r_lit, r_litL, r_m1, nI_add, nI_1, nI_clamp, nI_leI, nI_ltI, nI_eq, pk_sub, q_ix, nI_l, lN_add, lN_mul, r_m1n, r_m1n', r_m1lt, r_m1nlt, r_m1le, r_m1nle, Nat.not_lt_zero, Nat.reduceEqDiff, Nat.reduceLT, Nat.reduceLeDiff, true_and, and_true, true_implies, false_implies, not_true_eq_false, not_false_eq_true, implies_true, and_self, ne_eq, decide_true, decide_false, Bool.not_true, Bool.not_false, if_true, if_false, reduceIte, xb_0, xb_1, xb_2, xb_3, xb_4, xb_5, xb_6, xb_7, xb_8, xb_9, xb_10, xb_11, xb_12, xb_13, xb_14, xb_15, xb_16, xb_17, xb_18, xb_19, xb_20, xb_21, xo_0, xo_1, xo_2, xo_3, xo_4, xo_5, xo_6, xo_7, xo_8, xo_9, xo_0 N2.1, hch]
  refine ⟨fun c => ?_, fun c => ?_⟩
  · rw [if_neg (by omega)] at k
    exact x_add (st := 0) b N2 (by omega) htm (by decide) ho hb (fun h3 f3 y3 N3 => k h3 ((f1.tr f2).tr f3) (y3.trans y2) N3)
  · rw [if_pos (by omega)] at k
    exact x_add (st := 1) b N2 (by omega) htm (by decide) ho hb (fun h3 f3 y3 N3 => k h3 ((f1.tr f2).tr f3) (y3.trans y2) N3)
theorem a_dt_e (bk : Nat → Nat) (x : Int32) : a_v (a_nx x) % bk 0 = a_dt bk x := by unfold a_dt; rfl
theorem a_ds_e (bk ans : Nat → Nat) (q : Nat) (x : Int32) (i : Nat) : (if a_v (a_nx (a_nx x)) % 9 < a_od bk ans i q (a_dt bk x) then 1 else 0) = a_ds bk ans q x i := by unfold a_ds; rfl
theorem a_dr_s (bk : Nat → Nat) (q : Nat) (x0 : Int32) (i : Nat) : a_dr bk q x0 (i + 1) = (a_nx (a_nx (a_dr bk q x0 i).1), a_u (a_dr bk q x0 i).2 i (2 * a_dt bk (a_dr bk q x0 i).1 + a_ds bk (a_dr bk q x0 i).2 q (a_dr bk q x0 i).1 i)) := rfl
theorem x_draws {h : z_T} {o bo q n : Nat} {bk : Nat → Nat} {x : Int32} {Q : Int32 × z_T → Prop} (b : BOK bk) (N : xNi h o bo bk (fun _ => 0) 0) (x5 : z_I h o 5 = x) (hn : n ≤ 12) (h0 : n = 0 ∨ 0 < bk 0) (hq : q < 7) (ho : isN o) (hb : bo = 1 ∨ 83 ≤ bo)
    (k : ∀ h', x_fr (nC o) h h' → xNi h' o bo bk (a_dr bk q x n).2 n → Q (nI q, h')) : p_W (fX2_draw_b21 o (nI n) (nI q) (nI 0) h) Q := by
  unfold fX2_draw_b21
  refine p_for n (fun i w => w.1 = nI i ∧ x_fr (nC o) h w.2 ∧ z_I w.2 o 5 = (a_dr bk q x i).1 ∧ xNi w.2 o bo bk (a_dr bk q x i).2 i) ?_ ?_ 0 (by omega) ⟨rfl, x_fr.rf, x5, N⟩
  · rintro i ⟨y, h4⟩ hi ⟨e1, f4, x4, N4⟩
    dsimp only at e1 f4 x4 N4
    subst e1
    refine x_drawStep b N4 x4 rfl rfl (a_dt_e _ _) rfl hi hn (by omega) hq ho hb (fun h5 f5 y5 N5 => ⟨rfl, f4.tr f5, ?_, ?_⟩)
    · rw [a_dr_s]; exact y5
    · rw [a_ds_e] at N5
      rw [a_dr_s]; exact N5
  · rintro ⟨y, h4⟩ ⟨e1, f4, x4, N4⟩
    dsimp only at e1 f4 x4 N4
    subst e1
    unfold fX2_draw_b21_i
    simp (disch := first | assumption | omega) only [p_some, p_gd, p_br, p_bi, p_nm, p_mp, p_Sl, p_Sr, p_bis, p_gdt, q_IL, q_IR, q_LI, q_LR, q_RI, q_RL, q_KI, q_KL, q_KR, q_NI, q_NL, q_NR, q_nI, q_nL, q_nR, q_okI, q_okL, q_okR, q_Ie, q_In, q_Le, q_Ln, SM_I, SM_L, s_c0, s_cg0, s_cl0, s_cge, s_cle, r_le, r_lt, r_eq, r_md, r_2, r_3, r_lit, r_litL, r_m1, nI_add, nI_1, nI_clamp, nI_leI, nI_ltI, nI_eq, pk_sub, q_ix, nI_l, lN_add, lN_mul, r_m1n, r_m1n', r_m1lt, r_m1nlt, r_m1le, r_m1nle, Nat.not_lt_zero, Nat.reduceEqDiff, Nat.reduceLT, Nat.reduceLeDiff, true_and, and_true, true_implies, false_implies, not_true_eq_false, not_false_eq_true, implies_true, and_self, ne_eq, decide_true, decide_false, Bool.not_true, Bool.not_false, if_true, if_false, reduceIte, xb_0, xb_1, xb_2, xb_3, xb_4, xb_5, xb_6, xb_7, xb_8, xb_9, xb_10, xb_11, xb_12, xb_13, xb_14, xb_15, xb_16, xb_17, xb_18, xb_19, xb_20, xb_21, xo_0, xo_1, xo_2, xo_3, xo_4, xo_5, xo_6, xo_7, xo_8, xo_9, Nat.le_refl]
    exact k h4 f4 N4
/-- one is always somewhere -/
theorem a_pick_in (w : Nat → Nat) : ∀ f q r, r < sumN (fun j => w (q + j)) f → a_pick w f q r < q + f ∧ 0 < w (a_pick w f q r)
  | 0, q, r, h => absurd h (Nat.not_lt_zero _)
  | f + 1, q, r, h => by
    rw [a_pick]
    rw [sumN_head] at h
    have h : r < w q + sumN (fun j => w (q + (j + 1))) f := h
    split
    · have e : sumN (fun j => w (q + (j + 1))) f = sumN (fun j => w (q + 1 + j)) f := sumN_congr (fun i _ => by rw [show q + (i + 1) = q + 1 + i by omega])
      have := a_pick_in w f (q + 1) (r - w q) (by omega)
      exact ⟨by omega, this.2⟩
    · exact ⟨by omega, by omega⟩
theorem a_dq_in {bk : Nat → Nat} (b : BOK bk) (x : Int32) : a_dq bk x ≤ bk 1 ∧ 0 < a_w bk (a_dq bk x) := by
  have h := a_pick_in (a_w bk) 7 0 (a_v (a_nx x) % sumN (a_w bk) 7) (by
    have := Nat.mod_lt (a_v (a_nx x)) b.wpos
    rw [show sumN (fun j => a_w bk (0 + j)) 7 = sumN (a_w bk) 7 from sumN_congr (fun i _ => by rw [Nat.zero_add])]
    exact this)
  refine ⟨?_, h.2⟩
  have h2 := a_dq_lt bk x
  by_cases c : bk 1 < a_dq bk x
  · have := b.w0 h2 c
    have h3 : 0 < a_w bk (a_dq bk x) := h.2
    omega
  · omega
theorem x_draw {h : z_T} {o bo n0 n : Nat} {bk ans0 : Nat → Nat} {Q : Int32 × z_T → Prop} (b : BOK bk) (N : xNi h o bo bk ans0 n0) (hn : n ≤ 12) (ht : n = 0 ∨ 0 < bk 0) (ho : isN o) (hb : bo = 1 ∨ 83 ≤ bo) (x : Int32)
    (k : ∀ h', x_fr (fun a k => nC o a k ∧ (a ≠ o ∨ k ≠ 0)) h h' → xNi h' o bo bk (a_da bk x n) n → Q (nI (a_dq bk x), h')) : p_W (fX2_draw o (nI n) x h) Q := by
  have h0 := b.1
  unfold fX2_draw
  simp (disch := first | assumption | omega) only [p_some, p_gd, p_br, p_bi, p_nm, p_mp, p_Sl, p_Sr, p_bis, p_gdt, q_IL, q_IR, q_LI, q_LR, q_RI, q_RL, q_KI, q_KL, q_KR, q_NI, q_NL, q_NR, q_nI, q_nL, q_nR, q_okI, q_okL, q_okR, q_Ie, q_In, q_Le, q_Ln, SM_I, SM_L, s_c0, s_cg0, s_cl0, s_cge, s_cle, r_le, r_lt, r_eq, r_md, r_2, r_3, r_lit, r_litL, r_m1, nI_add, nI_1, nI_clamp, nI_leI, nI_ltI, nI_eq, pk_sub, q_ix, nI_l, lN_add, lN_mul, r_m1n, r_m1n', r_m1lt, r_m1nlt, r_m1le, r_m1nle, Nat.not_lt_zero, Nat.reduceEqDiff, Nat.reduceLT, Nat.reduceLeDiff, true_and, and_true, true_implies, false_implies, not_true_eq_false, not_false_eq_true, implies_true, and_self, ne_eq, decide_true, decide_false, Bool.not_true, Bool.not_false, if_true, if_false, reduceIte, xb_0, xb_1, xb_2, xb_3, xb_4, xb_5, xb_6, xb_7, xb_8, xb_9, xb_10, xb_11, xb_12, xb_13, xb_14, xb_15, xb_16, xb_17, xb_18, xb_19, xb_20, xb_21, xo_0, xo_1, xo_2, xo_3, xo_4, xo_5, xo_6, xo_7, xo_8, xo_9, xo_0 N.1, N.2.1]
  refine x_begin (ans := fun _ => 0) b N.1 N.2.2.1 ho hb (fun h1 f1 N1 => ?_)
  simp (disch := first | assumption | omega) only [p_some, p_gd, p_br, p_bi, p_nm, p_mp, p_Sl, p_Sr, p_bis, p_gdt, q_IL, q_IR, q_LI, q_LR, q_RI, q_RL, q_KI, q_KL, q_KR, q_NI, q_NL, q_NR, q_nI, q_nL, q_nR, q_okI, q_okL, q_okR, q_Ie, q_In, q_Le, q_Ln, SM_I, SM_L, s_c0, s_cg0, s_cl0, s_cge, s_cle, r_le, r_lt, r_eq, r_md, r_2, r_3, r_lit, r_litL, r_m1, nI_add, nI_1, nI_clamp, nI_leI, nI_ltI, nI_eq, pk_sub, q_ix, nI_l, lN_add, lN_mul, r_m1n, r_m1n', r_m1lt, r_m1nlt, r_m1le, r_m1nle, Nat.not_lt_zero, Nat.reduceEqDiff, Nat.reduceLT, Nat.reduceLeDiff, true_and, and_true, true_implies, false_implies, not_true_eq_false, not_false_eq_true, implies_true, and_self, ne_eq, decide_true, decide_false, Bool.not_true, Bool.not_false, if_true, if_false, reduceIte, xb_0, xb_1, xb_2, xb_3, xb_4, xb_5, xb_6, xb_7, xb_8, xb_9, xb_10, xb_11, xb_12, xb_13, xb_14, xb_15, xb_16, xb_17, xb_18, xb_19, xb_20, xb_21, xo_0, xo_1, xo_2, xo_3, xo_4, xo_5, xo_6, xo_7, xo_8, xo_9, xo_0 N1.1]
  obtain ⟨N2, f2⟩ := N1.x5 (v := x) ho hb
  have x2 : z_I (z_sI h1 o 5 x) o 5 = x := q_Ie rfl rfl
  generalize z_sI h1 o 5 x = h2 at f2 N2 x2 ⊢
  unfold fX2_drawPlace
  have hw := b.wle
  have hwp := b.wpos
  simp (disch := first | assumption | omega) only [p_some, p_gd, p_br, p_bi, p_nm, p_mp, p_Sl, p_Sr, p_bis, p_gdt, q_IL, q_IR, q_LI, q_LR, q_RI, q_RL, q_KI, q_KL, q_KR, q_NI, q_NL, q_NR, q_nI, q_nL, q_nR, q_okI, q_okL, q_okR, q_Ie, q_In, q_Le, q_Ln, SM_I, SM_L, s_c0, s_cg0, s_cl0, s_cge, s_cle, r_le, r_lt, r_eq, r_md, r_2, r_3, r_lit, r_litL, r_m1, nI_add, nI_1, nI_clamp, nI_leI, nI_ltI, nI_eq, pk_sub, q_ix, nI_l, lN_add, lN_mul, r_m1n, r_m1n', r_m1lt, r_m1nlt, r_m1le, r_m1nle, Nat.not_lt_zero, Nat.reduceEqDiff, Nat.reduceLT, Nat.reduceLeDiff, true_and, and_true, true_implies, false_implies, not_true_eq_false, not_false_eq_true, implies_true, and_self, ne_eq, decide_true, decide_false, Bool.not_true, Bool.not_false, if_true, if_false, reduceIte, xb_0, xb_1, xb_2, xb_3, xb_4, xb_5, xb_6, xb_7, xb_8, xb_9, xb_10, xb_11, xb_12, xb_13, xb_14, xb_15, xb_16, xb_17, xb_18, xb_19, xb_20, xb_21, xo_0, xo_1, xo_2, xo_3, xo_4, xo_5, xo_6, xo_7, xo_8, xo_9, xo_0 N2.1, N2.2.1, xb_0 N2.2.2.1.1, x_allWeights N2.2.2.1]
  refine x_drawBelow N2.1 hwp (by omega) ?_
  rw [x2]
  obtain ⟨N3, f3⟩ := N2.x5 (v := a_nx x) ho hb
  have x3 : z_I (z_sI h2 o 5 (a_nx x)) o 5 = a_nx x := q_Ie rfl rfl
  generalize z_sI h2 o 5 (a_nx x) = h3 at f3 N3 x3 ⊢
  have F3 : x_fr (fun a k => nC o a k ∧ (a ≠ o ∨ k ≠ 0)) h h3 := (f1.tr (f2.w (fun a k _ c => c.1))).tr (f3.w (fun a k _ c => c.1))
  unfold fX2_drawPlace_b14
  refine p_for 7 (fun j w => ∃ r, w = (nI r, nI j) ∧ r < 2 ^ 24 ∧ r < sumN (fun i => a_w bk (j + i)) (7 - j) ∧ a_pick (a_w bk) (7 - j) j r = a_dq bk x) ?_ ?_ 0 (by omega) ⟨_, rfl, Nat.lt_of_le_of_lt (Nat.mod_le _ _) (a_v_lt _), ?_, rfl⟩
  · rintro j w hj ⟨r, rfl, hr, hrs, hp⟩
    rw [show 7 - j = (7 - (j + 1)) + 1 by omega, a_pick] at hp
    rw [show 7 - j = (7 - (j + 1)) + 1 by omega, sumN_head] at hrs
    have hrs : r < a_w bk j + sumN (fun i => a_w bk (j + (i + 1))) (7 - (j + 1)) := hrs
    have e : sumN (fun i => a_w bk (j + (i + 1))) (7 - (j + 1)) = sumN (fun i => a_w bk (j + 1 + i)) (7 - (j + 1)) := sumN_congr (fun i _ => by rw [show j + (i + 1) = j + 1 + i by omega])
    have hwj := b.w hj
    unfold fX2_drawPlace_b14_i
    simp (disch := first | assumption | omega) only [p_some, p_gd, p_br, p_bi, p_nm, p_mp, p_Sl, p_Sr, p_bis, p_gdt, q_IL, q_IR, q_LI, q_LR, q_RI, q_RL, q_KI, q_KL, q_KR, q_NI, q_NL, q_NR, q_nI, q_nL, q_nR, q_okI, q_okL, q_okR, q_Ie, q_In, q_Le, q_Ln, SM_I, SM_L, s_c0, s_cg0, s_cl0, s_cge, s_cle, r_le, r_lt, r_eq, r_md, r_2, r_3, r_lit, r_litL, r_m1, nI_add, nI_1, nI_clamp, nI_leI, nI_ltI, nI_eq, pk_sub, q_ix, nI_l, lN_add, lN_mul, r_m1n, r_m1n', r_m1lt, r_m1nlt, r_m1le, r_m1nle, Nat.not_lt_zero, Nat.reduceEqDiff, Nat.reduceLT, Nat.reduceLeDiff, true_and, and_true, true_implies, false_implies, not_true_eq_false, not_false_eq_true, implies_true, and_self, ne_eq, decide_true, decide_false, Bool.not_true, Bool.not_false, if_true, if_false, reduceIte, xb_0, xb_1, xb_2, xb_3, xb_4, xb_5, xb_6, xb_7, xb_8, xb_9, xb_10, xb_11, xb_12, xb_13, xb_14, xb_15, xb_16, xb_17, xb_18, xb_19, xb_20, xb_21, xo_0, xo_1, xo_2, xo_3, xo_4, xo_5, xo_6, xo_7, xo_8, xo_9, xo_0 N3.1, N3.2.1, xb_0 N3.2.2.1.1, x_weightOf N3.2.2.1, show ¬ 7 ≤ j by omega]
    refine ⟨fun c => ?_, fun c => ?_⟩
    · rw [if_pos c] at hp
      exact ⟨r - a_w bk j, by rw [pk_sub c], by omega, by rw [e] at hrs; omega, hp⟩
    · rw [if_neg c] at hp
      rw [hp]
      exact x_draws b N3 x3 hn ht (a_dq_lt bk x) ho hb (fun h4 f4 N4 => k h4 (F3.tr (f4.w (fun a k _ c => c.1))) N4)
  · rintro w ⟨r, rfl, hr, hrs, hp⟩
    exact absurd hrs (Nat.not_lt_zero _)
  · have := Nat.mod_lt (a_v (a_nx x)) hwp
    rw [show sumN (fun j => a_w bk (0 + j)) (7 - 0) = sumN (a_w bk) 7 from sumN_congr (fun i _ => by rw [Nat.zero_add])]
    exact this
/-- a night that is drawn is one that can be -/
theorem a_dr_pos {bk : Nat → Nat} {q : Nat} {x0 : Int32} (hw : 0 < a_w bk q) (b : BOK bk) (h0 : 0 < bk 0) : ∀ n, 0 < a_lk bk (a_dr bk q x0 n).2 q n
  | 0 => hw
  | n + 1 => by
    have ih := a_dr_pos (x0 := x0) hw b h0 n
    have h8 := b.1
    rw [a_dr_s]
    show 0 < a_lk bk (a_u _ n _) q (n + 1)
    rw [a_lk_u]
    have htm : a_dt bk (a_dr bk q x0 n).1 < bk 0 := Nat.mod_lt _ h0
    have hs := a_ds_lt bk (a_dr bk q x0 n).2 q (a_dr bk q x0 n).1 n
    rw [show (2 * a_dt bk (a_dr bk q x0 n).1 + a_ds bk (a_dr bk q x0 n).2 q (a_dr bk q x0 n).1 n) / 2 = a_dt bk (a_dr bk q x0 n).1 by omega, show (2 * a_dt bk (a_dr bk q x0 n).1 + a_ds bk (a_dr bk q x0 n).2 q (a_dr bk q x0 n).1 n) % 2 = a_ds bk (a_dr bk q x0 n).2 q (a_dr bk q x0 n).1 n by omega]
    refine Nat.mul_pos ih ?_
    have h9 : a_v (a_nx (a_nx (a_dr bk q x0 n).1)) % 9 < 9 := Nat.mod_lt _ (by decide)
    unfold a_fa a_ds
    split
    · rw [if_pos rfl]; omega
    · rw [if_neg (by decide)]; omega
theorem NOK.drawn {bk : Nat → Nat} {n : Nat} (b : BOK bk) (hn : n ≤ 12) (h0 : n = 0 ∨ 0 < bk 0) (x : Int32) : NOK bk (a_da bk x n) n := by
  obtain ⟨h1, h2⟩ := a_dq_in b x
  refine ⟨hn, fun i hi => a_dr_t (by omega) n i hi, ?_⟩
  by_cases c : n = 0
  · subst c
    exact Nat.lt_of_lt_of_le h2 (a_all_pl (bk := bk) (ans := a_da bk x 0) (n := 0) (q := a_dq bk x) h1)
  · exact Nat.lt_of_lt_of_le (a_dr_pos h2 b (by omega) n) (a_all_pl (bk := bk) (ans := a_da bk x n) (n := n) (q := a_dq bk x) h1)
