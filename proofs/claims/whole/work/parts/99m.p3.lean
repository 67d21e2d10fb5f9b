/-! the best lot, both sides -/
theorem a_sg_le {bk : Nat → Nat} {S n : Nat} (hn : n ≤ 8) : a_sg bk S n ≤ 20160 := by
  have h : a_sg bk S n ≤ n * 2520 := sumN_le (fun i _ => by
    have := a_cle (bk := bk) (t := i)
    split <;> omega)
  omega
theorem a_sg_8 {bk : Nat → Nat} {S n : Nat} (hS : S < 2 ^ n) (hn : n ≤ 8) : a_sg bk S n = a_sg bk S 8 := (sumN_ext hn (fun i h1 _ => by
  rw [if_neg]
  intro c
  have := Nat.ge_two_pow_of_testBit c
  have h2 : 2 ^ n ≤ 2 ^ i := Nat.pow_le_pow_right (by decide) h1
  omega)).symm
theorem s_dec {k : Nat} (h : 1 ≤ k) : nI k + -1 = nI (k - 1) := by
  rw [← Int32.sub_eq_add_neg]
  exact pk_sub h
theorem BOK.m9 {bk : Nat → Nat} (b : BOK bk) {t : Nat} (h : t < 8) : bk (16 + t) ≤ 9 := (b.2.2.2.2.2.2.2.2.1 t h).2
theorem x_movingBy {h : z_T} {bo x : Nat} {bk : Nat → Nat} (b : BOK bk) (B : xBk h bo bk) (hx : x ≤ 9) : fX0_movingBy bo (nI x) h = some (nI (a_T bk (bk 0) x)) := by
  have h8 := b.1
  refine p_of ?_
  unfold fX0_movingBy fX0_movingBy_b4
  refine p_for (bk 0) (fun j w => w = (nI (a_T bk j x), nI j)) ?_ ?_ 0 (by omega) rfl
  · rintro j w hj rfl
    have hr := b.m9 (t := j) (by omega)
    have e1 : a_T bk (j + 1) x = a_T bk j x ||| (if decide (x ≤ a_r bk j) = true then 2 ^ j else 0) := rfl
    unfold fX0_movingBy_b4_i fX0_movingBy_b30
    simp (disch := first | assumption | omega) only [p_some, p_gd, p_br, p_bi, p_nm, p_mp, p_Sl, p_Sr, p_bis, p_gdt, q_IL, q_IR, q_LI, q_LR, q_RI, q_RL, q_KI, q_KL, q_KR, q_NI, q_NL, q_NR, q_nI, q_nL, q_nR, q_okI, q_okL, q_okR, q_Ie, q_In, q_Le, q_Ln, SM_I, SM_L, s_c0, s_cg0, s_cl0, s_cge, s_cle, r_le, r_lt, r_eq, r_md, r_2, r_3, r_lit, r_litL, r_m1, nI_add, nI_1, nI_clamp, nI_leI, nI_ltI, nI_eq, pk_sub, q_ix, nI_l, lN_add, lN_mul, r_m1n, r_m1n', r_m1lt, r_m1nlt, r_m1le, r_m1nle, Nat.not_lt_zero, Nat.reduceEqDiff, Nat.reduceLT, Nat.reduceLeDiff, true_and, and_true, true_implies, false_implies, not_true_eq_false, not_false_eq_true, implies_true, and_self, ne_eq, decide_true, decide_false, Bool.not_true, Bool.not_false, if_true, if_false, reduceIte, xb_0, xb_1, xb_2, xb_3, xb_4, xb_5, xb_6, xb_7, xb_8, xb_9, xb_10, xb_11, xb_12, xb_13, xb_14, xb_15, xb_16, xb_17, xb_18, xb_19, xb_20, xb_21, xo_0, xo_1, xo_2, xo_3, xo_4, xo_5, xo_6, xo_7, xo_8, xo_9, xb_0 B.1, B.2.1, x_inDream B, r_shl, fa_or, show ¬ bk 0 ≤ j by omega]
    refine ⟨fun c => ?_, fun c => ?_⟩
    · rw [e1, if_neg (by unfold a_r; simp; omega), Nat.or_zero]
    · rw [e1, if_pos (by unfold a_r; simp; omega)]
  · rintro w rfl
    unfold fX0_movingBy_b4_i
    simp (disch := first | assumption | omega) only [p_some, p_gd, p_br, p_bi, p_nm, p_mp, p_Sl, p_Sr, p_bis, p_gdt, q_IL, q_IR, q_LI, q_LR, q_RI, q_RL, q_KI, q_KL, q_KR, q_NI, q_NL, q_NR, q_nI, q_nL, q_nR, q_okI, q_okL, q_okR, q_Ie, q_In, q_Le, q_Ln, SM_I, SM_L, s_c0, s_cg0, s_cl0, s_cge, s_cle, r_le, r_lt, r_eq, r_md, r_2, r_3, r_lit, r_litL, r_m1, nI_add, nI_1, nI_clamp, nI_leI, nI_ltI, nI_eq, pk_sub, q_ix, nI_l, lN_add, lN_mul, r_m1n, r_m1n', r_m1lt, r_m1nlt, r_m1le, r_m1nle, Nat.not_lt_zero, Nat.reduceEqDiff, Nat.reduceLT, Nat.reduceLeDiff, true_and, and_true, true_implies, false_implies, not_true_eq_false, not_false_eq_true, implies_true, and_self, ne_eq, decide_true, decide_false, Bool.not_true, Bool.not_false, if_true, if_false, reduceIte, xb_0, xb_1, xb_2, xb_3, xb_4, xb_5, xb_6, xb_7, xb_8, xb_9, xb_10, xb_11, xb_12, xb_13, xb_14, xb_15, xb_16, xb_17, xb_18, xb_19, xb_20, xb_21, xo_0, xo_1, xo_2, xo_3, xo_4, xo_5, xo_6, xo_7, xo_8, xo_9, xb_0 B.1, B.2.1, Nat.le_refl]
theorem x_lotsOf {h : z_T} {bo S : Nat} {bk : Nat → Nat} (b : BOK bk) (B : xBk h bo bk) (hS : S < 2 ^ bk 0) : fX0_lotsOf bo (nI S) h = some (lN (a_sg bk S 8)) := by
  have h8 := b.1
  refine p_of ?_
  unfold fX0_lotsOf fX0_lotsOf_b5
  rw [← a_sg_8 hS h8]
  refine p_for (bk 0) (fun j w => w = (lN (a_sg bk S j), nI j)) ?_ ?_ 0 (by omega) rfl
  · rintro j w hj rfl
    have hr := b.m9 (t := j) (by omega)
    have e1 : a_sg bk S (j + 1) = a_sg bk S j + (if S.testBit j = true then a_c bk j else 0) := rfl
    have ec : a_c bk j = 2520 / (9 - bk (16 + j)) := rfl
    unfold fX0_lotsOf_b5_i fX0_lotsOf_b49
    simp (disch := first | assumption | omega) only [p_some, p_gd, p_br, p_bi, p_nm, p_mp, p_Sl, p_Sr, p_bis, p_gdt, q_IL, q_IR, q_LI, q_LR, q_RI, q_RL, q_KI, q_KL, q_KR, q_NI, q_NL, q_NR, q_nI, q_nL, q_nR, q_okI, q_okL, q_okR, q_Ie, q_In, q_Le, q_Ln, SM_I, SM_L, s_c0, s_cg0, s_cl0, s_cge, s_cle, r_le, r_lt, r_eq, r_md, r_2, r_3, r_lit, r_litL, r_m1, nI_add, nI_1, nI_clamp, nI_leI, nI_ltI, nI_eq, pk_sub, q_ix, nI_l, lN_add, lN_mul, r_m1n, r_m1n', r_m1lt, r_m1nlt, r_m1le, r_m1nle, Nat.not_lt_zero, Nat.reduceEqDiff, Nat.reduceLT, Nat.reduceLeDiff, true_and, and_true, true_implies, false_implies, not_true_eq_false, not_false_eq_true, implies_true, and_self, ne_eq, decide_true, decide_false, Bool.not_true, Bool.not_false, if_true, if_false, reduceIte, xb_0, xb_1, xb_2, xb_3, xb_4, xb_5, xb_6, xb_7, xb_8, xb_9, xb_10, xb_11, xb_12, xb_13, xb_14, xb_15, xb_16, xb_17, xb_18, xb_19, xb_20, xb_21, xo_0, xo_1, xo_2, xo_3, xo_4, xo_5, xo_6, xo_7, xo_8, xo_9, xb_0 B.1, B.2.1, x_inDream B, r_shl, s_tb, r_div, show ¬ bk 0 ≤ j by omega]
    refine ⟨fun c => ?_, fun c => ⟨fun c2 => ?_, fun c2 => ?_⟩⟩
    · rw [e1, if_neg (by rw [c]; decide)]
      exact rfl
    · rw [e1, if_pos (by simpa using c), ec, show 9 - bk (16 + j) = 0 by omega, Nat.div_zero]
      exact rfl
    · rw [e1, if_pos (by simpa using c), ec]
      exact ⟨by simp; omega, rfl⟩
  · rintro w rfl
    unfold fX0_lotsOf_b5_i
    simp (disch := first | assumption | omega) only [p_some, p_gd, p_br, p_bi, p_nm, p_mp, p_Sl, p_Sr, p_bis, p_gdt, q_IL, q_IR, q_LI, q_LR, q_RI, q_RL, q_KI, q_KL, q_KR, q_NI, q_NL, q_NR, q_nI, q_nL, q_nR, q_okI, q_okL, q_okR, q_Ie, q_In, q_Le, q_Ln, SM_I, SM_L, s_c0, s_cg0, s_cl0, s_cge, s_cle, r_le, r_lt, r_eq, r_md, r_2, r_3, r_lit, r_litL, r_m1, nI_add, nI_1, nI_clamp, nI_leI, nI_ltI, nI_eq, pk_sub, q_ix, nI_l, lN_add, lN_mul, r_m1n, r_m1n', r_m1lt, r_m1nlt, r_m1le, r_m1nle, Nat.not_lt_zero, Nat.reduceEqDiff, Nat.reduceLT, Nat.reduceLeDiff, true_and, and_true, true_implies, false_implies, not_true_eq_false, not_false_eq_true, implies_true, and_self, ne_eq, decide_true, decide_false, Bool.not_true, Bool.not_false, if_true, if_false, reduceIte, xb_0, xb_1, xb_2, xb_3, xb_4, xb_5, xb_6, xb_7, xb_8, xb_9, xb_10, xb_11, xb_12, xb_13, xb_14, xb_15, xb_16, xb_17, xb_18, xb_19, xb_20, xb_21, xo_0, xo_1, xo_2, xo_3, xo_4, xo_5, xo_6, xo_7, xo_8, xo_9, xb_0 B.1, B.2.1, Nat.le_refl]
def a_lot0 (bk : Nat → Nat) : Nat := a_ak bk (bk 0) 9
theorem a_ak_lt {bk : Nat → Nat} {n d : Nat} : a_ak bk n d < 2 ^ n := by
  induction d with
  | zero => exact Nat.pow_pos (by decide)
  | succ d ih =>
    have e1 : a_ak bk n (d + 1) = if a_pc (a_T bk n (9 - d)) ≤ 1 then a_ak bk n d else if a_ak bk n d = 0 then a_T bk n (9 - d) else
      if (a_pc (a_T bk n (9 - d)) - 1) * a_sg bk (a_ak bk n d) 8 < (a_pc (a_ak bk n d) - 1) * a_sg bk (a_T bk n (9 - d)) 8 then a_ak bk n d else a_T bk n (9 - d) := rfl
    have hT : a_T bk n (9 - d) < 2 ^ n := a_T_lt
    rw [e1]
    split
    · exact ih
    · split
      · exact hT
      · split
        · exact ih
        · exact hT
theorem s_decm {k : Nat} (h : 1 ≤ k) : nI k + m1 = nI (k - 1) := by
  rw [← r_m1, ← Int32.sub_eq_add_neg]
  exact pk_sub h
theorem x_lotStep {h : z_T} {bo A T y : Nat} {bk : Nat → Nat} {Q : (Int32 × Int32) ⊕ Int32 → Prop} (b : BOK bk) (B : xBk h bo bk) (hA : A < 2 ^ bk 0) (hT : T < 2 ^ bk 0) (hy : 1 ≤ y) (hy9 : y ≤ 9) (mT : fX0_movingBy bo (nI y) h = some (nI T)) (hq : ¬ A = 0 → 2 ≤ a_pc A)
    (k : ∀ R, R = (if a_pc T ≤ 1 then A else if A = 0 then T else if (a_pc T - 1) * a_sg bk A 8 < (a_pc A - 1) * a_sg bk T 8 then A else T) → Q (.inl (nI R, nI (y - 1)))) : p_W (fX0_askedByLot_b5_i bo h (nI A) (nI y)) Q := by
  have hp := a_2p b
  have l1 := x_lotsOf b B hA
  have l2 := x_lotsOf b B hT
  have b1 := x_bits A (by omega)
  have b2 := x_bits T (by omega)
  have q1 := a_pc_le A
  have q2 := a_pc_le T
  have g1 := a_sg_le (bk := bk) (S := A) (Nat.le_refl 8)
  have g2 := a_sg_le (bk := bk) (S := T) (Nat.le_refl 8)
  have kk := k _ rfl
  clear k
  unfold fX0_askedByLot_b5_i
  simp (disch := first | assumption | omega) only [p_some, p_gd, p_br, p_bi, p_nm, p_mp, p_Sl, p_Sr, p_bis, p_gdt, Nat.not_lt_zero, Nat.reduceEqDiff, Nat.reduceLT, Nat.reduceLeDiff, true_and, and_true, true_implies, false_implies, not_true_eq_false, not_false_eq_true, implies_true, and_self, ne_eq, decide_true, decide_false, Bool.not_true, Bool.not_false, if_true, if_false, reduceIte, r_lit, nI_leI, show ¬ y ≤ 0 by omega]
  simp (disch := first | assumption | omega) only [p_some, p_gd, p_br, p_bi, p_nm, p_mp, p_Sl, p_Sr, p_bis, p_gdt, q_IL, q_IR, q_LI, q_LR, q_RI, q_RL, q_KI, q_KL, q_KR, q_NI, q_NL, q_NR, q_nI, q_nL, q_nR, q_okI, q_okL, q_okR, q_Ie, q_In, q_Le, q_Ln, SM_I, SM_L, s_c0, s_cg0, s_cl0, s_cge, s_cle, r_le, r_lt, r_eq, r_md, r_2, r_3, r_lit, r_litL, r_m1, nI_add, nI_1, nI_clamp, nI_leI, nI_ltI, nI_eq, pk_sub, q_ix, nI_l, lN_add, lN_mul, r_m1n, r_m1n', r_m1lt, r_m1nlt, r_m1le, r_m1nle, Nat.not_lt_zero, Nat.reduceEqDiff, Nat.reduceLT, Nat.reduceLeDiff, true_and, and_true, true_implies, false_implies, not_true_eq_false, not_false_eq_true, implies_true, and_self, ne_eq, decide_true, decide_false, Bool.not_true, Bool.not_false, if_true, if_false, reduceIte, xb_0, xb_1, xb_2, xb_3, xb_4, xb_5, xb_6, xb_7, xb_8, xb_9, xb_10, xb_11, xb_12, xb_13, xb_14, xb_15, xb_16, xb_17, xb_18, xb_19, xb_20, xb_21, xo_0, xo_1, xo_2, xo_3, xo_4, xo_5, xo_6, xo_7, xo_8, xo_9, xb_0 B.1, mT, b1, b2, l1, l2]
  unfold fX0_askedByLot_b65 fX0_askedByLot_b67
  refine ⟨fun c => ?_, fun c => ⟨fun c2 => ?_, fun c2 => ?_⟩⟩
  · rw [if_pos c] at kk
    simp (disch := first | assumption | omega) only [p_some, p_gd, p_br, p_bi, p_nm, p_mp, p_Sl, p_Sr, p_bis, p_gdt, Nat.not_lt_zero, Nat.reduceEqDiff, Nat.reduceLT, Nat.reduceLeDiff, true_and, and_true, true_implies, false_implies, not_true_eq_false, not_false_eq_true, implies_true, and_self, ne_eq, decide_true, decide_false, Bool.not_true, Bool.not_false, if_true, if_false, reduceIte, s_dec]
    exact kk
  · rw [if_neg c, if_pos c2] at kk
    simp (disch := first | assumption | omega) only [p_some, p_gd, p_br, p_bi, p_nm, p_mp, p_Sl, p_Sr, p_bis, p_gdt, Nat.not_lt_zero, Nat.reduceEqDiff, Nat.reduceLT, Nat.reduceLeDiff, true_and, and_true, true_implies, false_implies, not_true_eq_false, not_false_eq_true, implies_true, and_self, ne_eq, decide_true, decide_false, Bool.not_true, Bool.not_false, if_true, if_false, reduceIte, s_dec]
    exact kk
  · rw [if_neg c, if_neg c2] at kk
    have k1 := hq c2
    have v1 : (a_pc T - 1) * a_sg bk A 8 ≤ 141120 := Nat.mul_le_mul (show a_pc T - 1 ≤ 7 by omega) g1
    have v2 : (a_pc A - 1) * a_sg bk T 8 ≤ 141120 := Nat.mul_le_mul (show a_pc A - 1 ≤ 7 by omega) g2
    simp (disch := first | assumption | omega) only [p_some, p_gd, p_br, p_bi, p_nm, p_mp, p_Sl, p_Sr, p_bis, p_gdt, q_IL, q_IR, q_LI, q_LR, q_RI, q_RL, q_KI, q_KL, q_KR, q_NI, q_NL, q_NR, q_nI, q_nL, q_nR, q_okI, q_okL, q_okR, q_Ie, q_In, q_Le, q_Ln, SM_I, SM_L, s_c0, s_cg0, s_cl0, s_cge, s_cle, r_le, r_lt, r_eq, r_md, r_2, r_3, r_lit, r_litL, r_m1, nI_add, nI_1, nI_clamp, nI_leI, nI_ltI, nI_eq, pk_sub, q_ix, nI_l, lN_add, lN_mul, r_m1n, r_m1n', r_m1lt, r_m1nlt, r_m1le, r_m1nle, Nat.not_lt_zero, Nat.reduceEqDiff, Nat.reduceLT, Nat.reduceLeDiff, true_and, and_true, true_implies, false_implies, not_true_eq_false, not_false_eq_true, implies_true, and_self, ne_eq, decide_true, decide_false, Bool.not_true, Bool.not_false, if_true, if_false, reduceIte, xb_0, xb_1, xb_2, xb_3, xb_4, xb_5, xb_6, xb_7, xb_8, xb_9, xb_10, xb_11, xb_12, xb_13, xb_14, xb_15, xb_16, xb_17, xb_18, xb_19, xb_20, xb_21, xo_0, xo_1, xo_2, xo_3, xo_4, xo_5, xo_6, xo_7, xo_8, xo_9, s_decm]
    refine ⟨fun c3 => ?_, fun c3 => ?_⟩
    · rw [if_pos c3] at kk
      exact kk
    · rw [if_neg c3] at kk
      exact kk
theorem x_askedByLot {h : z_T} {bo : Nat} {bk : Nat → Nat} (b : BOK bk) (B : xBk h bo bk) : fX0_askedByLot bo h = some (nI (a_lot0 bk)) := by
  refine p_of ?_
  unfold fX0_askedByLot fX0_askedByLot_b5
  refine p_for 9 (fun d w => w = (nI (a_ak bk (bk 0) d), nI (9 - d))) ?_ ?_ 0 (by omega) rfl
  · rintro d w hd rfl
    have e1 : a_ak bk (bk 0) (d + 1) = if a_pc (a_T bk (bk 0) (9 - d)) ≤ 1 then a_ak bk (bk 0) d else if a_ak bk (bk 0) d = 0 then a_T bk (bk 0) (9 - d) else
      if (a_pc (a_T bk (bk 0) (9 - d)) - 1) * a_sg bk (a_ak bk (bk 0) d) 8 < (a_pc (a_ak bk (bk 0) d) - 1) * a_sg bk (a_T bk (bk 0) (9 - d)) 8 then a_ak bk (bk 0) d else a_T bk (bk 0) (9 - d) := rfl
    have e9 : 9 - (d + 1) = 9 - d - 1 := by omega
    refine x_lotStep b B a_ak_lt a_T_lt (show 1 ≤ 9 - d by omega) (by omega) (x_movingBy b B (by omega)) (fun c => ?_) (fun R hR => ?_)
    · have inv := a_ak_inv (bk := bk) (n := bk 0) d (by omega)
      unfold a_akP at inv
      rcases inv with ⟨i1, -⟩ | ⟨j, i1, i2, i3, -⟩
      · exact absurd i1 c
      · rw [i2]; exact i3
    · show _ = _
      rw [e1, e9, ← hR]
  · rintro w rfl
    unfold fX0_askedByLot_b5_i
    rw [p_brT (show nI (9 - 9) ≤ 0 by decide)]
    simp (disch := first | assumption | omega) only [p_some, p_gd, p_br, p_bi, p_nm, p_mp, p_Sl, p_Sr, p_bis, p_gdt, Nat.not_lt_zero, Nat.reduceEqDiff, Nat.reduceLT, Nat.reduceLeDiff, true_and, and_true, true_implies, false_implies, not_true_eq_false, not_false_eq_true, implies_true, and_self, ne_eq, decide_true, decide_false, Bool.not_true, Bool.not_false, if_true, if_false, reduceIte]
    rfl
