/-! lot and share, both sides -/
theorem a_lot_vl {bk : Nat → Nat} (h : ¬ a_lot0 bk = 0) : a_vl bk (a_lot0 bk) := by
  have inv := a_ak_inv (bk := bk) (n := bk 0) 9 (Nat.le_refl 9)
  unfold a_akP at inv
  rcases inv with ⟨i1, -⟩ | ⟨j, i1, i2, i3, -⟩
  · exact absurd i1 h
  · unfold a_lot0
    rw [i2]
    exact a_T_vl i3 (by omega)
theorem a_lot_lt {bk : Nat → Nat} : a_lot0 bk < 2 ^ bk 0 := a_ak_lt
def a_lot (bk : Nat → Nat) (y : Int32) : Option Int64 := if z_ix y 2 = true ∧ ¬ a_lot0 bk = 0 then some (a_side ((a_pc (a_lot0 bk) - 1) * 2520) (9 * a_sg bk (a_lot0 bk) 8) y) else none
def a_share (bk : Nat → Nat) (x y : Int32) : Option Int64 := if z_ix x (bk 0) = true ∧ z_ix y 2 = true ∧ ¬ a_lot0 bk = 0 then some (a_side (if (a_lot0 bk).testBit x.toNatClampNeg = true then a_c bk x.toNatClampNeg else 0) (a_sg bk (a_lot0 bk) 8) y) else none
theorem a_sg_one {bk : Nat → Nat} {L t : Nat} (ht : t < 8) : a_sg bk (L &&& 2 ^ t) 8 = if L.testBit t = true then a_c bk t else 0 := by
  have h : sumN (fun i => if (L &&& 2 ^ t).testBit i = true then a_c bk i else 0) 8 = sumN (fun _ => 0) 8 + (if L.testBit t = true then a_c bk t else 0) := sumN_one ht (fun i hi hne => by
      rw [if_neg]
      rw [Nat.testBit_and, Nat.testBit_two_pow, decide_eq_false (by omega), Bool.and_false]
      decide) (by
      rw [Nat.zero_add, Nat.testBit_and, Nat.testBit_two_pow, decide_eq_true rfl, Bool.and_true])
  rw [sumN_zero (fun _ _ => rfl), Nat.zero_add] at h
  exact h
theorem x_opLot {h : z_T} {bo n : Nat} {bk ans : Nat → Nat} (W : xNow h bo bk ans n) (b : BOK bk) (y : Int32) : fX11_lot 0 y h = some (a_lot bk y) := by
  obtain ⟨s, N, -⟩ := W
  have hp := a_2p b
  have hL := a_lot_lt (bk := bk)
  have hv := a_lot_vl (bk := bk)
  have ha := x_askedByLot b N.2.2.1
  have hl := x_lotsOf b N.2.2.1 hL
  have hb := x_bits (a_lot0 bk) (by omega)
  have q := a_pc_le (a_lot0 bk)
  have g := a_sg_le (bk := bk) (S := a_lot0 bk) (Nat.le_refl 8)
  refine p_of ?_
  unfold a_lot
  generalize a_lot0 bk = L at *
  unfold fX11_lot fX11_lot_b27
  simp (disch := first | assumption | omega) only [p_some, p_gd, p_br, p_bi, p_nm, p_mp, p_Sl, p_Sr, p_bis, p_gdt, q_IL, q_IR, q_LI, q_LR, q_RI, q_RL, q_KI, q_KL, q_KR, q_NI, q_NL, q_NR, q_nI, q_nL, q_nR, q_okI, q_okL, q_okR, q_Ie, q_In, q_Le, q_Ln, SM_I, SM_L, s_c0, s_cg0, s_cl0, s_cge, s_cle, r_le, r_lt, r_eq, r_md, r_2, r_3, r_lit, r_litL, r_m1, nI_add, nI_1, nI_clamp, nI_leI, nI_ltI, nI_eq, pk_sub, q_ix, nI_l, lN_add, lN_mul, r_m1n, r_m1n', r_m1lt, r_m1nlt, r_m1le, r_m1nle, Nat.not_lt_zero, Nat.reduceEqDiff, Nat.reduceLT, Nat.reduceLeDiff, true_and, and_true, true_implies, false_implies, not_true_eq_false, not_false_eq_true, implies_true, and_self, ne_eq, decide_true, decide_false, Bool.not_true, Bool.not_false, if_true, if_false, reduceIte, xb_0, xb_1, xb_2, xb_3, xb_4, xb_5, xb_6, xb_7, xb_8, xb_9, xb_10, xb_11, xb_12, xb_13, xb_14, xb_15, xb_16, xb_17, xb_18, xb_19, xb_20, xb_21, xo_0, xo_1, xo_2, xo_3, xo_4, xo_5, xo_6, xo_7, xo_8, xo_9, x_isSide, bI_0, xk0 s, xr0_3 s, xk14 s, xr14_0 s, xo_0 N.1, N.2.1, xb_0 N.2.2.1.1, ha, hb, hl]
  refine ⟨fun c => ?_, fun c => ⟨fun c2 => ?_, fun c2 => ?_⟩⟩
  · rw [if_neg (fun q => q.2 c)]
  · rw [if_neg (fun q => c2 q.1)]
  · rw [if_pos ⟨Classical.not_not.mp c2, c⟩]
    obtain ⟨w, hw, rfl⟩ := z_ixn c2 (by omega)
    have hpos := a_sgpos (hv c)
    have h2 := (hv c).1
    unfold a_side
    rw [nI_clamp (by omega)]
    simp (disch := first | assumption | omega) only [p_some, p_gd, p_br, p_bi, p_nm, p_mp, p_Sl, p_Sr, p_bis, p_gdt, q_IL, q_IR, q_LI, q_LR, q_RI, q_RL, q_KI, q_KL, q_KR, q_NI, q_NL, q_NR, q_nI, q_nL, q_nR, q_okI, q_okL, q_okR, q_Ie, q_In, q_Le, q_Ln, SM_I, SM_L, s_c0, s_cg0, s_cl0, s_cge, s_cle, r_le, r_lt, r_eq, r_md, r_2, r_3, r_lit, r_litL, r_m1, nI_add, nI_1, nI_clamp, nI_leI, nI_ltI, nI_eq, pk_sub, q_ix, nI_l, lN_add, lN_mul, r_m1n, r_m1n', r_m1lt, r_m1nlt, r_m1le, r_m1nle, Nat.not_lt_zero, Nat.reduceEqDiff, Nat.reduceLT, Nat.reduceLeDiff, true_and, and_true, true_implies, false_implies, not_true_eq_false, not_false_eq_true, implies_true, and_self, ne_eq, decide_true, decide_false, Bool.not_true, Bool.not_false, if_true, if_false, reduceIte, xb_0, xb_1, xb_2, xb_3, xb_4, xb_5, xb_6, xb_7, xb_8, xb_9, xb_10, xb_11, xb_12, xb_13, xb_14, xb_15, xb_16, xb_17, xb_18, xb_19, xb_20, xb_21, xo_0, xo_1, xo_2, xo_3, xo_4, xo_5, xo_6, xo_7, xo_8, xo_9, x_fraction]
theorem x_opShare {h : z_T} {bo n : Nat} {bk ans : Nat → Nat} (W : xNow h bo bk ans n) (b : BOK bk) (x y : Int32) : fX11_share 0 x y h = some (a_share bk x y) := by
  obtain ⟨s, N, -⟩ := W
  have h8 := b.1
  have hp := a_2p b
  have hL := a_lot_lt (bk := bk)
  have hv := a_lot_vl (bk := bk)
  have ha := x_askedByLot b N.2.2.1
  have hl := x_lotsOf b N.2.2.1 hL
  have hl2 : ∀ t, fX0_lotsOf bo (nI (a_lot0 bk &&& 2 ^ t)) h = some (lN (a_sg bk (a_lot0 bk &&& 2 ^ t) 8)) := fun t => x_lotsOf b N.2.2.1 (Nat.lt_of_le_of_lt Nat.and_le_left hL)
  have g := a_sg_le (bk := bk) (S := a_lot0 bk) (Nat.le_refl 8)
  refine p_of ?_
  unfold a_share
  generalize a_lot0 bk = L at *
  unfold fX11_share fX11_share_b37
  simp (disch := first | assumption | omega) only [p_some, p_gd, p_br, p_bi, p_nm, p_mp, p_Sl, p_Sr, p_bis, p_gdt, q_IL, q_IR, q_LI, q_LR, q_RI, q_RL, q_KI, q_KL, q_KR, q_NI, q_NL, q_NR, q_nI, q_nL, q_nR, q_okI, q_okL, q_okR, q_Ie, q_In, q_Le, q_Ln, SM_I, SM_L, s_c0, s_cg0, s_cl0, s_cge, s_cle, r_le, r_lt, r_eq, r_md, r_2, r_3, r_lit, r_litL, r_m1, nI_add, nI_1, nI_clamp, nI_leI, nI_ltI, nI_eq, pk_sub, q_ix, nI_l, lN_add, lN_mul, r_m1n, r_m1n', r_m1lt, r_m1nlt, r_m1le, r_m1nle, Nat.not_lt_zero, Nat.reduceEqDiff, Nat.reduceLT, Nat.reduceLeDiff, true_and, and_true, true_implies, false_implies, not_true_eq_false, not_false_eq_true, implies_true, and_self, ne_eq, decide_true, decide_false, Bool.not_true, Bool.not_false, if_true, if_false, reduceIte, xb_0, xb_1, xb_2, xb_3, xb_4, xb_5, xb_6, xb_7, xb_8, xb_9, xb_10, xb_11, xb_12, xb_13, xb_14, xb_15, xb_16, xb_17, xb_18, xb_19, xb_20, xb_21, xo_0, xo_1, xo_2, xo_3, xo_4, xo_5, xo_6, xo_7, xo_8, xo_9, x_isSide, bI_0, xk0 s, xr0_3 s, xk14 s, xr14_0 s, xo_0 N.1, N.2.1, xb_0 N.2.2.1.1, ha, x_hasTest b N.2.2.1]
  refine ⟨fun c => ?_, fun c => ⟨fun c2 => ?_, fun c2 => ⟨fun c3 => ?_, fun c3 => ?_⟩⟩⟩
  · rw [if_neg (fun q => q.2.2 c)]
  · rw [if_neg (fun q => c2 q.1)]
  · rw [if_neg (fun q => c3 q.2.1)]
  · rw [if_pos ⟨Classical.not_not.mp c2, Classical.not_not.mp c3, c⟩]
    obtain ⟨t, ht, rfl⟩ := z_ixn c2 (by omega)
    obtain ⟨w, hw, rfl⟩ := z_ixn c3 (by omega)
    have hpos := a_sgpos (hv c)
    have g2 := a_sg_le (bk := bk) (S := L &&& 2 ^ t) (Nat.le_refl 8)
    unfold a_side
    rw [nI_clamp (by omega), nI_clamp (by omega), ← a_sg_one (by omega)]
    simp (disch := first | assumption | omega) only [p_some, p_gd, p_br, p_bi, p_nm, p_mp, p_Sl, p_Sr, p_bis, p_gdt, Nat.not_lt_zero, Nat.reduceEqDiff, Nat.reduceLT, Nat.reduceLeDiff, true_and, and_true, true_implies, false_implies, not_true_eq_false, not_false_eq_true, implies_true, and_self, ne_eq, decide_true, decide_false, Bool.not_true, Bool.not_false, if_true, if_false, reduceIte, r_shl]
    simp (disch := first | assumption | omega) only [p_some, p_gd, p_br, p_bi, p_nm, p_mp, p_Sl, p_Sr, p_bis, p_gdt, q_IL, q_IR, q_LI, q_LR, q_RI, q_RL, q_KI, q_KL, q_KR, q_NI, q_NL, q_NR, q_nI, q_nL, q_nR, q_okI, q_okL, q_okR, q_Ie, q_In, q_Le, q_Ln, SM_I, SM_L, s_c0, s_cg0, s_cl0, s_cge, s_cle, r_le, r_lt, r_eq, r_md, r_2, r_3, r_lit, r_litL, r_m1, nI_add, nI_1, nI_clamp, nI_leI, nI_ltI, nI_eq, pk_sub, q_ix, nI_l, lN_add, lN_mul, r_m1n, r_m1n', r_m1lt, r_m1nlt, r_m1le, r_m1nle, Nat.not_lt_zero, Nat.reduceEqDiff, Nat.reduceLT, Nat.reduceLeDiff, true_and, and_true, true_implies, false_implies, not_true_eq_false, not_false_eq_true, implies_true, and_self, ne_eq, decide_true, decide_false, Bool.not_true, Bool.not_false, if_true, if_false, reduceIte, xb_0, xb_1, xb_2, xb_3, xb_4, xb_5, xb_6, xb_7, xb_8, xb_9, xb_10, xb_11, xb_12, xb_13, xb_14, xb_15, xb_16, xb_17, xb_18, xb_19, xb_20, xb_21, xo_0, xo_1, xo_2, xo_3, xo_4, xo_5, xo_6, xo_7, xo_8, xo_9, fa_and, hl2, hl, x_fraction]
