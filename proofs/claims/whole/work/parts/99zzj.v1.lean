/-! what a tree costs: the class counts -/
theorem x_laLoop {h : z_T} {to cnt bo q : Nat} {bk nd : Nat → Nat} {Q : Int64 → Prop} (b : BOK bk) (B : xBk h bo bk) (T : xTn h to nd cnt) (K : TOK (bk 0) nd) (P : TPA nd) (hq : q < 7) : ∀ k p v a, nd p ≠ 0 → p < 2 ^ k → a + a_dp k p ≤ 4 → Q (lN (a_un bk nd q k p v * 9 ^ (4 - (a + a_dp k p)))) → p_W (y_lp (fun w : Int64 × Int32 × Int32 => fX9_likelyAt_b14_i to (nI q) bo h w.1 w.2.1 w.2.2) (lN v, nI a, nI p)) Q := by
  have h8 := b.1
  have B1 := B.1
  have t1 := T.1
  have base : ∀ p v a, p ≤ 1 → a ≤ 4 → Q (lN (v * 9 ^ (4 - a))) → p_W (y_lp (fun w : Int64 × Int32 × Int32 => fX9_likelyAt_b14_i to (nI q) bo h w.1 w.2.1 w.2.2) (lN v, nI a, nI p)) Q := fun p v a hp ha kk => by
    refine p_unP (fun P hP => ?_)
    have pw := x_power (n := 4 - a) (by omega)
    unfold fX9_likelyAt_b14_i
    simp (disch := first | assumption | omega) only [p_some, p_gd, p_br, p_bi, p_nm, p_mp, p_Sl, p_Sr, p_bis, p_gdt, Nat.not_lt_zero, Nat.reduceEqDiff, Nat.reduceLT, Nat.reduceLeDiff, true_and, and_true, true_implies, false_implies, not_true_eq_false, not_false_eq_true, implies_true, and_self, ne_eq, decide_true, decide_false, Bool.not_true, Bool.not_false, if_true, if_false, reduceIte, r_lit, nI_leI, hp, pk_sub, pw, lN_mul]
    exact kk
  intro k
  induction k with
  | zero =>
    intro p v a hn hp ha kk
    rw [Nat.pow_zero] at hp
    exact base p v a (by omega) (by omega) kk
  | succ k ih =>
    intro p v a hn hp ha kk
    rw [a_un, a_dp] at kk
    rw [a_dp] at ha
    by_cases c : p ≤ 1
    · rw [if_pos c, if_pos c] at kk
      rw [if_pos c] at ha
      exact base p v a c (by omega) kk
    · rw [if_neg c, if_neg c] at kk
      rw [if_neg c] at ha
      rw [Nat.pow_succ] at hp
      have p32 := K.2.2.1 p hn
      have t3 := (P p hn).resolve_left (by omega)
      obtain ⟨lt, -⟩ := K.2.2.2 _ t3
      have na := x_nodeAt T (p := p / 2) (by omega)
      rw [a_nv_3 t3] at na
      have pl := b.pl (q := q) (t := nd (p / 2) - 3) (by omega)
      have pc := x_plainChance B (t := nd (p / 2) - 3) (q := q) (by omega) hq
      have sh := s_h1 (a := p) (by omega)
      have an1 : nI p &&& nI 1 = nI (p % 2) := fa_mask p 1
      have ihp := ih (p / 2) (v * a_fc bk nd q p) (a + 1) (by omega) (by omega) (by omega) (by rw [show a + 1 + a_dp k (p / 2) = a + (a_dp k (p / 2) + 1) by omega]; exact kk)
      have ef : a_fc bk nd q p = if p % 2 = 0 then a_pl bk q (nd (p / 2) - 3) else 9 - a_pl bk q (nd (p / 2) - 3) := rfl
      clear kk ih base
      refine p_unP (fun P hP => ?_)
      generalize a_fc bk nd q p = fc at *
      generalize a_pl bk q (nd (p / 2) - 3) = c9 at *
      unfold fX9_likelyAt_b14_i fX9_likelyAt_b56
      simp (disch := first | assumption | omega) only [p_some, p_gd, p_br, p_bi, p_nm, p_mp, p_Sl, p_Sr, p_bis, p_gdt, Nat.not_lt_zero, Nat.reduceEqDiff, Nat.reduceLT, Nat.reduceLeDiff, true_and, and_true, true_implies, false_implies, not_true_eq_false, not_false_eq_true, implies_true, and_self, ne_eq, decide_true, decide_false, Bool.not_true, Bool.not_false, if_true, if_false, reduceIte, r_lit, nI_leI, c, t1, sh, na, xb_0 B1, pc, an1, nI_eq]
      refine ⟨fun q0 => ?_, fun q0 => ?_⟩
      · rw [if_pos q0] at ef
        simp (disch := first | assumption | omega) only [p_some, p_gd, p_br, p_bi, p_nm, p_mp, p_Sl, p_Sr, p_bis, p_gdt, Nat.not_lt_zero, Nat.reduceEqDiff, Nat.reduceLT, Nat.reduceLeDiff, true_and, and_true, true_implies, false_implies, not_true_eq_false, not_false_eq_true, implies_true, and_self, ne_eq, decide_true, decide_false, Bool.not_true, Bool.not_false, if_true, if_false, reduceIte, nI_l, lN_mul, nI_add, nI_1]
        refine hP _ ?_
        rw [← ef]
        exact ihp
      · rw [if_neg q0] at ef
        simp (disch := first | assumption | omega) only [p_some, p_gd, p_br, p_bi, p_nm, p_mp, p_Sl, p_Sr, p_bis, p_gdt, Nat.not_lt_zero, Nat.reduceEqDiff, Nat.reduceLT, Nat.reduceLeDiff, true_and, and_true, true_implies, false_implies, not_true_eq_false, not_false_eq_true, implies_true, and_self, ne_eq, decide_true, decide_false, Bool.not_true, Bool.not_false, if_true, if_false, reduceIte, nI_l, lN_mul, nI_add, nI_1, pk_sub]
        refine hP _ ?_
        rw [← ef]
        exact ihp
theorem x_likelyAt {h : z_T} {to cnt bo q p : Nat} {bk nd : Nat → Nat} (b : BOK bk) (B : xBk h bo bk) (T : xTn h to nd cnt) (K : TOK (bk 0) nd) (P : TPA nd) (hq : q < 7) (hn : nd p ≠ 0) : fX9_likelyAt to (nI p) (nI q) bo h = some (lN (a_lt bk nd q p * 9 ^ (4 - a_dp 5 p))) := by
  have p32 := K.2.2.1 p hn
  have d4 : a_dp 5 p ≤ 4 := by
    rcases a_dp_le 5 p (by omega) with c | c
    · omega
    · subst c; decide
  have w := b.w hq
  have B1 := B.1
  refine p_of ?_
  have lp := fun Q k => x_laLoop (Q := Q) b B T K P hq 5 p (a_w bk q) 0 hn (by omega) (by omega) k
  rw [Nat.zero_add] at lp
  unfold fX9_likelyAt fX9_likelyAt_b14
  simp (disch := first | assumption | omega) only [p_some, p_gd, p_br, p_bi, p_nm, p_mp, p_Sl, p_Sr, p_bis, p_gdt, Nat.not_lt_zero, Nat.reduceEqDiff, Nat.reduceLT, Nat.reduceLeDiff, true_and, and_true, true_implies, false_implies, not_true_eq_false, not_false_eq_true, implies_true, and_self, ne_eq, decide_true, decide_false, Bool.not_true, Bool.not_false, if_true, if_false, reduceIte, xb_0 B1, x_weightOf B, nI_l, r_lit]
  exact lp _ rfl
theorem x_costBy {h : z_T} {to cnt bo : Nat} {bk nd : Nat → Nat} (b : BOK bk) (B : xBk h bo bk) (T : xTn h to nd cnt) (K : TOK (bk 0) nd) (P : TPA nd) (Mb : ∀ q, nd q ≤ 10) : fX9_costBy to bo h = some (lN (a_ts bk nd)) := by
  have h5 := b.2.2.2.2.2.1
  have h6 := b.2.2.2.2.2.2.1
  have h5' : bk (2 + 3) ≤ 99 := h5
  have h6' : bk (2 + 4) ≤ 99 := h6
  have B1 := B.1
  have T' := T
  obtain ⟨t1, t2, t3, t4, t5, t6⟩ := T
  refine p_of ?_
  unfold fX9_costBy fX9_costBy_b5 a_ts
  refine p_for 31 (fun j w => w = (lN (sumN (fun p => a_gc bk nd (p + 1)) j), nI (j + 1))) ?_ ?_ 0 (by omega) rfl
  · rintro j w hj rfl
    have v := t5 (j + 1) (by omega)
    have c1 := a_nv_m1 (nd (j + 1)) (Mb _)
    have c2 := a_nv_m2 (nd (j + 1)) (Mb _)
    have es : sumN (fun p => a_gc bk nd (p + 1)) (j + 1) = sumN (fun p => a_gc bk nd (p + 1)) j + a_gc bk nd (j + 1) := rfl
    have la := fun q hq hn => x_likelyAt (q := q) (p := j + 1) b B T' K P hq hn
    have s4 := x_setting B (k := 4) (by omega)
    have s3 := x_setting B (k := 3) (by omega)
    have eg : a_gc bk nd (j + 1) = if nd (j + 1) = 1 then bk 6 * sumN (fun q => a_lt bk nd (q + 1) (j + 1)) 6 * 9 ^ (4 - a_dp 5 (j + 1)) else if nd (j + 1) = 2 then bk 5 * a_lt bk nd 0 (j + 1) * 9 ^ (4 - a_dp 5 (j + 1)) else 0 := rfl
    generalize a_gc bk nd (j + 1) = G at *
    generalize sumN (fun p => a_gc bk nd (p + 1)) (j + 1) = S' at *
    generalize sumN (fun p => a_gc bk nd (p + 1)) j = S at *
    unfold fX9_costBy_b5_i
    simp (disch := first | assumption | omega) only [p_some, p_gd, p_br, p_bi, p_nm, p_mp, p_Sl, p_Sr, p_bis, p_gdt, Nat.not_lt_zero, Nat.reduceEqDiff, Nat.reduceLT, Nat.reduceLeDiff, true_and, and_true, true_implies, false_implies, not_true_eq_false, not_false_eq_true, implies_true, and_self, ne_eq, decide_true, decide_false, Bool.not_true, Bool.not_false, if_true, if_false, reduceIte, t1, t2, t3, t4, r_lit, nI_leI, show ¬ 32 ≤ j + 1 by omega, q_ix, nI_clamp, v]
    refine ⟨fun q => ?_, fun q => ?_⟩
    · have n1 := c1.mp q
      rw [if_pos n1] at eg
      have eG : G = sumN (fun q => bk 6 * (a_lt bk nd (q + 1) (j + 1) * 9 ^ (4 - a_dp 5 (j + 1)))) 6 := by
        rw [eg, Nat.mul_assoc, ← sumN_mul, Nat.mul_comm (bk 6), ← sumN_mul]
        exact sumN_congr (fun q _ => Nat.mul_comm _ _)
      unfold fX9_costBy_b29
      refine p_for 6 (fun i w => w = (lN (S + sumN (fun q => bk 6 * (a_lt bk nd (q + 1) (j + 1) * 9 ^ (4 - a_dp 5 (j + 1)))) i), nI (i + 1))) ?_ ?_ 0 (by omega) rfl
      · rintro i w hi rfl
        have l1 := la (i + 1) (by omega) (by omega)
        have e2 : sumN (fun q => bk 6 * (a_lt bk nd (q + 1) (j + 1) * 9 ^ (4 - a_dp 5 (j + 1)))) (i + 1) = sumN (fun q => bk 6 * (a_lt bk nd (q + 1) (j + 1) * 9 ^ (4 - a_dp 5 (j + 1)))) i + bk 6 * (a_lt bk nd (i + 1) (j + 1) * 9 ^ (4 - a_dp 5 (j + 1))) := rfl
        rw [e2]
        generalize a_lt bk nd (i + 1) (j + 1) * 9 ^ (4 - a_dp 5 (j + 1)) = V at *
        generalize sumN (fun q => bk 6 * (a_lt bk nd (q + 1) (j + 1) * 9 ^ (4 - a_dp 5 (j + 1)))) i = Z at *
        unfold fX9_costBy_b29_i
        simp (disch := first | assumption | omega) only [p_some, p_gd, p_br, p_bi, p_nm, p_mp, p_Sl, p_Sr, p_bis, p_gdt, Nat.not_lt_zero, Nat.reduceEqDiff, Nat.reduceLT, Nat.reduceLeDiff, true_and, and_true, true_implies, false_implies, not_true_eq_false, not_false_eq_true, implies_true, and_self, ne_eq, decide_true, decide_false, Bool.not_true, Bool.not_false, if_true, if_false, reduceIte, r_lit, nI_leI, show ¬ 7 ≤ i + 1 by omega, xb_0 B1, s4, t1, l1, nI_l, lN_mul, lN_add, nI_add, nI_1]
        rw [Nat.add_assoc]
      · rintro w rfl
        rw [← eG]
        unfold fX9_costBy_b29_i fX9_costBy_b94
        simp (disch := first | assumption | omega) only [p_some, p_gd, p_br, p_bi, p_nm, p_mp, p_Sl, p_Sr, p_bis, p_gdt, Nat.not_lt_zero, Nat.reduceEqDiff, Nat.reduceLT, Nat.reduceLeDiff, true_and, and_true, true_implies, false_implies, not_true_eq_false, not_false_eq_true, implies_true, and_self, ne_eq, decide_true, decide_false, Bool.not_true, Bool.not_false, if_true, if_false, reduceIte, r_lit, nI_leI, Nat.le_refl, nI_add, nI_1]
        rw [es]
    · have n1 := fun z => q (c1.mpr z)
      rw [if_neg n1] at eg
      refine ⟨fun q2 => ?_, fun q2 => ?_⟩
      · have n2 := c2.mp q2
        have l0 := la 0 (by omega) (by omega)
        rw [if_pos n2, Nat.mul_assoc] at eg
        generalize a_lt bk nd 0 (j + 1) * 9 ^ (4 - a_dp 5 (j + 1)) = V at *
        unfold fX9_costBy_b94
        simp (disch := first | assumption | omega) only [p_some, p_gd, p_br, p_bi, p_nm, p_mp, p_Sl, p_Sr, p_bis, p_gdt, Nat.not_lt_zero, Nat.reduceEqDiff, Nat.reduceLT, Nat.reduceLeDiff, true_and, and_true, true_implies, false_implies, not_true_eq_false, not_false_eq_true, implies_true, and_self, ne_eq, decide_true, decide_false, Bool.not_true, Bool.not_false, if_true, if_false, reduceIte, xb_0 B1, s3, t1, l0, nI_l, lN_mul, lN_add, nI_add, nI_1, r_lit]
        rw [es, eg]
      · rw [if_neg (fun z => q2 (c2.mpr z))] at eg
        unfold fX9_costBy_b94
        simp (disch := first | assumption | omega) only [p_some, p_gd, p_br, p_bi, p_nm, p_mp, p_Sl, p_Sr, p_bis, p_gdt, Nat.not_lt_zero, Nat.reduceEqDiff, Nat.reduceLT, Nat.reduceLeDiff, true_and, and_true, true_implies, false_implies, not_true_eq_false, not_false_eq_true, implies_true, and_self, ne_eq, decide_true, decide_false, Bool.not_true, Bool.not_false, if_true, if_false, reduceIte, nI_add, nI_1, r_lit]
        rw [es, eg]
        rfl
  · rintro w rfl
    unfold fX9_costBy_b5_i
    simp (disch := first | assumption | omega) only [p_some, p_gd, p_br, p_bi, p_nm, p_mp, p_Sl, p_Sr, p_bis, p_gdt, Nat.not_lt_zero, Nat.reduceEqDiff, Nat.reduceLT, Nat.reduceLeDiff, true_and, and_true, true_implies, false_implies, not_true_eq_false, not_false_eq_true, implies_true, and_self, ne_eq, decide_true, decide_false, Bool.not_true, Bool.not_false, if_true, if_false, reduceIte, t1, t2, t3, t4, r_lit, nI_leI, Nat.le_refl]
