/-! what a tree costs: the call of the class; an end of the reference's tree -/
theorem x_worth0 {h : z_T} {bo n : Nat} {bk ans : Nat → Nat} (W : xNow h bo bk ans n) (r : z_R h 14 1 = none) (y : Int32) : fX11_worth 0 y h = some none := by
  obtain ⟨s, N, -⟩ := W
  refine p_of ?_
  unfold fX11_worth fX11_worth_b19
  simp (disch := first | assumption | omega) only [p_some, p_gd, p_br, p_bi, p_nm, p_mp, p_Sl, p_Sr, p_bis, p_gdt, Nat.not_lt_zero, Nat.reduceEqDiff, Nat.reduceLT, Nat.reduceLeDiff, true_and, and_true, true_implies, false_implies, not_true_eq_false, not_false_eq_true, implies_true, and_self, ne_eq, decide_true, decide_false, Bool.not_true, Bool.not_false, if_true, if_false, reduceIte, xk0 s, xr0_3 s, xk14 s, r]
  exact p_op.mpr ⟨fun _ => p_some.mpr rfl, fun x e => (by cases e)⟩
theorem x_worth {h : z_T} {bo n to cnt : Nat} {bk ans nd : Nat → Nat} (W : xNow h bo bk ans n) (b : BOK bk) (r : z_R h 14 1 = some to) (T : xTn h to nd cnt) (K : TOK (bk 0) nd) (P : TPA nd) (Mb : ∀ q, nd q ≤ 10) (y : Int32) : fX11_worth 0 y h = some (a_worth bk nd y) := by
  obtain ⟨s, N, -⟩ := W
  have B := N.2.2.1
  have cb := x_costBy b B T K P Mb
  have tl : a_ts bk nd ≤ 31 * (99 * 787320) := sumN_le (fun p _ => a_gc_le b K P)
  have pw := x_power (n := 4) (by omega)
  have eW : sumN (a_w bk) 7 = a_W bk := rfl
  obtain ⟨-, w1, w2⟩ := b.W
  obtain ⟨q1, q2⟩ := a_W9 b (show 4 ≤ 8 by omega)
  refine p_of ?_
  generalize hQ : (fun w => w = a_worth bk nd y) = Q
  have kk : Q (a_worth bk nd y) := by rw [← hQ]
  clear hQ
  unfold a_worth at kk
  unfold fX11_worth fX11_worth_b19
  simp (disch := first | assumption | omega) only [p_some, p_gd, p_br, p_bi, p_nm, p_mp, p_Sl, p_Sr, p_bis, p_gdt, Nat.not_lt_zero, Nat.reduceEqDiff, Nat.reduceLT, Nat.reduceLeDiff, true_and, and_true, true_implies, false_implies, not_true_eq_false, not_false_eq_true, implies_true, and_self, ne_eq, decide_true, decide_false, Bool.not_true, Bool.not_false, if_true, if_false, reduceIte, xk0 s, xr0_3 s, xk14 s, r]
  refine p_op.mpr ⟨fun e => (by cases e), fun x e => ?_⟩
  have e2 : x = to := (Option.some.inj e).symm
  subst e2
  simp (disch := first | assumption | omega) only [p_some, p_gd, p_br, p_bi, p_nm, p_mp, p_Sl, p_Sr, p_bis, p_gdt, Nat.not_lt_zero, Nat.reduceEqDiff, Nat.reduceLT, Nat.reduceLeDiff, true_and, and_true, true_implies, false_implies, not_true_eq_false, not_false_eq_true, implies_true, and_self, ne_eq, decide_true, decide_false, Bool.not_true, Bool.not_false, if_true, if_false, reduceIte, x_isSide, r_lit, bI_0]
  refine ⟨fun c => ?_, fun c => ?_⟩
  · rw [if_neg c] at kk
    exact kk
  · obtain ⟨w, hw, e3⟩ := z_ixn c (by omega)
    rw [if_pos (Classical.not_not.mp c)] at kk
    subst e3
    unfold a_side at kk
    rw [nI_clamp (by omega)] at kk
    generalize a_ts bk nd = S at *
    simp (disch := first | assumption | omega) only [p_some, p_gd, p_br, p_bi, p_nm, p_mp, p_Sl, p_Sr, p_bis, p_gdt, Nat.not_lt_zero, Nat.reduceEqDiff, Nat.reduceLT, Nat.reduceLeDiff, true_and, and_true, true_implies, false_implies, not_true_eq_false, not_false_eq_true, implies_true, and_self, ne_eq, decide_true, decide_false, Bool.not_true, Bool.not_false, if_true, if_false, reduceIte, xr14_0 s, xo_0 N.1, N.2.1, T.1, cb, xb_0 B.1, x_allWeights B, eW, pw, nI_l, lN_mul, x_fraction]
    exact kk
theorem mTr.v {h : z_T} {nd pos : Nat → Nat} {m : Nat} (M : mTr h nd pos m) : (∀ i, i < m → z_I h 2 (52 + 4 * i) = a_nv (nd (pos i))) ∧ (∀ j, j < m → (pos j = 1 ∧ z_I h 2 (52 + 4 * j + 3) = m1) ∨ (2 ≤ pos j ∧ ∃ i, i < m ∧ pos i = pos j / 2 ∧ z_I h 2 (52 + 4 * j + 3) = nI i)) ∧ ∀ i j, i < m → j < m → pos j = 2 * pos i → z_I h 2 (52 + 4 * i + 1) = nI j := by
  obtain ⟨-, -, -, ⟨M1, M2, M3, M4, M5, M6, M7⟩, -⟩ := M
  refine ⟨M4, fun j hj => ?_, fun i j hi hj e => ?_⟩
  · have := M5 j hj
    rw [show 52 + 4 * j + 3 = 52 + (4 * j + 3) by omega]
    exact this
  · have := M6 i j 0 hi hj (by omega) (by omega)
    rw [show 52 + 4 * i + 1 = 52 + (4 * i + 1 + 0) by omega]
    exact this
theorem m_ecLoop {h : z_T} {bk nd pos : Nat → Nat} {m q e : Nat} {l2 l4 : Int64} {Q : (Int64 × Int64 × Int32 × Int32) ⊕ Int64 → Prop} (s : SM h) (b : BOK bk) (hB : mB h bk) (M : mTr h nd pos m) (K : TOK (bk 0) nd) (P : TPA nd) (hq : q < 7) : ∀ k i v a u, i < m → pos i < 2 ^ k → u = z_I h 2 (52 + 4 * i + 3) → p_W (y_br (nI q = 0) (fX12_endCost_b149 0 (nI e) l4 (nI (a + a_dp k (pos i))) (nI q) (lN (a_un bk nd q k (pos i) v)) l2 (lN (a_un bk nd q k (pos i) v)) h) (fX12_endCost_b149 0 (nI e) l4 (nI (a + a_dp k (pos i))) (nI q) (lN (a_un bk nd q k (pos i) v)) l2 (0 : Int64) h)) Q → p_W (y_lp (fun w : Int32 × Int64 × Int32 × Int32 => fX12_endCost_b50_i 0 (nI e) l2 l4 (nI q) h w.1 w.2.1 w.2.2.1 w.2.2.2) (nI a, lN v, nI i, u)) Q := by
  have h8 := b.1
  obtain ⟨v0, v3, v1⟩ := M.v
  have m31 := M.2.2.1
  have hM := M.2.2.2.1
  have M1 := hM.1
  have base : ∀ i v a, pos i = 1 → i < m → p_W (y_br (nI q = 0) (fX12_endCost_b149 0 (nI e) l4 (nI a) (nI q) (lN v) l2 (lN v) h) (fX12_endCost_b149 0 (nI e) l4 (nI a) (nI q) (lN v) l2 (0 : Int64) h)) Q → p_W (y_lp (fun w : Int32 × Int64 × Int32 × Int32 => fX12_endCost_b50_i 0 (nI e) l2 l4 (nI q) h w.1 w.2.1 w.2.2.1 w.2.2.2) (nI a, lN v, nI i, m1)) Q := fun i v a hp hi kk => by
    refine p_unP (fun P hP => ?_)
    unfold fX12_endCost_b50_i
    dsimp only
    rw [p_brT (show m1 < 0 by decide)]
    exact p_mp.mpr kk
  intro k
  induction k with
  | zero =>
    intro i v a u hi hp hu kk
    rw [Nat.pow_zero] at hp
    have := (M1 i hi).1
    omega
  | succ k ih =>
    intro i v a u hi hp hu kk
    rw [a_un, a_dp] at kk
    have p1 := (M1 i hi).1
    by_cases c : pos i ≤ 1
    · rw [if_pos c, if_pos c] at kk
      rcases v3 i hi with ⟨q1, q2⟩ | ⟨q1, -⟩
      · rw [q2] at hu
        subst hu
        exact base i v a q1 hi kk
      · omega
    · rw [if_neg c, if_neg c] at kk
      rw [Nat.pow_succ] at hp
      rcases v3 i hi with ⟨q1, q2⟩ | ⟨q1, r, hr, q2, q3⟩
      · omega
      · rw [q3] at hu
        subst hu
        have t3 := (P (pos i) (M1 i hi).2.2).resolve_left (by omega)
        obtain ⟨lt, g16, g2, g3⟩ := K.2.2.2 _ t3
        have e0 := v0 r hr
        rw [q2, a_nv_3 t3] at e0
        have mp := m_plain s b hB (q := q) (t := nd (pos i / 2) - 3) hq (by omega)
        obtain ⟨j, hj, ej⟩ := hM.at (p := 2 * (pos i / 2)) (by omega) g2
        have e1 := v1 r j hr hj (by rw [ej, q2])
        have e3 := fun u hu => ih r (v * a_fc bk nd q (pos i)) (a + 1) u hr (by omega) hu
        rw [q2] at e3
        have key : j = i ↔ pos i % 2 = 0 := by
          constructor
          · intro e; subst e; omega
          · intro e; exact hM.2.1 j i hj hi (by omega)
        have kk' : ∀ u, u = z_I h 2 (52 + 4 * r + 3) → p_W (y_lp (fun w : Int32 × Int64 × Int32 × Int32 => fX12_endCost_b50_i 0 (nI e) l2 l4 (nI q) h w.1 w.2.1 w.2.2.1 w.2.2.2) (nI (a + 1), lN (v * a_fc bk nd q (pos i)), nI r, u)) Q := fun u hu => e3 u hu (by rw [show a + 1 + a_dp k (pos i / 2) = a + (a_dp k (pos i / 2) + 1) by omega]; exact kk)
        clear kk e3 ih base
        have pl := b.pl (q := q) (t := nd (pos i / 2) - 3) (by omega)
        have ef : a_fc bk nd q (pos i) = if pos i % 2 = 0 then a_pl bk q (nd (pos i / 2) - 3) else 9 - a_pl bk q (nd (pos i / 2) - 3) := rfl
        generalize a_fc bk nd q (pos i) = fc at *
        generalize a_pl bk q (nd (pos i / 2) - 3) = c9 at *
        have k9 := kk' _ rfl
        clear kk'
        refine p_unP (fun P' hP => ?_)
        unfold fX12_endCost_b50_i fX12_endCost_b108
        simp (disch := first | assumption | omega) only [p_some, p_gd, p_br, p_bi, p_nm, p_mp, p_Sl, p_Sr, p_bis, p_gdt, q_IL, q_IR, q_LI, q_LR, q_RI, q_RL, q_KI, q_KL, q_KR, q_NI, q_NL, q_NR, q_nI, q_nL, q_nR, q_okI, q_okL, q_okR, q_Ie, q_In, q_Le, q_Ln, SM_I, SM_L, s_c0, s_cg0, s_cl0, s_cge, s_cle, r_le, r_lt, r_eq, r_md, r_2, r_3, r_lit, r_litL, r_m1, nI_add, nI_1, nI_clamp, nI_leI, nI_ltI, nI_eq, pk_sub, q_ix, nI_l, lN_add, lN_mul, r_m1n, r_m1n', r_m1lt, r_m1nlt, r_m1le, r_m1nle, Nat.not_lt_zero, Nat.reduceEqDiff, Nat.reduceLT, Nat.reduceLeDiff, true_and, and_true, true_implies, false_implies, not_true_eq_false, not_false_eq_true, implies_true, and_self, ne_eq, decide_true, decide_false, Bool.not_true, Bool.not_false, if_true, if_false, reduceIte, mk0, mk1, mk2, mk3, mk4, mk5, mk6, mk7, mk8, mk9, mk10, mk11, mk12, mk13, mk14, mk15, mk16, mk17, mk18, mk19, mk20, mk21, mk22, mn1, mn2, mn3, mn4, mn5, mn6, mn7, mn8, mn9, mn10, mn11, mn12, mn13, mn14, mn15, mn16, mn17, mn18, mn19, mn20, mn21, mn22, mr1, mr6, mr7, mr8, mr9, mr10, mr21, mr22, mr23, mr25, mr26, mr29, mr30, mr32, mr33, mr34, mr43, mr47, mr53, mr54, mr55, mr56, pk_mul, e0, mp, e1]
        refine ⟨fun z => ?_, fun z => ?_⟩
        · rw [if_pos (key.mp z)] at ef
          refine hP _ ?_
          rw [← ef]
          exact k9
        · rw [if_neg (fun y => z (key.mpr y))] at ef
          refine hP _ ?_
          rw [← ef]
          exact k9
