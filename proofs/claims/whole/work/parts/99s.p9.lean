/-! the least cost of a night of asking: values of states -/
def a_lf (bk : Nat → Nat) (x : Nat) : Nat := if bk 5 * a_q bk x 0 ≤ bk 6 * a_q1 bk x 6 then bk 5 * a_q bk x 0 else bk 6 * a_q1 bk x 6
def a_fd (f : Nat → Nat) (x v0 : Nat) : Nat → Nat × Nat
  | 0 => (v0, 6)
  | i + 1 => if a_dg x i = 0 ∧ f (x + 3 ^ i) + f (x + 2 * 3 ^ i) < (a_fd f x v0 i).1 then (f (x + 3 ^ i) + f (x + 2 * 3 ^ i), i) else a_fd f x v0 i
def a_V (bk : Nat → Nat) : Nat → Nat → Nat × Nat
  | 0, x => (a_lf bk x * 9 ^ 0, 6)
  | d + 1, x => a_fd (fun y => (a_V bk d y).1) x (a_lf bk x * 9 ^ (d + 1)) (bk 0)
def a_cI (c : Nat) : Int32 := if c = 6 then m1 else nI c
theorem a_fd_s {f : Nat → Nat} {x v0 i : Nat} : a_fd f x v0 (i + 1) = if a_dg x i = 0 ∧ f (x + 3 ^ i) + f (x + 2 * 3 ^ i) < (a_fd f x v0 i).1 then (f (x + 3 ^ i) + f (x + 2 * 3 ^ i), i) else a_fd f x v0 i := rfl
theorem a_fd_le {f : Nat → Nat} {x v0 : Nat} : ∀ i, (a_fd f x v0 i).1 ≤ v0
  | 0 => Nat.le_refl _
  | i + 1 => by
    have ih := a_fd_le (f := f) (x := x) (v0 := v0) i
    rw [a_fd_s]
    split
    · rename_i c
      exact Nat.le_trans (Nat.le_of_lt c.2) ih
    · exact ih
theorem a_V_le {bk : Nat → Nat} {d x : Nat} : (a_V bk d x).1 ≤ a_lf bk x * 9 ^ d := by
  cases d with
  | zero => exact Nat.le_refl _
  | succ d => exact a_fd_le _
theorem a_go : ∀ x, x < 729 → ∀ t, t < 6 → a_dg x t = 0 → x + 2 * 3 ^ t < 729 ∧ a_aq (x + 3 ^ t) 6 = a_aq x 6 + 1 ∧ a_aq (x + 2 * 3 ^ t) 6 = a_aq x 6 + 1 := by decide +kernel
theorem a_qp_le {bk : Nat → Nat} (b : BOK bk) (x q : Nat) : ∀ m, m ≤ 8 → a_qp bk x q m ≤ 9 ^ m
  | 0, _ => Nat.le_refl _
  | m + 1, hm => by
    have ih := a_qp_le b x q m (by omega)
    have hp := b.pl (q := q) (t := m) (by omega)
    have e1 : a_qp bk x q (m + 1) = if a_dg x m = 0 then a_qp bk x q m else if a_dg x m = 1 then a_qp bk x q m * a_pl bk q m else a_qp bk x q m * (9 - a_pl bk q m) := rfl
    rw [e1, Nat.pow_succ]
    have h1 : a_qp bk x q m * a_pl bk q m ≤ 9 ^ m * 9 := Nat.mul_le_mul ih hp
    have h2 : a_qp bk x q m * (9 - a_pl bk q m) ≤ 9 ^ m * 9 := Nat.mul_le_mul ih (Nat.sub_le _ _)
    split
    · omega
    · split
      · exact h1
      · exact h2
theorem a_q_le {bk : Nat → Nat} (b : BOK bk) {x q : Nat} (hq : q < 7) : a_q bk x q ≤ 10628820 := Nat.le_trans (Nat.mul_le_mul (b.w hq) (a_qp_le b x q 6 (by decide))) (by decide)
theorem a_q1_le {bk : Nat → Nat} (b : BOK bk) {x : Nat} : a_q1 bk x 6 ≤ 63772920 := by
  have : a_q1 bk x 6 ≤ 6 * 10628820 := sumN_le (fun q hq => a_q_le b (by omega))
  omega

theorem a_lf_le {bk : Nat → Nat} (b : BOK bk) {x : Nat} : a_lf bk x ≤ 1052253180 := by
  have h : bk 5 * a_q bk x 0 ≤ 99 * 10628820 := Nat.mul_le_mul b.2.2.2.2.2.1 (a_q_le b (by decide))
  unfold a_lf
  split <;> omega
theorem a_V_b {bk : Nat → Nat} (b : BOK bk) {d x : Nat} (hd : d ≤ 4) : (a_V bk d x).1 ≤ 6903833114000 :=
  Nat.le_trans a_V_le (Nat.le_trans (Nat.mul_le_mul (a_lf_le b) (Nat.pow_le_pow_right (by decide) hd)) (by decide))
def mCx (x o k : Nat) : Prop := (o ≠ 10 ∨ k ≠ x) ∧ (o ≠ 11 ∨ k ≠ x)
theorem a_fd_t {f : Nat → Nat} {x v0 i : Nat} (h : a_dg x i = 0) (h2 : f (x + 3 ^ i) + f (x + 2 * 3 ^ i) < (a_fd f x v0 i).1) : a_fd f x v0 (i + 1) = (f (x + 3 ^ i) + f (x + 2 * 3 ^ i), i) := by rw [a_fd_s, if_pos ⟨h, h2⟩]
theorem a_fd_f {f : Nat → Nat} {x v0 i : Nat} (h : ¬ (a_dg x i = 0 ∧ f (x + 3 ^ i) + f (x + 2 * 3 ^ i) < (a_fd f x v0 i).1)) : a_fd f x v0 (i + 1) = a_fd f x v0 i := by rw [a_fd_s, if_neg h]
theorem a_cI_n {c : Nat} (h : ¬ c = 6) : a_cI c = nI c := if_neg h
theorem m_cbIn {h : z_T} {bk f : Nat → Nat} {n lev x v0 : Nat} {Q : (Int32 × z_T) ⊕ ((Int32 × z_T) ⊕ z_T) → Prop} (s : SM h) (hB : mB h bk) (hn : n ≤ 4) (hl : lev < n) (hx : x < 729) (hb0 : bk 0 ≤ 6)
    (hf : ∀ i, i < bk 0 → a_dg x i = 0 → z_L h 10 (x + 3 ^ i) = lN (f (x + 3 ^ i)) ∧ z_L h 10 (x + 2 * 3 ^ i) = lN (f (x + 2 * 3 ^ i))) (hfb : ∀ y, f y ≤ 6903833114000) (hv : v0 ≤ 6903833114000) (i0 : z_L h 10 x = lN v0) (i1 : z_I h 11 x = m1)
    (k : ∀ h', m_fr (mCx x) h h' → z_L h' 10 x = lN (a_fd f x v0 (bk 0)).1 → z_I h' 11 x = a_cI (a_fd f x v0 (bk 0)).2 → Q (.inl (nI (x + 1), h'))) : p_W (fX12_costsBy_b89 0 (nI n) (nI lev) (nI x) (nI 1) (nI 0) h) Q := by
  unfold fX12_costsBy_b89
  refine p_for (bk 0) (fun t w => w.1 = nI (3 ^ t) ∧ w.2.1 = nI t ∧ m_fr (mCx x) h w.2.2 ∧ z_L w.2.2 10 x = lN (a_fd f x v0 t).1 ∧ z_I w.2.2 11 x = a_cI (a_fd f x v0 t).2) ?_ ?_ 0 (by omega) ⟨rfl, rfl, m_fr.rf, i0, i1⟩
  · rintro t ⟨x4, x5, h2⟩ ht ⟨e1, e2, f2, g1, g2⟩
    dsimp only at e1 e2 f2 g1 g2
    subst e1 e2
    have s2 := f2.s s
    have hB20 : z_I h2 2 0 = nI (bk 0) := (f2.I 2 0 (by unfold mCx; omega)).trans (hB 0 (by decide))
    have p3 : 3 ^ t ≤ 243 := Nat.le_trans (Nat.pow_le_pow_right (by decide) (show t ≤ 5 by omega)) (by decide)
    have p30 : 0 < 3 ^ t := Nat.pow_pos (by decide)
    have md := m_digit (x := x) (i := t) (by omega) (by omega)
    have hd := a_dg_lt (x := x) (i := t)
    have go := a_go x hx t (by omega)
    have le := a_fd_le (f := f) (x := x) (v0 := v0) t
    have ff := hf t ht
    have ft := a_fd_t (f := f) (x := x) (v0 := v0) (i := t)
    have fn := a_fd_f (f := f) (x := x) (v0 := v0) (i := t)
    have b1 := hfb (x + 3 ^ t)
    have b2 := hfb (x + 2 * 3 ^ t)
    have ep : 3 ^ (t + 1) = 3 ^ t * 3 := rfl
    generalize 3 ^ (t + 1) = P' at ep ⊢
    generalize 3 ^ t = P at *
    generalize f (x + P) = v1 at *
    generalize f (x + 2 * P) = v2 at *
    generalize a_fd f x v0 t = r at *
    generalize a_fd f x v0 (t + 1) = r' at *
    have nxt : ∀ h3, m_fr (mCx x) h h3 → z_L h3 10 x = lN r'.1 → z_I h3 11 x = a_cI r'.2 → p_W (fX12_costsBy_b166 0 (nI n) (nI lev) (nI x) (nI P) (nI t) h3) (p_S (fun w : Int32 × Int32 × z_T => w.1 = nI P' ∧ w.2.1 = nI (t + 1) ∧ m_fr (mCx x) h w.2.2 ∧ z_L w.2.2 10 x = lN r'.1 ∧ z_I w.2.2 11 x = a_cI r'.2) Q) := fun h3 f3 q1 q2 => by
      unfold fX12_costsBy_b166
      simp (disch := first | assumption | omega) only [p_some, p_gd, p_br, p_bi, p_nm, p_mp, p_Sl, p_Sr, p_bis, p_gdt, Nat.not_lt_zero, Nat.reduceEqDiff, Nat.reduceLT, Nat.reduceLeDiff, true_and, and_true, true_implies, false_implies, not_true_eq_false, not_false_eq_true, implies_true, and_self, ne_eq, decide_true, decide_false, Bool.not_true, Bool.not_false, if_true, if_false, reduceIte, r_lit, pk_mul, nI_add, nI_1]
      exact ⟨by rw [ep], f3, q1, q2⟩
    unfold fX12_costsBy_b89_i
    simp (disch := first | assumption | omega) only [p_some, p_gd, p_br, p_bi, p_nm, p_mp, p_Sl, p_Sr, p_bis, p_gdt, q_IL, q_IR, q_LI, q_LR, q_RI, q_RL, q_KI, q_KL, q_KR, q_NI, q_NL, q_NR, q_nI, q_nL, q_nR, q_okI, q_okL, q_okR, q_Ie, q_In, q_Le, q_Ln, SM_I, SM_L, s_c0, s_cg0, s_cl0, s_cge, s_cle, r_le, r_lt, r_eq, r_md, r_2, r_3, r_lit, r_litL, r_m1, nI_add, nI_1, nI_clamp, nI_leI, nI_ltI, nI_eq, pk_sub, q_ix, nI_l, lN_add, lN_mul, r_m1n, r_m1n', r_m1lt, r_m1nlt, r_m1le, r_m1nle, Nat.not_lt_zero, Nat.reduceEqDiff, Nat.reduceLT, Nat.reduceLeDiff, true_and, and_true, true_implies, false_implies, not_true_eq_false, not_false_eq_true, implies_true, and_self, ne_eq, decide_true, decide_false, Bool.not_true, Bool.not_false, if_true, if_false, reduceIte, mk0, mk1, mk2, mk3, mk4, mk5, mk6, mk7, mk8, mk9, mk10, mk11, mk12, mk13, mk14, mk15, mk16, mk17, mk18, mk19, mk20, mk21, mk22, mn1, mn2, mn3, mn4, mn5, mn6, mn7, mn8, mn9, mn10, mn11, mn12, mn13, mn14, mn15, mn16, mn17, mn18, mn19, mn20, mn21, mn22, mr1, mr6, mr7, mr8, mr9, mr10, mr21, mr22, mr23, mr25, mr26, mr29, mr30, mr32, mr33, mr34, mr43, mr47, mr53, mr54, mr55, mr56, hB20, show ¬ bk 0 ≤ t by omega, show ¬ n ≤ lev by omega, md]
    refine ⟨fun c => ?_, fun c => ?_⟩
    · obtain ⟨q1, q2⟩ := ff c
      obtain ⟨q3, -, -⟩ := go c
      have q1' := (f2.L 10 (x + P) (by unfold mCx; omega)).trans q1
      have q2' := (f2.L 10 (x + 2 * P) (by unfold mCx; omega)).trans q2
      simp (disch := first | assumption | omega) only [p_some, p_gd, p_br, p_bi, p_nm, p_mp, p_Sl, p_Sr, p_bis, p_gdt, q_IL, q_IR, q_LI, q_LR, q_RI, q_RL, q_KI, q_KL, q_KR, q_NI, q_NL, q_NR, q_nI, q_nL, q_nR, q_okI, q_okL, q_okR, q_Ie, q_In, q_Le, q_Ln, SM_I, SM_L, s_c0, s_cg0, s_cl0, s_cge, s_cle, r_le, r_lt, r_eq, r_md, r_2, r_3, r_lit, r_litL, r_m1, nI_add, nI_1, nI_clamp, nI_leI, nI_ltI, nI_eq, pk_sub, q_ix, nI_l, lN_add, lN_mul, r_m1n, r_m1n', r_m1lt, r_m1nlt, r_m1le, r_m1nle, Nat.not_lt_zero, Nat.reduceEqDiff, Nat.reduceLT, Nat.reduceLeDiff, true_and, and_true, true_implies, false_implies, not_true_eq_false, not_false_eq_true, implies_true, and_self, ne_eq, decide_true, decide_false, Bool.not_true, Bool.not_false, if_true, if_false, reduceIte, mk0, mk1, mk2, mk3, mk4, mk5, mk6, mk7, mk8, mk9, mk10, mk11, mk12, mk13, mk14, mk15, mk16, mk17, mk18, mk19, mk20, mk21, mk22, mn1, mn2, mn3, mn4, mn5, mn6, mn7, mn8, mn9, mn10, mn11, mn12, mn13, mn14, mn15, mn16, mn17, mn18, mn19, mn20, mn21, mn22, mr1, mr6, mr7, mr8, mr9, mr10, mr21, mr22, mr23, mr25, mr26, mr29, mr30, mr32, mr33, mr34, mr43, mr47, mr53, mr54, mr55, mr56, pk_mul, q1', q2', g1]
      refine ⟨fun c2 => ?_, fun c2 => ?_⟩
      · have e := fn (fun q => by omega)
        rw [← e] at g1 g2
        exact nxt h2 f2 g1 g2
      · have e := ft c (by omega)
        refine nxt _ ((f2.sL (by unfold mCx; omega)).sI (by unfold mCx; omega)) ?_ ?_
        · rw [e]
          exact q_Le rfl rfl
        · rw [e, a_cI_n (by omega)]
          exact q_Ie rfl rfl
    · have e := fn (fun q => c q.1)
      rw [← e] at g1 g2
      exact nxt h2 f2 g1 g2
  · rintro ⟨x4, x5, h2⟩ ⟨e1, e2, f2, g1, g2⟩
    dsimp only at e1 e2 f2 g1 g2
    subst e1 e2
    have s2 := f2.s s
    have hB20 : z_I h2 2 0 = nI (bk 0) := (f2.I 2 0 (by unfold mCx; omega)).trans (hB 0 (by decide))
    have kk := k h2 f2 g1 g2
    clear k
    generalize 3 ^ bk 0 = P
    unfold fX12_costsBy_b89_i fX12_costsBy_b178
    simp (disch := first | assumption | omega) only [p_some, p_gd, p_br, p_bi, p_nm, p_mp, p_Sl, p_Sr, p_bis, p_gdt, q_IL, q_IR, q_LI, q_LR, q_RI, q_RL, q_KI, q_KL, q_KR, q_NI, q_NL, q_NR, q_nI, q_nL, q_nR, q_okI, q_okL, q_okR, q_Ie, q_In, q_Le, q_Ln, SM_I, SM_L, s_c0, s_cg0, s_cl0, s_cge, s_cle, r_le, r_lt, r_eq, r_md, r_2, r_3, r_lit, r_litL, r_m1, nI_add, nI_1, nI_clamp, nI_leI, nI_ltI, nI_eq, pk_sub, q_ix, nI_l, lN_add, lN_mul, r_m1n, r_m1n', r_m1lt, r_m1nlt, r_m1le, r_m1nle, Nat.not_lt_zero, Nat.reduceEqDiff, Nat.reduceLT, Nat.reduceLeDiff, true_and, and_true, true_implies, false_implies, not_true_eq_false, not_false_eq_true, implies_true, and_self, ne_eq, decide_true, decide_false, Bool.not_true, Bool.not_false, if_true, if_false, reduceIte, mk0, mk1, mk2, mk3, mk4, mk5, mk6, mk7, mk8, mk9, mk10, mk11, mk12, mk13, mk14, mk15, mk16, mk17, mk18, mk19, mk20, mk21, mk22, mn1, mn2, mn3, mn4, mn5, mn6, mn7, mn8, mn9, mn10, mn11, mn12, mn13, mn14, mn15, mn16, mn17, mn18, mn19, mn20, mn21, mn22, mr1, mr6, mr7, mr8, mr9, mr10, mr21, mr22, mr23, mr25, mr26, mr29, mr30, mr32, mr33, mr34, mr43, mr47, mr53, mr54, mr55, mr56, hB20, Nat.le_refl]
    exact kk
theorem m_cbNo {h : z_T} {bk : Nat → Nat} {n x : Nat} {Q : (Int32 × z_T) ⊕ ((Int32 × z_T) ⊕ z_T) → Prop} (s : SM h) (hB : mB h bk) (hn : n ≤ 4) (hx : x < 729) (hb0 : bk 0 ≤ 6)
    (k : Q (.inl (nI (x + 1), h))) : p_W (fX12_costsBy_b89 0 (nI n) (nI n) (nI x) (nI 1) (nI 0) h) Q := by
  have hB0 := hB 0 (by decide)
  unfold fX12_costsBy_b89
  refine p_for (bk 0) (fun t w => ∃ p, w = (p, nI t, h)) ?_ ?_ 0 (by omega) ⟨_, rfl⟩
  · rintro t w ht ⟨p, rfl⟩
    unfold fX12_costsBy_b89_i
    simp (disch := first | assumption | omega) only [p_some, p_gd, p_br, p_bi, p_nm, p_mp, p_Sl, p_Sr, p_bis, p_gdt, q_IL, q_IR, q_LI, q_LR, q_RI, q_RL, q_KI, q_KL, q_KR, q_NI, q_NL, q_NR, q_nI, q_nL, q_nR, q_okI, q_okL, q_okR, q_Ie, q_In, q_Le, q_Ln, SM_I, SM_L, s_c0, s_cg0, s_cl0, s_cge, s_cle, r_le, r_lt, r_eq, r_md, r_2, r_3, r_lit, r_litL, r_m1, nI_add, nI_1, nI_clamp, nI_leI, nI_ltI, nI_eq, pk_sub, q_ix, nI_l, lN_add, lN_mul, r_m1n, r_m1n', r_m1lt, r_m1nlt, r_m1le, r_m1nle, Nat.not_lt_zero, Nat.reduceEqDiff, Nat.reduceLT, Nat.reduceLeDiff, true_and, and_true, true_implies, false_implies, not_true_eq_false, not_false_eq_true, implies_true, and_self, ne_eq, decide_true, decide_false, Bool.not_true, Bool.not_false, if_true, if_false, reduceIte, mk0, mk1, mk2, mk3, mk4, mk5, mk6, mk7, mk8, mk9, mk10, mk11, mk12, mk13, mk14, mk15, mk16, mk17, mk18, mk19, mk20, mk21, mk22, mn1, mn2, mn3, mn4, mn5, mn6, mn7, mn8, mn9, mn10, mn11, mn12, mn13, mn14, mn15, mn16, mn17, mn18, mn19, mn20, mn21, mn22, mr1, mr6, mr7, mr8, mr9, mr10, mr21, mr22, mr23, mr25, mr26, mr29, mr30, mr32, mr33, mr34, mr43, mr47, mr53, mr54, mr55, mr56, hB0, show ¬ bk 0 ≤ t by omega, Nat.le_refl]
    unfold fX12_costsBy_b166
    simp (disch := first | assumption | omega) only [p_some, p_gd, p_br, p_bi, p_nm, p_mp, p_Sl, p_Sr, p_bis, p_gdt, Nat.not_lt_zero, Nat.reduceEqDiff, Nat.reduceLT, Nat.reduceLeDiff, true_and, and_true, true_implies, false_implies, not_true_eq_false, not_false_eq_true, implies_true, and_self, ne_eq, decide_true, decide_false, Bool.not_true, Bool.not_false, if_true, if_false, reduceIte, r_lit, nI_add, nI_1]
    exact ⟨_, rfl⟩
  · rintro w ⟨p, rfl⟩
    unfold fX12_costsBy_b89_i fX12_costsBy_b178
    simp (disch := first | assumption | omega) only [p_some, p_gd, p_br, p_bi, p_nm, p_mp, p_Sl, p_Sr, p_bis, p_gdt, q_IL, q_IR, q_LI, q_LR, q_RI, q_RL, q_KI, q_KL, q_KR, q_NI, q_NL, q_NR, q_nI, q_nL, q_nR, q_okI, q_okL, q_okR, q_Ie, q_In, q_Le, q_Ln, SM_I, SM_L, s_c0, s_cg0, s_cl0, s_cge, s_cle, r_le, r_lt, r_eq, r_md, r_2, r_3, r_lit, r_litL, r_m1, nI_add, nI_1, nI_clamp, nI_leI, nI_ltI, nI_eq, pk_sub, q_ix, nI_l, lN_add, lN_mul, r_m1n, r_m1n', r_m1lt, r_m1nlt, r_m1le, r_m1nle, Nat.not_lt_zero, Nat.reduceEqDiff, Nat.reduceLT, Nat.reduceLeDiff, true_and, and_true, true_implies, false_implies, not_true_eq_false, not_false_eq_true, implies_true, and_self, ne_eq, decide_true, decide_false, Bool.not_true, Bool.not_false, if_true, if_false, reduceIte, mk0, mk1, mk2, mk3, mk4, mk5, mk6, mk7, mk8, mk9, mk10, mk11, mk12, mk13, mk14, mk15, mk16, mk17, mk18, mk19, mk20, mk21, mk22, mn1, mn2, mn3, mn4, mn5, mn6, mn7, mn8, mn9, mn10, mn11, mn12, mn13, mn14, mn15, mn16, mn17, mn18, mn19, mn20, mn21, mn22, mr1, mr6, mr7, mr8, mr9, mr10, mr21, mr22, mr23, mr25, mr26, mr29, mr30, mr32, mr33, mr34, mr43, mr47, mr53, mr54, mr55, mr56, hB0, Nat.le_refl]
    exact k
