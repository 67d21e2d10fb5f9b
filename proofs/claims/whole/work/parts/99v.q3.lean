/-! the class's plan: rows of weights, costs of a state -/
def a_mk (x : Nat) : Nat := a_bs (fun i => !decide (a_dg x i = 0)) 6
theorem a_mk_pc : ∀ x, x < 729 → a_pc (a_mk x) = a_aq x 6 := by decide +kernel
theorem a_mk_lt {x : Nat} : a_mk x < 64 := a_bs_lt _ 6
theorem a_mk_tb {x i : Nat} (hi : i < 6) : ((a_mk x).testBit i = false) = (a_dg x i = 0) := by
  unfold a_mk
  rw [a_bs_tb, show decide (i < 6) = true from decide_eq_true hi, Bool.true_and]
  by_cases c : a_dg x i = 0
  · simp [c]
  · simp [c]
theorem a_go2 : ∀ x, x < 729 → ∀ t, t < 6 → a_dg x t = 0 → (∀ i, i < 6 → a_dg (x + 3 ^ t) i = if i = t then 1 else a_dg x i) ∧ (∀ i, i < 6 → a_dg (x + 2 * 3 ^ t) i = if i = t then 2 else a_dg x i) := by decide +kernel
theorem a_mk_go {x y t e : Nat} (ht : t < 6) (he : ¬ e = 0) (hd : ∀ i, i < 6 → a_dg y i = if i = t then e else a_dg x i) : a_mk y = a_mk x ||| 2 ^ t := by
  refine Nat.eq_of_testBit_eq (fun i => ?_)
  rw [Nat.testBit_or, Nat.testBit_two_pow]
  unfold a_mk
  rw [a_bs_tb, a_bs_tb]
  by_cases c : i < 6
  · rw [hd i c]
    by_cases e2 : i = t
    · subst e2
      simp [c, he]
    · rw [if_neg e2, decide_eq_false (show ¬ t = i by omega), Bool.or_false]
  · rw [decide_eq_false c, decide_eq_false (show ¬ t = i by omega)]
    rfl
def a_F (bk : Nat → Nat) (q t e : Nat) : Nat := if e = 1 then a_pl bk q t else 9 - a_pl bk q t
theorem a_qp_s {bk : Nat → Nat} {x q m : Nat} : a_qp bk x q (m + 1) = if a_dg x m = 0 then a_qp bk x q m else a_qp bk x q m * a_F bk q m (a_dg x m) := by
  have e1 : a_qp bk x q (m + 1) = if a_dg x m = 0 then a_qp bk x q m else if a_dg x m = 1 then a_qp bk x q m * a_pl bk q m else a_qp bk x q m * (9 - a_pl bk q m) := rfl
  rw [e1]
  unfold a_F
  by_cases c : a_dg x m = 0
  · rw [if_pos c, if_pos c]
  · rw [if_neg c, if_neg c]
    by_cases c2 : a_dg x m = 1
    · rw [if_pos c2, if_pos c2]
    · rw [if_neg c2, if_neg c2]
theorem a_qp_go {bk : Nat → Nat} {x y q t e : Nat} (h0 : a_dg x t = 0) (he : ¬ e = 0) (hd : ∀ i, i < 6 → a_dg y i = if i = t then e else a_dg x i) : ∀ m, m ≤ 6 → a_qp bk y q m = a_qp bk x q m * (if t < m then a_F bk q t e else 1)
  | 0, _ => by rw [if_neg (Nat.not_lt_zero _)]; rfl
  | m + 1, hm => by
    have ih := a_qp_go (bk := bk) (q := q) h0 he hd m (by omega)
    rw [a_qp_s, a_qp_s, hd m (by omega), ih]
    by_cases c : m = t
    · subst c
      rw [if_pos rfl, if_neg he, if_pos h0, if_neg (Nat.lt_irrefl _), if_pos (Nat.lt_succ_self _), Nat.mul_one]
    · rw [if_neg c]
      have e3 : (if t < m + 1 then a_F bk q t e else 1) = (if t < m then a_F bk q t e else 1) := by
        by_cases c2 : t < m
        · rw [if_pos c2, if_pos (by omega)]
        · rw [if_neg c2, if_neg (by omega)]
      rw [e3]
      by_cases c2 : a_dg x m = 0
      · rw [if_pos c2, if_pos c2]
      · rw [if_neg c2, if_neg c2, Nat.mul_right_comm]
theorem a_q_go {bk : Nat → Nat} {x y q t e : Nat} (ht : t < 6) (h0 : a_dg x t = 0) (he : ¬ e = 0) (hd : ∀ i, i < 6 → a_dg y i = if i = t then e else a_dg x i) : a_q bk y q = a_q bk x q * a_F bk q t e := by
  unfold a_q
  rw [a_qp_go h0 he hd 6 (Nat.le_refl 6), if_pos ht, Nat.mul_assoc]
def xPl (h : z_T) (bo : Nat) (bk : Nat → Nat) : Prop := z_R h 68 5 = some bo ∧ xBk h bo bk ∧ (bo = 1 ∨ 83 ≤ bo)
theorem SX.row {h : z_T} (s : SX h) : ∀ d, d < 5 → z_R h 69 d = some (70 + d) ∧ z_ok h (70 + d) 14 = true ∧ z_N h (70 + d) = 7
  | 0, _ => ⟨xr69_0 s, xk70 s, xn70 s⟩
  | 1, _ => ⟨xr69_1 s, xk71 s, xn71 s⟩
  | 2, _ => ⟨xr69_2 s, xk72 s, xn72 s⟩
  | 3, _ => ⟨xr69_3 s, xk73 s, xn73 s⟩
  | 4, _ => ⟨xr69_4 s, xk74 s, xn74 s⟩
  | d + 5, hd => absurd hd (by omega)
theorem x_costOfBed {h : z_T} {bo a : Nat} {bk w : Nat → Nat} (s : SX h) (b : BOK bk) (P : xPl h bo bk) (ha : a < 5) (hw : ∀ q, q < 7 → z_L h (70 + a) q = lN (w q)) : fX5_costOfBed 68 (nI a) h = some (lN (bk 5 * w 0)) := by
  obtain ⟨r1, B, -⟩ := P
  obtain ⟨p1, p2, p3⟩ := s.row a ha
  have h5 : bk (2 + 3) ≤ 99 := b.2.2.2.2.2.1
  have w0 := hw 0 (by decide)
  refine p_of ?_
  unfold fX5_costOfBed
  simp (disch := first | assumption | omega) only [p_some, p_gd, p_br, p_bi, p_nm, p_mp, p_Sl, p_Sr, p_bis, p_gdt, q_IL, q_IR, q_LI, q_LR, q_RI, q_RL, q_KI, q_KL, q_KR, q_NI, q_NL, q_NR, q_nI, q_nL, q_nR, q_okI, q_okL, q_okR, q_Ie, q_In, q_Le, q_Ln, SM_I, SM_L, s_c0, s_cg0, s_cl0, s_cge, s_cle, r_le, r_lt, r_eq, r_md, r_2, r_3, r_lit, r_litL, r_m1, nI_add, nI_1, nI_clamp, nI_leI, nI_ltI, nI_eq, pk_sub, q_ix, nI_l, lN_add, lN_mul, r_m1n, r_m1n', r_m1lt, r_m1nlt, r_m1le, r_m1nle, Nat.not_lt_zero, Nat.reduceEqDiff, Nat.reduceLT, Nat.reduceLeDiff, true_and, and_true, true_implies, false_implies, not_true_eq_false, not_false_eq_true, implies_true, and_self, ne_eq, decide_true, decide_false, Bool.not_true, Bool.not_false, if_true, if_false, reduceIte, xb_0, xb_1, xb_2, xb_3, xb_4, xb_5, xb_6, xb_7, xb_8, xb_9, xb_10, xb_11, xb_12, xb_13, xb_14, xb_15, xb_16, xb_17, xb_18, xb_19, xb_20, xb_21, xo_0, xo_1, xo_2, xo_3, xo_4, xo_5, xo_6, xo_7, xo_8, xo_9, xk68 s, xr68_0 s, xk69 s, xn69 s, r1, xb_0 B.1, x_setting B, p1, p2, p3, w0, ha]
theorem x_costOfUp {h : z_T} {bo a : Nat} {bk w : Nat → Nat} (s : SX h) (b : BOK bk) (P : xPl h bo bk) (ha : a < 5) (hw : ∀ q, q < 7 → z_L h (70 + a) q = lN (w q)) : fX5_costOfUp 68 (nI a) h = some (lN (bk 6 * sumN (fun q => w (q + 1)) 6)) := by
  obtain ⟨r1, B, -⟩ := P
  obtain ⟨p1, p2, p3⟩ := s.row a ha
  have h6 : bk (2 + 4) ≤ 99 := b.2.2.2.2.2.2.1
  refine p_of ?_
  unfold fX5_costOfUp
  simp (disch := first | assumption | omega) only [p_some, p_gd, p_br, p_bi, p_nm, p_mp, p_Sl, p_Sr, p_bis, p_gdt, q_IL, q_IR, q_LI, q_LR, q_RI, q_RL, q_KI, q_KL, q_KR, q_NI, q_NL, q_NR, q_nI, q_nL, q_nR, q_okI, q_okL, q_okR, q_Ie, q_In, q_Le, q_Ln, SM_I, SM_L, s_c0, s_cg0, s_cl0, s_cge, s_cle, r_le, r_lt, r_eq, r_md, r_2, r_3, r_lit, r_litL, r_m1, nI_add, nI_1, nI_clamp, nI_leI, nI_ltI, nI_eq, pk_sub, q_ix, nI_l, lN_add, lN_mul, r_m1n, r_m1n', r_m1lt, r_m1nlt, r_m1le, r_m1nle, Nat.not_lt_zero, Nat.reduceEqDiff, Nat.reduceLT, Nat.reduceLeDiff, true_and, and_true, true_implies, false_implies, not_true_eq_false, not_false_eq_true, implies_true, and_self, ne_eq, decide_true, decide_false, Bool.not_true, Bool.not_false, if_true, if_false, reduceIte, xb_0, xb_1, xb_2, xb_3, xb_4, xb_5, xb_6, xb_7, xb_8, xb_9, xb_10, xb_11, xb_12, xb_13, xb_14, xb_15, xb_16, xb_17, xb_18, xb_19, xb_20, xb_21, xo_0, xo_1, xo_2, xo_3, xo_4, xo_5, xo_6, xo_7, xo_8, xo_9, xk68 s, xr68_0 s, xk69 s, xn69 s, ha]
  unfold fX5_costOfUp_b20
  refine p_for 6 (fun j v => v = (lN (sumN (fun q => w (q + 1)) j), nI (j + 1))) ?_ ?_ 0 (by omega) rfl
  · rintro j v hj rfl
    have wj := hw (j + 1) (by omega)
    unfold fX5_costOfUp_b20_i
    simp (disch := first | assumption | omega) only [p_some, p_gd, p_br, p_bi, p_nm, p_mp, p_Sl, p_Sr, p_bis, p_gdt, q_IL, q_IR, q_LI, q_LR, q_RI, q_RL, q_KI, q_KL, q_KR, q_NI, q_NL, q_NR, q_nI, q_nL, q_nR, q_okI, q_okL, q_okR, q_Ie, q_In, q_Le, q_Ln, SM_I, SM_L, s_c0, s_cg0, s_cl0, s_cge, s_cle, r_le, r_lt, r_eq, r_md, r_2, r_3, r_lit, r_litL, r_m1, nI_add, nI_1, nI_clamp, nI_leI, nI_ltI, nI_eq, pk_sub, q_ix, nI_l, lN_add, lN_mul, r_m1n, r_m1n', r_m1lt, r_m1nlt, r_m1le, r_m1nle, Nat.not_lt_zero, Nat.reduceEqDiff, Nat.reduceLT, Nat.reduceLeDiff, true_and, and_true, true_implies, false_implies, not_true_eq_false, not_false_eq_true, implies_true, and_self, ne_eq, decide_true, decide_false, Bool.not_true, Bool.not_false, if_true, if_false, reduceIte, xb_0, xb_1, xb_2, xb_3, xb_4, xb_5, xb_6, xb_7, xb_8, xb_9, xb_10, xb_11, xb_12, xb_13, xb_14, xb_15, xb_16, xb_17, xb_18, xb_19, xb_20, xb_21, xo_0, xo_1, xo_2, xo_3, xo_4, xo_5, xo_6, xo_7, xo_8, xo_9, xk68 s, xr68_0 s, xk69 s, xn69 s, p1, p2, p3, wj, ha, show ¬ 7 ≤ j + 1 by omega]
    rw [sumN]
  · rintro v rfl
    generalize sumN (fun q => w (q + 1)) 6 = W
    unfold fX5_costOfUp_b20_i
    rw [p_brT (show (7 : Int32) ≤ nI (6 + 1) by decide)]
    simp (disch := first | assumption | omega) only [p_some, p_gd, p_br, p_bi, p_nm, p_mp, p_Sl, p_Sr, p_bis, p_gdt, q_IL, q_IR, q_LI, q_LR, q_RI, q_RL, q_KI, q_KL, q_KR, q_NI, q_NL, q_NR, q_nI, q_nL, q_nR, q_okI, q_okL, q_okR, q_Ie, q_In, q_Le, q_Ln, SM_I, SM_L, s_c0, s_cg0, s_cl0, s_cge, s_cle, r_le, r_lt, r_eq, r_md, r_2, r_3, r_lit, r_litL, r_m1, nI_add, nI_1, nI_clamp, nI_leI, nI_ltI, nI_eq, pk_sub, q_ix, nI_l, lN_add, lN_mul, r_m1n, r_m1n', r_m1lt, r_m1nlt, r_m1le, r_m1nle, Nat.not_lt_zero, Nat.reduceEqDiff, Nat.reduceLT, Nat.reduceLeDiff, true_and, and_true, true_implies, false_implies, not_true_eq_false, not_false_eq_true, implies_true, and_self, ne_eq, decide_true, decide_false, Bool.not_true, Bool.not_false, if_true, if_false, reduceIte, xb_0, xb_1, xb_2, xb_3, xb_4, xb_5, xb_6, xb_7, xb_8, xb_9, xb_10, xb_11, xb_12, xb_13, xb_14, xb_15, xb_16, xb_17, xb_18, xb_19, xb_20, xb_21, xo_0, xo_1, xo_2, xo_3, xo_4, xo_5, xo_6, xo_7, xo_8, xo_9, xk68 s, r1, xb_0 B.1, x_setting B]
theorem x_goOn {h : z_T} {bo a t e : Nat} {bk w : Nat → Nat} {Q : z_T → Prop} (s : SX h) (b : BOK bk) (P : xPl h bo bk) (ha : a < 4) (ht : t < 8) (he : e = 1 ∨ e = 0) (hw : ∀ q, q < 7 → z_L h (70 + a) q = lN (w q))
    (k : ∀ h', x_fr (fun o _ => o ≠ 71 + a) h h' → (∀ q, q < 7 → z_L h' (71 + a) q = lN (w q * a_F bk q t e)) → Q h') : p_W (fX5_goOn 68 (nI a) (nI t) (nI e) h) Q := by
  unfold fX5_goOn
  simp (disch := first | assumption | omega) only [p_some, p_gd, p_br, p_bi, p_nm, p_mp, p_Sl, p_Sr, p_bis, p_gdt, q_IL, q_IR, q_LI, q_LR, q_RI, q_RL, q_KI, q_KL, q_KR, q_NI, q_NL, q_NR, q_nI, q_nL, q_nR, q_okI, q_okL, q_okR, q_Ie, q_In, q_Le, q_Ln, SM_I, SM_L, s_c0, s_cg0, s_cl0, s_cge, s_cle, r_le, r_lt, r_eq, r_md, r_2, r_3, r_lit, r_litL, r_m1, nI_add, nI_1, nI_clamp, nI_leI, nI_ltI, nI_eq, pk_sub, q_ix, nI_l, lN_add, lN_mul, r_m1n, r_m1n', r_m1lt, r_m1nlt, r_m1le, r_m1nle, Nat.not_lt_zero, Nat.reduceEqDiff, Nat.reduceLT, Nat.reduceLeDiff, true_and, and_true, true_implies, false_implies, not_true_eq_false, not_false_eq_true, implies_true, and_self, ne_eq, decide_true, decide_false, Bool.not_true, Bool.not_false, if_true, if_false, reduceIte, xb_0, xb_1, xb_2, xb_3, xb_4, xb_5, xb_6, xb_7, xb_8, xb_9, xb_10, xb_11, xb_12, xb_13, xb_14, xb_15, xb_16, xb_17, xb_18, xb_19, xb_20, xb_21, xo_0, xo_1, xo_2, xo_3, xo_4, xo_5, xo_6, xo_7, xo_8, xo_9, xk68 s, xr68_0 s, xk69 s, xn69 s, show a + 1 < 5 by omega]
  unfold fX5_goOn_b19
  refine p_for 7 (fun j v => v.1 = nI j ∧ x_fr (fun o _ => o ≠ 71 + a) h v.2 ∧ ∀ q, q < j → z_L v.2 (71 + a) q = lN (w q * a_F bk q t e)) ?_ ?_ 0 (by omega) ⟨rfl, x_fr.rf, fun q hq => absurd hq (by omega)⟩
  · rintro j ⟨y, h1⟩ hj ⟨e1, f1, g⟩
    dsimp only at e1 f1 g
    subst e1
    have h0 := s.1
    have s1 := f1.s s
    obtain ⟨r1, B, hb⟩ := P
    have B1 : xBk h1 bo bk := B.fr f1 hb (fun i k hi => by omega)
    have r1' := (f1.R 68 5 (by omega) (by omega)).trans r1
    obtain ⟨p1, p2, p3⟩ := s1.row a (by omega)
    obtain ⟨u1, u2, u3⟩ := s1.row (a + 1) (by omega)
    rw [show 70 + (a + 1) = 71 + a by omega] at u1 u2 u3
    have wj := (f1.L (70 + a) j (by omega) (by omega)).trans (hw j hj)
    have hp := b.pl (q := j) (t := t) ht
    unfold fX5_goOn_b19_i
    simp (disch := first | assumption | omega) only [p_some, p_gd, p_br, p_bi, p_nm, p_mp, p_Sl, p_Sr, p_bis, p_gdt, q_IL, q_IR, q_LI, q_LR, q_RI, q_RL, q_KI, q_KL, q_KR, q_NI, q_NL, q_NR, q_nI, q_nL, q_nR, q_okI, q_okL, q_okR, q_Ie, q_In, q_Le, q_Ln, SM_I, SM_L, s_c0, s_cg0, s_cl0, s_cge, s_cle, r_le, r_lt, r_eq, r_md, r_2, r_3, r_lit, r_litL, r_m1, nI_add, nI_1, nI_clamp, nI_leI, nI_ltI, nI_eq, pk_sub, q_ix, nI_l, lN_add, lN_mul, r_m1n, r_m1n', r_m1lt, r_m1nlt, r_m1le, r_m1nle, Nat.not_lt_zero, Nat.reduceEqDiff, Nat.reduceLT, Nat.reduceLeDiff, true_and, and_true, true_implies, false_implies, not_true_eq_false, not_false_eq_true, implies_true, and_self, ne_eq, decide_true, decide_false, Bool.not_true, Bool.not_false, if_true, if_false, reduceIte, xb_0, xb_1, xb_2, xb_3, xb_4, xb_5, xb_6, xb_7, xb_8, xb_9, xb_10, xb_11, xb_12, xb_13, xb_14, xb_15, xb_16, xb_17, xb_18, xb_19, xb_20, xb_21, xo_0, xo_1, xo_2, xo_3, xo_4, xo_5, xo_6, xo_7, xo_8, xo_9, xk68 s1, xr68_0 s1, xk69 s1, xn69 s1, r1', xb_0 B1.1, x_plainChance B1, p1, p2, p3, u1, u2, u3, wj, show ¬ 7 ≤ j by omega]
    unfold fX5_goOn_b72
    have eF : a_F bk j t e = if e = 1 then a_pl bk j t else 9 - a_pl bk j t := rfl
    refine ⟨fun c => ?_, fun c => ?_⟩
    · rw [if_pos c] at eF
      simp (disch := first | assumption | omega) only [p_some, p_gd, p_br, p_bi, p_nm, p_mp, p_Sl, p_Sr, p_bis, p_gdt, q_IL, q_IR, q_LI, q_LR, q_RI, q_RL, q_KI, q_KL, q_KR, q_NI, q_NL, q_NR, q_nI, q_nL, q_nR, q_okI, q_okL, q_okR, q_Ie, q_In, q_Le, q_Ln, SM_I, SM_L, s_c0, s_cg0, s_cl0, s_cge, s_cle, r_le, r_lt, r_eq, r_md, r_2, r_3, r_lit, r_litL, r_m1, nI_add, nI_1, nI_clamp, nI_leI, nI_ltI, nI_eq, pk_sub, q_ix, nI_l, lN_add, lN_mul, r_m1n, r_m1n', r_m1lt, r_m1nlt, r_m1le, r_m1nle, Nat.not_lt_zero, Nat.reduceEqDiff, Nat.reduceLT, Nat.reduceLeDiff, true_and, and_true, true_implies, false_implies, not_true_eq_false, not_false_eq_true, implies_true, and_self, ne_eq, decide_true, decide_false, Bool.not_true, Bool.not_false, if_true, if_false, reduceIte, xb_0, xb_1, xb_2, xb_3, xb_4, xb_5, xb_6, xb_7, xb_8, xb_9, xb_10, xb_11, xb_12, xb_13, xb_14, xb_15, xb_16, xb_17, xb_18, xb_19, xb_20, xb_21, xo_0, xo_1, xo_2, xo_3, xo_4, xo_5, xo_6, xo_7, xo_8, xo_9, u2, u3]
      refine ⟨f1.sL (fun _ => by omega), fun q hq => ?_⟩
      by_cases e2 : q = j
      · rw [q_Le rfl e2, e2, eF]
      · rw [q_Ln (by omega)]
        exact g q (by omega)
    · rw [if_neg c] at eF
      simp (disch := first | assumption | omega) only [p_some, p_gd, p_br, p_bi, p_nm, p_mp, p_Sl, p_Sr, p_bis, p_gdt, q_IL, q_IR, q_LI, q_LR, q_RI, q_RL, q_KI, q_KL, q_KR, q_NI, q_NL, q_NR, q_nI, q_nL, q_nR, q_okI, q_okL, q_okR, q_Ie, q_In, q_Le, q_Ln, SM_I, SM_L, s_c0, s_cg0, s_cl0, s_cge, s_cle, r_le, r_lt, r_eq, r_md, r_2, r_3, r_lit, r_litL, r_m1, nI_add, nI_1, nI_clamp, nI_leI, nI_ltI, nI_eq, pk_sub, q_ix, nI_l, lN_add, lN_mul, r_m1n, r_m1n', r_m1lt, r_m1nlt, r_m1le, r_m1nle, Nat.not_lt_zero, Nat.reduceEqDiff, Nat.reduceLT, Nat.reduceLeDiff, true_and, and_true, true_implies, false_implies, not_true_eq_false, not_false_eq_true, implies_true, and_self, ne_eq, decide_true, decide_false, Bool.not_true, Bool.not_false, if_true, if_false, reduceIte, xb_0, xb_1, xb_2, xb_3, xb_4, xb_5, xb_6, xb_7, xb_8, xb_9, xb_10, xb_11, xb_12, xb_13, xb_14, xb_15, xb_16, xb_17, xb_18, xb_19, xb_20, xb_21, xo_0, xo_1, xo_2, xo_3, xo_4, xo_5, xo_6, xo_7, xo_8, xo_9, u2, u3]
      refine ⟨f1.sL (fun _ => by omega), fun q hq => ?_⟩
      by_cases e2 : q = j
      · rw [q_Le rfl e2, e2, eF]
      · rw [q_Ln (by omega)]
        exact g q (by omega)
  · rintro ⟨y, h1⟩ ⟨e1, f1, g⟩
    dsimp only at e1 f1 g
    subst e1
    unfold fX5_goOn_b19_i
    simp (disch := first | assumption | omega) only [p_some, p_gd, p_br, p_bi, p_nm, p_mp, p_Sl, p_Sr, p_bis, p_gdt, q_IL, q_IR, q_LI, q_LR, q_RI, q_RL, q_KI, q_KL, q_KR, q_NI, q_NL, q_NR, q_nI, q_nL, q_nR, q_okI, q_okL, q_okR, q_Ie, q_In, q_Le, q_Ln, SM_I, SM_L, s_c0, s_cg0, s_cl0, s_cge, s_cle, r_le, r_lt, r_eq, r_md, r_2, r_3, r_lit, r_litL, r_m1, nI_add, nI_1, nI_clamp, nI_leI, nI_ltI, nI_eq, pk_sub, q_ix, nI_l, lN_add, lN_mul, r_m1n, r_m1n', r_m1lt, r_m1nlt, r_m1le, r_m1nle, Nat.not_lt_zero, Nat.reduceEqDiff, Nat.reduceLT, Nat.reduceLeDiff, true_and, and_true, true_implies, false_implies, not_true_eq_false, not_false_eq_true, implies_true, and_self, ne_eq, decide_true, decide_false, Bool.not_true, Bool.not_false, if_true, if_false, reduceIte, xb_0, xb_1, xb_2, xb_3, xb_4, xb_5, xb_6, xb_7, xb_8, xb_9, xb_10, xb_11, xb_12, xb_13, xb_14, xb_15, xb_16, xb_17, xb_18, xb_19, xb_20, xb_21, xo_0, xo_1, xo_2, xo_3, xo_4, xo_5, xo_6, xo_7, xo_8, xo_9, Nat.le_refl]
    exact k h1 f1 g
