/-! the class: what its calls read of a night -/
theorem x_isSide (y : Int32) : fX11_isSide y = some (bI (z_ix y 2 = true)) := by
  unfold fX11_isSide fX11_isSide_b9
  by_cases c : y = 0
  · rw [p_brT c, bI_t (by rw [c]; decide)]
    rfl
  · rw [p_brF c]
    by_cases c2 : y = 1
    · rw [p_brT c2, bI_t (by rw [c2]; decide)]
      rfl
    · rw [p_brF c2, bI_f (fun q => ?_)]
      · rfl
      · obtain ⟨t, ht, rfl⟩ := (z_ix_e (by decide)).mp q
        rcases (show t = 0 ∨ t = 1 by omega) with rfl | rfl
        · exact c rfl
        · exact c2 rfl
def a_fr (a b i : Nat) (s : Int64 × Int64 × Int32) : Prop := ∃ x y : Nat, s = (lN x, lN y, nI i) ∧ x < 2 ^ 63 ∧ y < 2 ^ 63 ∧ Nat.gcd y x = Nat.gcd a b ∧ (0 < i → y < x ∧ x * y * 2 ^ (i - 1) ≤ a * b) ∧ (i = 0 → x = b ∧ y = a)
theorem x_fraction {a b w : Nat} (ha : a < 2 ^ 63) (hb : b < 2 ^ 63) (h0 : 0 < b) (hw : w < 2) : fX11_fraction (lN a) (lN b) (nI w) = some (lN (a_pt a b w)) := by
  have hg : Nat.gcd a b < 2 ^ 63 := Nat.lt_of_le_of_lt (Nat.le_of_dvd h0 (Nat.gcd_dvd_right a b)) hb
  have hg0 : 0 < Nat.gcd a b := Nat.gcd_pos_of_pos_right a h0
  have hab : a * b < 2 ^ 63 * 2 ^ 63 := Nat.mul_lt_mul'' ha hb
  have fin : p_W (fX11_fraction_b45 (lN a) (lN b) (nI w) (lN (Nat.gcd a b))) (fun v => v = lN (a_pt a b w)) := by
    unfold fX11_fraction_b45 fX11_fraction_b55 a_pt
    simp (disch := first | assumption | omega) only [p_some, p_gd, p_br, p_bi, p_nm, p_mp, p_Sl, p_Sr, p_bis, p_gdt, q_IL, q_IR, q_LI, q_LR, q_RI, q_RL, q_KI, q_KL, q_KR, q_NI, q_NL, q_NR, q_nI, q_nL, q_nR, q_okI, q_okL, q_okR, q_Ie, q_In, q_Le, q_Ln, SM_I, SM_L, s_c0, s_cg0, s_cl0, s_cge, s_cle, r_le, r_lt, r_eq, r_md, r_2, r_3, r_lit, r_litL, r_m1, nI_add, nI_1, nI_clamp, nI_leI, nI_ltI, nI_eq, pk_sub, q_ix, nI_l, lN_add, lN_mul, r_m1n, r_m1n', r_m1lt, r_m1nlt, r_m1le, r_m1nle, Nat.not_lt_zero, Nat.reduceEqDiff, Nat.reduceLT, Nat.reduceLeDiff, true_and, and_true, true_implies, false_implies, not_true_eq_false, not_false_eq_true, implies_true, and_self, ne_eq, decide_true, decide_false, Bool.not_true, Bool.not_false, if_true, if_false, reduceIte, r_div, show ¬ Nat.gcd a b = 0 by omega]
    refine ⟨fun c => ?_, fun c => ?_⟩
    · rw [if_pos c]
    · rw [if_neg c]
  refine p_of ?_
  unfold fX11_fraction fX11_fraction_b9
  refine p_for 200 (a_fr a b) ?_ ?_ 0 (by omega) ⟨b, a, rfl, hb, ha, rfl, fun q => absurd q (by decide), fun _ => ⟨rfl, rfl⟩⟩
  · rintro i s hi ⟨x, y, rfl, hx, hy, hgc, hp, hz⟩
    unfold fX11_fraction_b9_i
    simp (disch := first | assumption | omega) only [p_some, p_gd, p_br, p_bi, p_nm, p_mp, p_Sl, p_Sr, p_bis, p_gdt, q_IL, q_IR, q_LI, q_LR, q_RI, q_RL, q_KI, q_KL, q_KR, q_NI, q_NL, q_NR, q_nI, q_nL, q_nR, q_okI, q_okL, q_okR, q_Ie, q_In, q_Le, q_Ln, SM_I, SM_L, s_c0, s_cg0, s_cl0, s_cge, s_cle, r_le, r_lt, r_eq, r_md, r_2, r_3, r_lit, r_litL, r_m1, nI_add, nI_1, nI_clamp, nI_leI, nI_ltI, nI_eq, pk_sub, q_ix, nI_l, lN_add, lN_mul, r_m1n, r_m1n', r_m1lt, r_m1nlt, r_m1le, r_m1nle, Nat.not_lt_zero, Nat.reduceEqDiff, Nat.reduceLT, Nat.reduceLeDiff, true_and, and_true, true_implies, false_implies, not_true_eq_false, not_false_eq_true, implies_true, and_self, ne_eq, decide_true, decide_false, Bool.not_true, Bool.not_false, if_true, if_false, reduceIte, r_rem, show ¬ 200 ≤ i by omega]
    refine ⟨fun c => ?_, fun c => ⟨?_, y, x % y, rfl, hy, ?_, ?_, fun _ => ⟨Nat.mod_lt x (by omega), ?_⟩, fun q => absurd q (by omega)⟩⟩
    · subst c
      rw [Nat.gcd_zero_left] at hgc
      rw [hgc]
      exact p_mono fin (fun v e => e)
    · simp [c]
    · have := Nat.mod_lt x (show 0 < y by omega)
      omega
    · rw [← hgc, ← Nat.gcd_rec]
    · by_cases c0 : i = 0
      · subst c0
        obtain ⟨rfl, rfl⟩ := hz rfl
        rw [show 0 + 1 - 1 = 0 from rfl, Nat.pow_zero, Nat.mul_one]
        exact Nat.mul_le_mul_left _ (Nat.mod_le _ _)
      · obtain ⟨h1, h2⟩ := hp (by omega)
        have h3 := Nat.div_add_mod x y
        have h4 := Nat.mod_lt x (show 0 < y by omega)
        have h5 : 0 < x / y := Nat.div_pos (by omega) (by omega)
        have h6 : y * 1 ≤ y * (x / y) := Nat.mul_le_mul_left _ h5
        have h7 : 2 * (x % y) ≤ x := by omega
        have h8 : y * (2 * (x % y)) ≤ y * x := Nat.mul_le_mul_left _ h7
        rw [show i + 1 - 1 = (i - 1) + 1 by omega, Nat.pow_succ]
        have h9 : y * (x % y) * (2 ^ (i - 1) * 2) = y * (2 * (x % y)) * 2 ^ (i - 1) := by
          rw [Nat.mul_comm (2 ^ (i - 1)) 2, ← Nat.mul_assoc, Nat.mul_assoc y, Nat.mul_comm (x % y) 2]
        rw [h9]
        refine Nat.le_trans (Nat.mul_le_mul_right _ h8) ?_
        rw [Nat.mul_comm y x]
        exact h2
  · rintro s ⟨x, y, rfl, hx, hy, hgc, hp, hz⟩
    obtain ⟨h1, h2⟩ := hp (by decide)
    have hy0 : y = 0 := by
      rcases Nat.eq_zero_or_pos y with c | c
      · exact c
      · exfalso
        have h3 : 1 * 1 ≤ x * y := Nat.mul_le_mul (by omega) c
        have h4 : x * y * 2 ^ 199 < 2 ^ 63 * 2 ^ 63 := Nat.lt_of_le_of_lt h2 hab
        have h5 : 1 * 1 * 2 ^ 199 ≤ x * y * 2 ^ 199 := Nat.mul_le_mul_right _ h3
        have h6 := Nat.lt_of_le_of_lt h5 h4
        exact absurd h6 (by decide)
    subst hy0
    rw [Nat.gcd_zero_left] at hgc
    unfold fX11_fraction_b9_i
    simp (disch := first | assumption | omega) only [p_some, p_gd, p_br, p_bi, p_nm, p_mp, p_Sl, p_Sr, p_bis, p_gdt, q_IL, q_IR, q_LI, q_LR, q_RI, q_RL, q_KI, q_KL, q_KR, q_NI, q_NL, q_NR, q_nI, q_nL, q_nR, q_okI, q_okL, q_okR, q_Ie, q_In, q_Le, q_Ln, SM_I, SM_L, s_c0, s_cg0, s_cl0, s_cge, s_cle, r_le, r_lt, r_eq, r_md, r_2, r_3, r_lit, r_litL, r_m1, nI_add, nI_1, nI_clamp, nI_leI, nI_ltI, nI_eq, pk_sub, q_ix, nI_l, lN_add, lN_mul, r_m1n, r_m1n', r_m1lt, r_m1nlt, r_m1le, r_m1nle, Nat.not_lt_zero, Nat.reduceEqDiff, Nat.reduceLT, Nat.reduceLeDiff, true_and, and_true, true_implies, false_implies, not_true_eq_false, not_false_eq_true, implies_true, and_self, ne_eq, decide_true, decide_false, Bool.not_true, Bool.not_false, if_true, if_false, reduceIte, Nat.le_refl]
    rw [hgc]
    exact p_mono fin (fun v e => e)
/-- the night now -/
def xNow (h : z_T) (bo : Nat) (bk ans : Nat → Nat) (n : Nat) : Prop := SX h ∧ xNi h 15 bo bk ans n ∧ (bo = 1 ∨ 83 ≤ bo)
theorem x_opAnswer {h : z_T} {bo n : Nat} {bk ans : Nat → Nat} (W : xNow h bo bk ans n) (hn : n ≤ 12) (x : Int32) : fX11_answer 0 x h = some (a_answer ans n x) := by
  obtain ⟨s, N, -⟩ := W
  refine p_of ?_
  unfold fX11_answer
  simp (disch := first | assumption | omega) only [p_some, p_gd, p_br, p_bi, p_nm, p_mp, p_Sl, p_Sr, p_bis, p_gdt, q_IL, q_IR, q_LI, q_LR, q_RI, q_RL, q_KI, q_KL, q_KR, q_NI, q_NL, q_NR, q_nI, q_nL, q_nR, q_okI, q_okL, q_okR, q_Ie, q_In, q_Le, q_Ln, SM_I, SM_L, s_c0, s_cg0, s_cl0, s_cge, s_cle, r_le, r_lt, r_eq, r_md, r_2, r_3, r_lit, r_litL, r_m1, nI_add, nI_1, nI_clamp, nI_leI, nI_ltI, nI_eq, pk_sub, q_ix, nI_l, lN_add, lN_mul, r_m1n, r_m1n', r_m1lt, r_m1nlt, r_m1le, r_m1nle, Nat.not_lt_zero, Nat.reduceEqDiff, Nat.reduceLT, Nat.reduceLeDiff, true_and, and_true, true_implies, false_implies, not_true_eq_false, not_false_eq_true, implies_true, and_self, ne_eq, decide_true, decide_false, Bool.not_true, Bool.not_false, if_true, if_false, reduceIte, xb_0, xb_1, xb_2, xb_3, xb_4, xb_5, xb_6, xb_7, xb_8, xb_9, xb_10, xb_11, xb_12, xb_13, xb_14, xb_15, xb_16, xb_17, xb_18, xb_19, xb_20, xb_21, xo_0, xo_1, xo_2, xo_3, xo_4, xo_5, xo_6, xo_7, xo_8, xo_9, xk0 s, xr0_3 s, xk14 s, xr14_0 s, xo_0 N.1, x_answerAt N]
theorem x_opStays {h : z_T} {bo n : Nat} {bk ans : Nat → Nat} (W : xNow h bo bk ans n) (b : BOK bk) (hn : n ≤ 12) (x y : Int32) : fX11_stays 0 x y h = some (a_stays bk ans n x y) := by
  obtain ⟨s, N, -⟩ := W
  have h0 := b.1
  have h1 := b.2.1
  have hod : ∀ q t, q < 7 → t < 8 → fX2_chance 15 (nI t) (nI q) h = some (nI (a_od bk ans n q t)) := fun q t hq ht => x_chance b N hn ht hq
  refine p_of ?_
  unfold fX11_stays fX11_stays_b34 a_stays
  simp (disch := first | assumption | omega) only [p_some, p_gd, p_br, p_bi, p_nm, p_mp, p_Sl, p_Sr, p_bis, p_gdt, q_IL, q_IR, q_LI, q_LR, q_RI, q_RL, q_KI, q_KL, q_KR, q_NI, q_NL, q_NR, q_nI, q_nL, q_nR, q_okI, q_okL, q_okR, q_Ie, q_In, q_Le, q_Ln, SM_I, SM_L, s_c0, s_cg0, s_cl0, s_cge, s_cle, r_le, r_lt, r_eq, r_md, r_2, r_3, r_lit, r_litL, r_m1, nI_add, nI_1, nI_clamp, nI_leI, nI_ltI, nI_eq, pk_sub, q_ix, nI_l, lN_add, lN_mul, r_m1n, r_m1n', r_m1lt, r_m1nlt, r_m1le, r_m1nle, Nat.not_lt_zero, Nat.reduceEqDiff, Nat.reduceLT, Nat.reduceLeDiff, true_and, and_true, true_implies, false_implies, not_true_eq_false, not_false_eq_true, implies_true, and_self, ne_eq, decide_true, decide_false, Bool.not_true, Bool.not_false, if_true, if_false, reduceIte, xb_0, xb_1, xb_2, xb_3, xb_4, xb_5, xb_6, xb_7, xb_8, xb_9, xb_10, xb_11, xb_12, xb_13, xb_14, xb_15, xb_16, xb_17, xb_18, xb_19, xb_20, xb_21, xo_0, xo_1, xo_2, xo_3, xo_4, xo_5, xo_6, xo_7, xo_8, xo_9, xk0 s, xr0_3 s, xk14 s, xr14_0 s, xo_0 N.1, N.2.1, xb_0 N.2.2.1.1, x_hasTest b N.2.2.1, x_hasDream b N.2.2.1, bI_0]
  refine ⟨fun c => ?_, fun c => ?_⟩
  · rw [if_neg c]
  · rw [if_pos (Classical.not_not.mp c)]
    obtain ⟨t, ht, rfl⟩ := z_ixn c (by omega)
    rw [nI_clamp (by omega)]
    refine ⟨fun c2 => ?_, fun c2 => ⟨fun c3 => ?_, fun c3 => ?_⟩⟩
    · rw [if_pos c2]
      subst c2
      have e : m1 + nI 1 = nI 0 := rfl
      simp (disch := first | assumption | omega) only [p_some, p_gd, p_br, p_bi, p_nm, p_mp, p_Sl, p_Sr, p_bis, p_gdt, q_IL, q_IR, q_LI, q_LR, q_RI, q_RL, q_KI, q_KL, q_KR, q_NI, q_NL, q_NR, q_nI, q_nL, q_nR, q_okI, q_okL, q_okR, q_Ie, q_In, q_Le, q_Ln, SM_I, SM_L, s_c0, s_cg0, s_cl0, s_cge, s_cle, r_le, r_lt, r_eq, r_md, r_2, r_3, r_lit, r_litL, r_m1, nI_add, nI_1, nI_clamp, nI_leI, nI_ltI, nI_eq, pk_sub, q_ix, nI_l, lN_add, lN_mul, r_m1n, r_m1n', r_m1lt, r_m1nlt, r_m1le, r_m1nle, Nat.not_lt_zero, Nat.reduceEqDiff, Nat.reduceLT, Nat.reduceLeDiff, true_and, and_true, true_implies, false_implies, not_true_eq_false, not_false_eq_true, implies_true, and_self, ne_eq, decide_true, decide_false, Bool.not_true, Bool.not_false, if_true, if_false, reduceIte, xb_0, xb_1, xb_2, xb_3, xb_4, xb_5, xb_6, xb_7, xb_8, xb_9, xb_10, xb_11, xb_12, xb_13, xb_14, xb_15, xb_16, xb_17, xb_18, xb_19, xb_20, xb_21, xo_0, xo_1, xo_2, xo_3, xo_4, xo_5, xo_6, xo_7, xo_8, xo_9, e, hod]
    · rw [if_neg c2, if_neg c3]
    · rw [if_neg c2, if_pos (Classical.not_not.mp c3)]
      obtain ⟨d, hd, rfl⟩ := z_ixn c3 (by omega)
      rw [nI_clamp (by omega)]
      simp (disch := first | assumption | omega) only [p_some, p_gd, p_br, p_bi, p_nm, p_mp, p_Sl, p_Sr, p_bis, p_gdt, q_IL, q_IR, q_LI, q_LR, q_RI, q_RL, q_KI, q_KL, q_KR, q_NI, q_NL, q_NR, q_nI, q_nL, q_nR, q_okI, q_okL, q_okR, q_Ie, q_In, q_Le, q_Ln, SM_I, SM_L, s_c0, s_cg0, s_cl0, s_cge, s_cle, r_le, r_lt, r_eq, r_md, r_2, r_3, r_lit, r_litL, r_m1, nI_add, nI_1, nI_clamp, nI_leI, nI_ltI, nI_eq, pk_sub, q_ix, nI_l, lN_add, lN_mul, r_m1n, r_m1n', r_m1lt, r_m1nlt, r_m1le, r_m1nle, Nat.not_lt_zero, Nat.reduceEqDiff, Nat.reduceLT, Nat.reduceLeDiff, true_and, and_true, true_implies, false_implies, not_true_eq_false, not_false_eq_true, implies_true, and_self, ne_eq, decide_true, decide_false, Bool.not_true, Bool.not_false, if_true, if_false, reduceIte, xb_0, xb_1, xb_2, xb_3, xb_4, xb_5, xb_6, xb_7, xb_8, xb_9, xb_10, xb_11, xb_12, xb_13, xb_14, xb_15, xb_16, xb_17, xb_18, xb_19, xb_20, xb_21, xo_0, xo_1, xo_2, xo_3, xo_4, xo_5, xo_6, xo_7, xo_8, xo_9, hod]
theorem x_opUp {h : z_T} {bo n : Nat} {bk ans : Nat → Nat} {Q : Int32 → Prop} (W : xNow h bo bk ans n) (b : BOK bk) (hO : NOK bk ans n) (kt : a_up bk ans n → Q (nI 1)) (kf : ¬ a_up bk ans n → Q (nI 0)) : p_W (fX11_up 0 h) Q := by
  obtain ⟨s, N, -⟩ := W
  unfold fX11_up
  simp (disch := first | assumption | omega) only [p_some, p_gd, p_br, p_bi, p_nm, p_mp, p_Sl, p_Sr, p_bis, p_gdt, q_IL, q_IR, q_LI, q_LR, q_RI, q_RL, q_KI, q_KL, q_KR, q_NI, q_NL, q_NR, q_nI, q_nL, q_nR, q_okI, q_okL, q_okR, q_Ie, q_In, q_Le, q_Ln, SM_I, SM_L, s_c0, s_cg0, s_cl0, s_cge, s_cle, r_le, r_lt, r_eq, r_md, r_2, r_3, r_lit, r_litL, r_m1, nI_add, nI_1, nI_clamp, nI_leI, nI_ltI, nI_eq, pk_sub, q_ix, nI_l, lN_add, lN_mul, r_m1n, r_m1n', r_m1lt, r_m1nlt, r_m1le, r_m1nle, Nat.not_lt_zero, Nat.reduceEqDiff, Nat.reduceLT, Nat.reduceLeDiff, true_and, and_true, true_implies, false_implies, not_true_eq_false, not_false_eq_true, implies_true, and_self, ne_eq, decide_true, decide_false, Bool.not_true, Bool.not_false, if_true, if_false, reduceIte, xb_0, xb_1, xb_2, xb_3, xb_4, xb_5, xb_6, xb_7, xb_8, xb_9, xb_10, xb_11, xb_12, xb_13, xb_14, xb_15, xb_16, xb_17, xb_18, xb_19, xb_20, xb_21, xo_0, xo_1, xo_2, xo_3, xo_4, xo_5, xo_6, xo_7, xo_8, xo_9, xk0 s, xr0_3 s, xk14 s, xr14_0 s, xo_0 N.1]
  refine x_getsUp b N hO.1 hO.2.1 (fun u => ?_) (fun u => ?_)
  · simp (disch := first | assumption | omega) only [p_some, p_gd, p_br, p_bi, p_nm, p_mp, p_Sl, p_Sr, p_bis, p_gdt, q_IL, q_IR, q_LI, q_LR, q_RI, q_RL, q_KI, q_KL, q_KR, q_NI, q_NL, q_NR, q_nI, q_nL, q_nR, q_okI, q_okL, q_okR, q_Ie, q_In, q_Le, q_Ln, SM_I, SM_L, s_c0, s_cg0, s_cl0, s_cge, s_cle, r_le, r_lt, r_eq, r_md, r_2, r_3, r_lit, r_litL, r_m1, nI_add, nI_1, nI_clamp, nI_leI, nI_ltI, nI_eq, pk_sub, q_ix, nI_l, lN_add, lN_mul, r_m1n, r_m1n', r_m1lt, r_m1nlt, r_m1le, r_m1nle, Nat.not_lt_zero, Nat.reduceEqDiff, Nat.reduceLT, Nat.reduceLeDiff, true_and, and_true, true_implies, false_implies, not_true_eq_false, not_false_eq_true, implies_true, and_self, ne_eq, decide_true, decide_false, Bool.not_true, Bool.not_false, if_true, if_false, reduceIte]
    exact kt u
  · simp (disch := first | assumption | omega) only [p_some, p_gd, p_br, p_bi, p_nm, p_mp, p_Sl, p_Sr, p_bis, p_gdt, q_IL, q_IR, q_LI, q_LR, q_RI, q_RL, q_KI, q_KL, q_KR, q_NI, q_NL, q_NR, q_nI, q_nL, q_nR, q_okI, q_okL, q_okR, q_Ie, q_In, q_Le, q_Ln, SM_I, SM_L, s_c0, s_cg0, s_cl0, s_cge, s_cle, r_le, r_lt, r_eq, r_md, r_2, r_3, r_lit, r_litL, r_m1, nI_add, nI_1, nI_clamp, nI_leI, nI_ltI, nI_eq, pk_sub, q_ix, nI_l, lN_add, lN_mul, r_m1n, r_m1n', r_m1lt, r_m1nlt, r_m1le, r_m1nle, Nat.not_lt_zero, Nat.reduceEqDiff, Nat.reduceLT, Nat.reduceLeDiff, true_and, and_true, true_implies, false_implies, not_true_eq_false, not_false_eq_true, implies_true, and_self, ne_eq, decide_true, decide_false, Bool.not_true, Bool.not_false, if_true, if_false, reduceIte]
    exact kf u
theorem a_bst_ext {f : Nat → Nat} {n : Nat} : ∀ {m : Nat}, n ≤ m → (∀ i, n < i → i ≤ m → f i = 0) → a_bst f m = a_bst f n
  | 0, h, _ => by rw [show n = 0 by omega]
  | m + 1, h, hz => by
    by_cases e : n = m + 1
    · rw [e]
    · rw [a_bst, if_neg (by rw [hz (m + 1) (by omega) (by omega)]; omega)]
      exact a_bst_ext (by omega) (fun i h1 h2 => hz i h1 (by omega))
theorem x_opLikely {h : z_T} {bo n : Nat} {bk ans : Nat → Nat} (W : xNow h bo bk ans n) (b : BOK bk) (hO : NOK bk ans n) : fX11_likely 0 h = some (a_likely bk ans n) := by
  obtain ⟨s, N, -⟩ := W
  have hd := b.2.1
  have hlk : ∀ q, q < 7 → a_lk bk ans q n ≤ 5648590729620 := fun q hq => b.lkb hq hO.1 (hO.t b)
  have e6 : a_bst (fun q => a_lk bk ans q n) 6 = a_bst (fun q => a_lk bk ans q n) (bk 1) := a_bst_ext (by omega) (fun i h1 h2 => b.lk0 (by omega) (by omega))
  refine p_of ?_
  unfold fX11_likely a_likely
  rw [← e6]
  simp (disch := first | assumption | omega) only [p_some, p_gd, p_br, p_bi, p_nm, p_mp, p_Sl, p_Sr, p_bis, p_gdt, q_IL, q_IR, q_LI, q_LR, q_RI, q_RL, q_KI, q_KL, q_KR, q_NI, q_NL, q_NR, q_nI, q_nL, q_nR, q_okI, q_okL, q_okR, q_Ie, q_In, q_Le, q_Ln, SM_I, SM_L, s_c0, s_cg0, s_cl0, s_cge, s_cle, r_le, r_lt, r_eq, r_md, r_2, r_3, r_lit, r_litL, r_m1, nI_add, nI_1, nI_clamp, nI_leI, nI_ltI, nI_eq, pk_sub, q_ix, nI_l, lN_add, lN_mul, r_m1n, r_m1n', r_m1lt, r_m1nlt, r_m1le, r_m1nle, Nat.not_lt_zero, Nat.reduceEqDiff, Nat.reduceLT, Nat.reduceLeDiff, true_and, and_true, true_implies, false_implies, not_true_eq_false, not_false_eq_true, implies_true, and_self, ne_eq, decide_true, decide_false, Bool.not_true, Bool.not_false, if_true, if_false, reduceIte, xb_0, xb_1, xb_2, xb_3, xb_4, xb_5, xb_6, xb_7, xb_8, xb_9, xb_10, xb_11, xb_12, xb_13, xb_14, xb_15, xb_16, xb_17, xb_18, xb_19, xb_20, xb_21, xo_0, xo_1, xo_2, xo_3, xo_4, xo_5, xo_6, xo_7, xo_8, xo_9, xk0 s, xr0_3 s, xk14 s, xr14_0 s]
  unfold fX11_likely_b12
  refine p_for 6 (fun j w => w = (nI (a_bst (fun q => a_lk bk ans q n) j), nI (j + 1))) ?_ ?_ 0 (by omega) rfl
  · rintro j w hj2 rfl
    have hle := a_bst_le (fun q => a_lk bk ans q n) j
    have l1 := hlk (j + 1) (by omega)
    have l2 := hlk (a_bst (fun q => a_lk bk ans q n) j) (by omega)
    unfold fX11_likely_b12_i fX11_likely_b34
    simp (disch := first | assumption | omega) only [p_some, p_gd, p_br, p_bi, p_nm, p_mp, p_Sl, p_Sr, p_bis, p_gdt, q_IL, q_IR, q_LI, q_LR, q_RI, q_RL, q_KI, q_KL, q_KR, q_NI, q_NL, q_NR, q_nI, q_nL, q_nR, q_okI, q_okL, q_okR, q_Ie, q_In, q_Le, q_Ln, SM_I, SM_L, s_c0, s_cg0, s_cl0, s_cge, s_cle, r_le, r_lt, r_eq, r_md, r_2, r_3, r_lit, r_litL, r_m1, nI_add, nI_1, nI_clamp, nI_leI, nI_ltI, nI_eq, pk_sub, q_ix, nI_l, lN_add, lN_mul, r_m1n, r_m1n', r_m1lt, r_m1nlt, r_m1le, r_m1nle, Nat.not_lt_zero, Nat.reduceEqDiff, Nat.reduceLT, Nat.reduceLeDiff, true_and, and_true, true_implies, false_implies, not_true_eq_false, not_false_eq_true, implies_true, and_self, ne_eq, decide_true, decide_false, Bool.not_true, Bool.not_false, if_true, if_false, reduceIte, xb_0, xb_1, xb_2, xb_3, xb_4, xb_5, xb_6, xb_7, xb_8, xb_9, xb_10, xb_11, xb_12, xb_13, xb_14, xb_15, xb_16, xb_17, xb_18, xb_19, xb_20, xb_21, xo_0, xo_1, xo_2, xo_3, xo_4, xo_5, xo_6, xo_7, xo_8, xo_9, xo_0 N.1, x_ofPlace N, show ¬ 7 ≤ j + 1 by omega]
    rw [a_bst]
    refine ⟨fun c => ?_, fun c => ?_⟩
    · rw [if_neg (by omega)]
    · rw [if_pos (by omega)]
  · rintro w rfl
    have hle := a_bst_le (fun q => a_lk bk ans q n) 6
    unfold fX11_likely_b12_i
    simp (disch := first | assumption | omega) only [p_some, p_gd, p_br, p_bi, p_nm, p_mp, p_Sl, p_Sr, p_bis, p_gdt, q_IL, q_IR, q_LI, q_LR, q_RI, q_RL, q_KI, q_KL, q_KR, q_NI, q_NL, q_NR, q_nI, q_nL, q_nR, q_okI, q_okL, q_okR, q_Ie, q_In, q_Le, q_Ln, SM_I, SM_L, s_c0, s_cg0, s_cl0, s_cge, s_cle, r_le, r_lt, r_eq, r_md, r_2, r_3, r_lit, r_litL, r_m1, nI_add, nI_1, nI_clamp, nI_leI, nI_ltI, nI_eq, pk_sub, q_ix, nI_l, lN_add, lN_mul, r_m1n, r_m1n', r_m1lt, r_m1nlt, r_m1le, r_m1nle, Nat.not_lt_zero, Nat.reduceEqDiff, Nat.reduceLT, Nat.reduceLeDiff, true_and, and_true, true_implies, false_implies, not_true_eq_false, not_false_eq_true, implies_true, and_self, ne_eq, decide_true, decide_false, Bool.not_true, Bool.not_false, if_true, if_false, reduceIte, xb_0, xb_1, xb_2, xb_3, xb_4, xb_5, xb_6, xb_7, xb_8, xb_9, xb_10, xb_11, xb_12, xb_13, xb_14, xb_15, xb_16, xb_17, xb_18, xb_19, xb_20, xb_21, xo_0, xo_1, xo_2, xo_3, xo_4, xo_5, xo_6, xo_7, xo_8, xo_9, Nat.le_refl]
    refine ⟨fun c => ?_, fun c => ?_⟩
    · rw [if_pos c]
    · rw [if_neg c, pk_sub (by omega)]
theorem x_opFits {h : z_T} {bo n : Nat} {bk ans : Nat → Nat} (W : xNow h bo bk ans n) (b : BOK bk) (hO : NOK bk ans n) : fX11_fits 0 h = some (nI (a_fits bk ans n)) := by
  obtain ⟨s, N, -⟩ := W
  have hd := b.2.1
  have hlk : ∀ q, q < 7 → a_lk bk ans q n ≤ 5648590729620 := fun q hq => b.lkb hq hO.1 (hO.t b)
  have e7 : a_bs (fun q => decide (0 < a_lk bk ans q n)) 7 = a_fits bk ans n := a_bs_ext (by omega) (fun i h1 h2 => by rw [b.lk0 (by omega) (by omega)]; rfl)
  rw [← e7]
  refine p_of ?_
  unfold fX11_fits fX11_fits_b4
  refine p_for 7 (fun j w => w = (nI (a_bs (fun q => decide (0 < a_lk bk ans q n)) j), nI j)) ?_ ?_ 0 (by omega) rfl
  · rintro j w hj2 rfl
    have l1 := hlk j (by omega)
    unfold fX11_fits_b4_i fX11_fits_b32
    simp (disch := first | assumption | omega) only [p_some, p_gd, p_br, p_bi, p_nm, p_mp, p_Sl, p_Sr, p_bis, p_gdt, q_IL, q_IR, q_LI, q_LR, q_RI, q_RL, q_KI, q_KL, q_KR, q_NI, q_NL, q_NR, q_nI, q_nL, q_nR, q_okI, q_okL, q_okR, q_Ie, q_In, q_Le, q_Ln, SM_I, SM_L, s_c0, s_cg0, s_cl0, s_cge, s_cle, r_le, r_lt, r_eq, r_md, r_2, r_3, r_lit, r_litL, r_m1, nI_add, nI_1, nI_clamp, nI_leI, nI_ltI, nI_eq, pk_sub, q_ix, nI_l, lN_add, lN_mul, r_m1n, r_m1n', r_m1lt, r_m1nlt, r_m1le, r_m1nle, Nat.not_lt_zero, Nat.reduceEqDiff, Nat.reduceLT, Nat.reduceLeDiff, true_and, and_true, true_implies, false_implies, not_true_eq_false, not_false_eq_true, implies_true, and_self, ne_eq, decide_true, decide_false, Bool.not_true, Bool.not_false, if_true, if_false, reduceIte, xb_0, xb_1, xb_2, xb_3, xb_4, xb_5, xb_6, xb_7, xb_8, xb_9, xb_10, xb_11, xb_12, xb_13, xb_14, xb_15, xb_16, xb_17, xb_18, xb_19, xb_20, xb_21, xo_0, xo_1, xo_2, xo_3, xo_4, xo_5, xo_6, xo_7, xo_8, xo_9, xk0 s, xr0_3 s, xk14 s, xr14_0 s, xo_0 N.1, x_ofPlace N, r_shl, fa_or, show ¬ 7 ≤ j by omega]
    rw [a_bs]
    refine ⟨fun c => ?_, fun c => ?_⟩
    · rw [if_neg (by simp; omega), Nat.or_zero]
    · rw [if_pos (by simp; omega)]
  · rintro w rfl
    unfold fX11_fits_b4_i
    simp (disch := first | assumption | omega) only [p_some, p_gd, p_br, p_bi, p_nm, p_mp, p_Sl, p_Sr, p_bis, p_gdt, q_IL, q_IR, q_LI, q_LR, q_RI, q_RL, q_KI, q_KL, q_KR, q_NI, q_NL, q_NR, q_nI, q_nL, q_nR, q_okI, q_okL, q_okR, q_Ie, q_In, q_Le, q_Ln, SM_I, SM_L, s_c0, s_cg0, s_cl0, s_cge, s_cle, r_le, r_lt, r_eq, r_md, r_2, r_3, r_lit, r_litL, r_m1, nI_add, nI_1, nI_clamp, nI_leI, nI_ltI, nI_eq, pk_sub, q_ix, nI_l, lN_add, lN_mul, r_m1n, r_m1n', r_m1lt, r_m1nlt, r_m1le, r_m1nle, Nat.not_lt_zero, Nat.reduceEqDiff, Nat.reduceLT, Nat.reduceLeDiff, true_and, and_true, true_implies, false_implies, not_true_eq_false, not_false_eq_true, implies_true, and_self, ne_eq, decide_true, decide_false, Bool.not_true, Bool.not_false, if_true, if_false, reduceIte, xb_0, xb_1, xb_2, xb_3, xb_4, xb_5, xb_6, xb_7, xb_8, xb_9, xb_10, xb_11, xb_12, xb_13, xb_14, xb_15, xb_16, xb_17, xb_18, xb_19, xb_20, xb_21, xo_0, xo_1, xo_2, xo_3, xo_4, xo_5, xo_6, xo_7, xo_8, xo_9, Nat.le_refl]
theorem x_opSure {h : z_T} {bo n : Nat} {bk ans : Nat → Nat} (W : xNow h bo bk ans n) (b : BOK bk) (hO : NOK bk ans n) (y : Int32) : fX11_sure 0 y h = some (a_sure bk ans n y) := by
  obtain ⟨s, N, -⟩ := W
  obtain ⟨b1, b2, b3, b4⟩ := a_up_b b hO.1 hO.2.1
  have hp := hO.2.2
  refine p_of ?_
  unfold fX11_sure a_sure
  simp (disch := first | assumption | omega) only [p_some, p_gd, p_br, p_bi, p_nm, p_mp, p_Sl, p_Sr, p_bis, p_gdt, q_IL, q_IR, q_LI, q_LR, q_RI, q_RL, q_KI, q_KL, q_KR, q_NI, q_NL, q_NR, q_nI, q_nL, q_nR, q_okI, q_okL, q_okR, q_Ie, q_In, q_Le, q_Ln, SM_I, SM_L, s_c0, s_cg0, s_cl0, s_cge, s_cle, r_le, r_lt, r_eq, r_md, r_2, r_3, r_lit, r_litL, r_m1, nI_add, nI_1, nI_clamp, nI_leI, nI_ltI, nI_eq, pk_sub, q_ix, nI_l, lN_add, lN_mul, r_m1n, r_m1n', r_m1lt, r_m1nlt, r_m1le, r_m1nle, Nat.not_lt_zero, Nat.reduceEqDiff, Nat.reduceLT, Nat.reduceLeDiff, true_and, and_true, true_implies, false_implies, not_true_eq_false, not_false_eq_true, implies_true, and_self, ne_eq, decide_true, decide_false, Bool.not_true, Bool.not_false, if_true, if_false, reduceIte, xb_0, xb_1, xb_2, xb_3, xb_4, xb_5, xb_6, xb_7, xb_8, xb_9, xb_10, xb_11, xb_12, xb_13, xb_14, xb_15, xb_16, xb_17, xb_18, xb_19, xb_20, xb_21, xo_0, xo_1, xo_2, xo_3, xo_4, xo_5, xo_6, xo_7, xo_8, xo_9, x_isSide, bI_0, xk0 s, xr0_3 s, xk14 s, xr14_0 s, xo_0 N.1, x_ofRoom N, x_ofAll b N]
  refine ⟨fun c => ?_, fun c => ?_⟩
  · rw [if_neg c]
  · rw [if_pos (Classical.not_not.mp c)]
    obtain ⟨w, hw, rfl⟩ := z_ixn c (by omega)
    unfold a_side
    rw [nI_clamp (by omega)]
    simp (disch := first | assumption | omega) only [p_some, p_gd, p_br, p_bi, p_nm, p_mp, p_Sl, p_Sr, p_bis, p_gdt, q_IL, q_IR, q_LI, q_LR, q_RI, q_RL, q_KI, q_KL, q_KR, q_NI, q_NL, q_NR, q_nI, q_nL, q_nR, q_okI, q_okL, q_okR, q_Ie, q_In, q_Le, q_Ln, SM_I, SM_L, s_c0, s_cg0, s_cl0, s_cge, s_cle, r_le, r_lt, r_eq, r_md, r_2, r_3, r_lit, r_litL, r_m1, nI_add, nI_1, nI_clamp, nI_leI, nI_ltI, nI_eq, pk_sub, q_ix, nI_l, lN_add, lN_mul, r_m1n, r_m1n', r_m1lt, r_m1nlt, r_m1le, r_m1nle, Nat.not_lt_zero, Nat.reduceEqDiff, Nat.reduceLT, Nat.reduceLeDiff, true_and, and_true, true_implies, false_implies, not_true_eq_false, not_false_eq_true, implies_true, and_self, ne_eq, decide_true, decide_false, Bool.not_true, Bool.not_false, if_true, if_false, reduceIte, x_fraction]
theorem x_opOdds {h : z_T} {bo n : Nat} {bk ans : Nat → Nat} (W : xNow h bo bk ans n) (b : BOK bk) (hO : NOK bk ans n) (x y : Int32) : fX11_odds 0 x y h = some (a_odds bk ans n x y) := by
  obtain ⟨s, N, -⟩ := W
  obtain ⟨b1, b2, b3, b4⟩ := a_up_b b hO.1 hO.2.1
  have hd := b.2.1
  have hp := hO.2.2
  refine p_of ?_
  unfold fX11_odds fX11_odds_b24 a_odds
  simp (disch := first | assumption | omega) only [p_some, p_gd, p_br, p_bi, p_nm, p_mp, p_Sl, p_Sr, p_bis, p_gdt, q_IL, q_IR, q_LI, q_LR, q_RI, q_RL, q_KI, q_KL, q_KR, q_NI, q_NL, q_NR, q_nI, q_nL, q_nR, q_okI, q_okL, q_okR, q_Ie, q_In, q_Le, q_Ln, SM_I, SM_L, s_c0, s_cg0, s_cl0, s_cge, s_cle, r_le, r_lt, r_eq, r_md, r_2, r_3, r_lit, r_litL, r_m1, nI_add, nI_1, nI_clamp, nI_leI, nI_ltI, nI_eq, pk_sub, q_ix, nI_l, lN_add, lN_mul, r_m1n, r_m1n', r_m1lt, r_m1nlt, r_m1le, r_m1nle, Nat.not_lt_zero, Nat.reduceEqDiff, Nat.reduceLT, Nat.reduceLeDiff, true_and, and_true, true_implies, false_implies, not_true_eq_false, not_false_eq_true, implies_true, and_self, ne_eq, decide_true, decide_false, Bool.not_true, Bool.not_false, if_true, if_false, reduceIte, xb_0, xb_1, xb_2, xb_3, xb_4, xb_5, xb_6, xb_7, xb_8, xb_9, xb_10, xb_11, xb_12, xb_13, xb_14, xb_15, xb_16, xb_17, xb_18, xb_19, xb_20, xb_21, xo_0, xo_1, xo_2, xo_3, xo_4, xo_5, xo_6, xo_7, xo_8, xo_9, x_isSide, bI_0, xk0 s, xr0_3 s, xk14 s, xr14_0 s, xo_0 N.1, N.2.1, xb_0 N.2.2.1.1, x_hasDream b N.2.2.1, x_ofAll b N]
  refine ⟨fun c => ?_, fun c => ⟨fun c2 => ?_, fun c2 => ?_⟩⟩
  · rw [if_neg (fun q => c q.1)]
  · rw [if_neg (fun q => c2 q.2)]
  · rw [if_pos ⟨Classical.not_not.mp c, Classical.not_not.mp c2⟩]
    obtain ⟨d, hd, rfl⟩ := z_ixn c (by omega)
    obtain ⟨w, hw, rfl⟩ := z_ixn c2 (by omega)
    have b5 := a_all_pl (bk := bk) (ans := ans) (n := n) (q := d + 1) (by omega)
    unfold a_side
    rw [nI_clamp (by omega), nI_clamp (by omega)]
    simp (disch := first | assumption | omega) only [p_some, p_gd, p_br, p_bi, p_nm, p_mp, p_Sl, p_Sr, p_bis, p_gdt, q_IL, q_IR, q_LI, q_LR, q_RI, q_RL, q_KI, q_KL, q_KR, q_NI, q_NL, q_NR, q_nI, q_nL, q_nR, q_okI, q_okL, q_okR, q_Ie, q_In, q_Le, q_Ln, SM_I, SM_L, s_c0, s_cg0, s_cl0, s_cge, s_cle, r_le, r_lt, r_eq, r_md, r_2, r_3, r_lit, r_litL, r_m1, nI_add, nI_1, nI_clamp, nI_leI, nI_ltI, nI_eq, pk_sub, q_ix, nI_l, lN_add, lN_mul, r_m1n, r_m1n', r_m1lt, r_m1nlt, r_m1le, r_m1nle, Nat.not_lt_zero, Nat.reduceEqDiff, Nat.reduceLT, Nat.reduceLeDiff, true_and, and_true, true_implies, false_implies, not_true_eq_false, not_false_eq_true, implies_true, and_self, ne_eq, decide_true, decide_false, Bool.not_true, Bool.not_false, if_true, if_false, reduceIte, x_ofPlace N, x_fraction]
