/-! a night of the class: its acts -/
theorem x_isFull {h : z_T} {o bo n : Nat} {bk ans : Nat → Nat} (N : xNi h o bo bk ans n) (hn : n ≤ 12) : fX2_isFull o h = some (bI (¬ n < 12)) := by
  refine p_of ?_
  unfold fX2_isFull
  simp (disch := first | assumption | omega) only [p_some, p_gd, p_br, p_bi, p_nm, p_mp, p_Sl, p_Sr, p_bis, p_gdt, q_IL, q_IR, q_LI, q_LR, q_RI, q_RL, q_KI, q_KL, q_KR, q_NI, q_NL, q_NR, q_nI, q_nL, q_nR, q_okI, q_okL, q_okR, q_Ie, q_In, q_Le, q_Ln, SM_I, SM_L, s_c0, s_cg0, s_cl0, s_cge, s_cle, r_le, r_lt, r_eq, r_md, r_2, r_3, r_lit, r_litL, r_m1, nI_add, nI_1, nI_clamp, nI_leI, nI_ltI, nI_eq, pk_sub, q_ix, nI_l, lN_add, lN_mul, r_m1n, r_m1n', r_m1lt, r_m1nlt, r_m1le, r_m1nle, Nat.not_lt_zero, Nat.reduceEqDiff, Nat.reduceLT, Nat.reduceLeDiff, true_and, and_true, true_implies, false_implies, not_true_eq_false, not_false_eq_true, implies_true, and_self, ne_eq, decide_true, decide_false, Bool.not_true, Bool.not_false, if_true, if_false, reduceIte, xb_0, xb_1, xb_2, xb_3, xb_4, xb_5, xb_6, xb_7, xb_8, xb_9, xb_10, xb_11, xb_12, xb_13, xb_14, xb_15, xb_16, xb_17, xb_18, xb_19, xb_20, xb_21, xo_0, xo_1, xo_2, xo_3, xo_4, xo_5, xo_6, xo_7, xo_8, xo_9, xo_0 N.1, N.2.2.2.1]
  exact ⟨fun c => (bI_f (fun q => q c)).symm, fun c => (bI_t c).symm⟩
theorem x_answerAt {h : z_T} {o bo n : Nat} {bk ans : Nat → Nat} (N : xNi h o bo bk ans n) (hn : n ≤ 12) (x : Int32) : fX2_answerAt o x h = some (a_answer ans n x) := by
  obtain ⟨s, r, B, v⟩ := N
  refine p_of ?_
  unfold fX2_answerAt fX2_answerAt_b30 a_answer
  by_cases c : z_ix x n = true
  · rw [if_pos c]
    obtain ⟨i, hi, rfl⟩ := (z_ix_e (by omega)).mp c
    rw [nI_clamp (by omega)]
    simp (disch := first | assumption | omega) only [p_some, p_gd, p_br, p_bi, p_nm, p_mp, p_Sl, p_Sr, p_bis, p_gdt, q_IL, q_IR, q_LI, q_LR, q_RI, q_RL, q_KI, q_KL, q_KR, q_NI, q_NL, q_NR, q_nI, q_nL, q_nR, q_okI, q_okL, q_okR, q_Ie, q_In, q_Le, q_Ln, SM_I, SM_L, s_c0, s_cg0, s_cl0, s_cge, s_cle, r_le, r_lt, r_eq, r_md, r_2, r_3, r_lit, r_litL, r_m1, nI_add, nI_1, nI_clamp, nI_leI, nI_ltI, nI_eq, pk_sub, q_ix, nI_l, lN_add, lN_mul, r_m1n, r_m1n', r_m1lt, r_m1nlt, r_m1le, r_m1nle, Nat.not_lt_zero, Nat.reduceEqDiff, Nat.reduceLT, Nat.reduceLeDiff, true_and, and_true, true_implies, false_implies, not_true_eq_false, not_false_eq_true, implies_true, and_self, ne_eq, decide_true, decide_false, Bool.not_true, Bool.not_false, if_true, if_false, reduceIte, xb_0, xb_1, xb_2, xb_3, xb_4, xb_5, xb_6, xb_7, xb_8, xb_9, xb_10, xb_11, xb_12, xb_13, xb_14, xb_15, xb_16, xb_17, xb_18, xb_19, xb_20, xb_21, xo_0, xo_1, xo_2, xo_3, xo_4, xo_5, xo_6, xo_7, xo_8, xo_9, v.1, v.2.1, show ¬ n ≤ i by omega, show ¬ 12 ≤ i by omega]
  · rw [if_neg c]
    simp (disch := first | assumption | omega) only [p_some, p_gd, p_br, p_bi, p_nm, p_mp, p_Sl, p_Sr, p_bis, p_gdt, q_IL, q_IR, q_LI, q_LR, q_RI, q_RL, q_KI, q_KL, q_KR, q_NI, q_NL, q_NR, q_nI, q_nL, q_nR, q_okI, q_okL, q_okR, q_Ie, q_In, q_Le, q_Ln, SM_I, SM_L, s_c0, s_cg0, s_cl0, s_cge, s_cle, r_le, r_lt, r_eq, r_md, r_2, r_3, r_lit, r_litL, r_m1, nI_add, nI_1, nI_clamp, nI_leI, nI_ltI, nI_eq, pk_sub, q_ix, nI_l, lN_add, lN_mul, r_m1n, r_m1n', r_m1lt, r_m1nlt, r_m1le, r_m1nle, Nat.not_lt_zero, Nat.reduceEqDiff, Nat.reduceLT, Nat.reduceLeDiff, true_and, and_true, true_implies, false_implies, not_true_eq_false, not_false_eq_true, implies_true, and_self, ne_eq, decide_true, decide_false, Bool.not_true, Bool.not_false, if_true, if_false, reduceIte, xb_0, xb_1, xb_2, xb_3, xb_4, xb_5, xb_6, xb_7, xb_8, xb_9, xb_10, xb_11, xb_12, xb_13, xb_14, xb_15, xb_16, xb_17, xb_18, xb_19, xb_20, xb_21, xo_0, xo_1, xo_2, xo_3, xo_4, xo_5, xo_6, xo_7, xo_8, xo_9, v.1]
    intro c1 c2
    exfalso
    obtain ⟨j, hj, rfl⟩ := nI_of (x := x) c1
    rw [nI_leI (by omega) (by omega)] at c2
    exact absurd ((z_ix_e (by omega)).mpr ⟨j, by omega, rfl⟩) c
theorem x_getsUp {h : z_T} {o bo n : Nat} {bk ans : Nat → Nat} {Q : Int32 → Prop} (b : BOK bk) (N : xNi h o bo bk ans n) (hn : n ≤ 12) (ha : ∀ i, i < n → ans i < 2 * bk 0) (kt : a_up bk ans n → Q (nI 1)) (kf : ¬ a_up bk ans n → Q (nI 0)) : p_W (fX2_getsUp o h) Q := by
  obtain ⟨b1, b2, b3, b4⟩ := a_up_b b hn ha
  have h5 := b.2.2.2.2.2.1
  have h6 := b.2.2.2.2.2.2.1
  have e4 : fX0_setting bo (nI 4) h = some (nI (bk 6)) := x_setting N.2.2.1 (k := 4) (by decide)
  have e3 : fX0_setting bo (nI 3) h = some (nI (bk 5)) := x_setting N.2.2.1 (k := 3) (by decide)
  have e6 : sumN (fun q => a_lk bk ans (q + 1) n) 6 = a_all bk ans n - a_lk bk ans 0 n := by have := a_all_split (ans := ans) b n; omega
  have e7 := x_ofDreams N
  rw [e6] at e7
  unfold a_up at kt kf
  unfold fX2_getsUp
  simp (disch := first | assumption | omega) only [p_some, p_gd, p_br, p_bi, p_nm, p_mp, p_Sl, p_Sr, p_bis, p_gdt, q_IL, q_IR, q_LI, q_LR, q_RI, q_RL, q_KI, q_KL, q_KR, q_NI, q_NL, q_NR, q_nI, q_nL, q_nR, q_okI, q_okL, q_okR, q_Ie, q_In, q_Le, q_Ln, SM_I, SM_L, s_c0, s_cg0, s_cl0, s_cge, s_cle, r_le, r_lt, r_eq, r_md, r_2, r_3, r_lit, r_litL, r_m1, nI_add, nI_1, nI_clamp, nI_leI, nI_ltI, nI_eq, pk_sub, q_ix, nI_l, lN_add, lN_mul, r_m1n, r_m1n', r_m1lt, r_m1nlt, r_m1le, r_m1nle, Nat.not_lt_zero, Nat.reduceEqDiff, Nat.reduceLT, Nat.reduceLeDiff, true_and, and_true, true_implies, false_implies, not_true_eq_false, not_false_eq_true, implies_true, and_self, ne_eq, decide_true, decide_false, Bool.not_true, Bool.not_false, if_true, if_false, reduceIte, xb_0, xb_1, xb_2, xb_3, xb_4, xb_5, xb_6, xb_7, xb_8, xb_9, xb_10, xb_11, xb_12, xb_13, xb_14, xb_15, xb_16, xb_17, xb_18, xb_19, xb_20, xb_21, xo_0, xo_1, xo_2, xo_3, xo_4, xo_5, xo_6, xo_7, xo_8, xo_9, xo_0 N.1, N.2.1, xb_0 N.2.2.1.1, e4, e3, e7, x_ofRoom N]
  exact ⟨fun c => kf (by omega), fun c => kt (by omega)⟩
theorem a_tm_u {ans : Nat → Nat} {n v t : Nat} : a_tm (a_u ans n v) t (n + 1) = a_tm ans t n + if v / 2 = t then 1 else 0 := by
  have hc : ∀ i, i < n → a_u ans n v i = ans i := fun i hi => if_neg (by omega)
  rw [a_tm, a_tm_congr hc]
  unfold a_u
  rw [if_pos rfl]
theorem a_lk_u {bk ans : Nat → Nat} {q n v : Nat} : a_lk bk (a_u ans n v) q (n + 1) = a_lk bk ans q n * a_fa (a_od bk ans n q (v / 2)) (v % 2) := by
  have hc : ∀ i, i < n → a_u ans n v i = ans i := fun i hi => if_neg (by omega)
  rw [a_lk, a_lk_congr hc, a_od_congr hc]
  unfold a_u
  rw [if_pos rfl]
/-- what an act of a night writes: its numbers alone, its book stays -/
def nC (o a k : Nat) : Prop := (a ≠ o ∨ (k ≠ 1 ∧ k ≠ 5)) ∧ a ≠ o + 1 ∧ a ≠ o + 2 ∧ a ≠ o + 3
theorem x_add {h : z_T} {o bo n t st : Nat} {bk ans : Nat → Nat} {Q : z_T → Prop} (b : BOK bk) (N : xNi h o bo bk ans n) (hn : n < 12) (ht : t < bk 0) (hst : st < 2) (ho : isN o) (hb : bo = 1 ∨ 83 ≤ bo)
    (k : ∀ h', x_fr (nC o) h h' → z_I h' o 5 = z_I h o 5 → xNi h' o bo bk (a_u ans n (2 * t + st)) (n + 1) → Q h') : p_W (fX2_add o (nI t) (nI st) h) Q := by
  have h0 := b.1
  have hd : bo + 7 < o ∨ o + 3 < bo := by unfold isN at ho; omega
  have hv1 : (2 * t + st) / 2 = t := by omega
  have hv2 : (2 * t + st) % 2 = st := by omega
  unfold fX2_add
  simp (disch := first | assumption | omega) only [p_some, p_gd, p_br, p_bi, p_nm, p_mp, p_Sl, p_Sr, p_bis, p_gdt, q_IL, q_IR, q_LI, q_LR, q_RI, q_RL, q_KI, q_KL, q_KR, q_NI, q_NL, q_NR, q_nI, q_nL, q_nR, q_okI, q_okL, q_okR, q_Ie, q_In, q_Le, q_Ln, SM_I, SM_L, s_c0, s_cg0, s_cl0, s_cge, s_cle, r_le, r_lt, r_eq, r_md, r_2, r_3, r_lit, r_litL, r_m1, nI_add, nI_1, nI_clamp, nI_leI, nI_ltI, nI_eq, pk_sub, q_ix, nI_l, lN_add, lN_mul, r_m1n, r_m1n', r_m1lt, r_m1nlt, r_m1le, r_m1nle, Nat.not_lt_zero, Nat.reduceEqDiff, Nat.reduceLT, Nat.reduceLeDiff, true_and, and_true, true_implies, false_implies, not_true_eq_false, not_false_eq_true, implies_true, and_self, ne_eq, decide_true, decide_false, Bool.not_true, Bool.not_false, if_true, if_false, reduceIte, xb_0, xb_1, xb_2, xb_3, xb_4, xb_5, xb_6, xb_7, xb_8, xb_9, xb_10, xb_11, xb_12, xb_13, xb_14, xb_15, xb_16, xb_17, xb_18, xb_19, xb_20, xb_21, xo_0, xo_1, xo_2, xo_3, xo_4, xo_5, xo_6, xo_7, xo_8, xo_9, xo_0 N.1, xo_2 N.1, xo_6 N.1, xo_7 N.1, xo_1 N.1, xo_4 N.1, xo_5 N.1, N.2.2.2.1, hn, show ¬ 8 ≤ t by omega]
  unfold fX2_add_b35
  refine p_for 7 (fun j w => w.1 = nI j ∧ x_fr (fun a k => a ≠ o + 3) h w.2 ∧ (∀ q, q < j → z_L w.2 (o + 3) q = lN (a_lk bk (a_u ans n (2 * t + st)) q (n + 1))) ∧ ∀ q, j ≤ q → q < 7 → z_L w.2 (o + 3) q = lN (a_lk bk ans q n)) ?_ ?_ 0 (by omega) ⟨rfl, x_fr.rf, fun j hj => absurd hj (by omega), fun q _ hq => N.2.2.2.2.2.2 q hq⟩
  · rintro j ⟨x, h1⟩ hj ⟨e1, f, g1, g2⟩
    dsimp only at e1 f g1 g2
    subst e1
    have s1 := N.1.fr f ho
    have B1 : xBk h1 bo bk := N.2.2.1.fr f hb (fun j k hj => by omega)
    have r1 : z_R h1 o 0 = some bo := (f.R _ _ (z_ok_lt (xo_0 N.1)) (by omega)).trans N.2.1
    have i1 : z_I h1 o 1 = nI n := (f.I _ _ (z_ok_lt (xo_0 N.1)) (by omega)).trans N.2.2.2.1
    have eo : fX2_chanceOf o (nI t) (nI st) (nI j) h1 = some (nI (a_fa (a_od bk ans n j t) st)) := by
      have ho2 := b.od (ans := ans) (n := n) (q := j) (t := t) (by omega)
      have h3 := b.2.2.2.1
      have h7 := b.2.2.2.2.2.2.2.1
      have htm := a_tm_le ans t n
      have tm1 : z_I h1 (o + 2) t = nI (a_tm ans t n) := (f.I _ _ (z_ok_lt (xo_6 N.1)) (by omega)).trans (N.2.2.2.2.2.1 t (by omega))
      have et : fX2_timesAsked o (nI t) h1 = some (nI (a_tm ans t n)) := by
        refine p_of ?_
        unfold fX2_timesAsked fX2_timesAsked_b22
        simp (disch := first | assumption | omega) only [p_some, p_gd, p_br, p_bi, p_nm, p_mp, p_Sl, p_Sr, p_bis, p_gdt, q_IL, q_IR, q_LI, q_LR, q_RI, q_RL, q_KI, q_KL, q_KR, q_NI, q_NL, q_NR, q_nI, q_nL, q_nR, q_okI, q_okL, q_okR, q_Ie, q_In, q_Le, q_Ln, SM_I, SM_L, s_c0, s_cg0, s_cl0, s_cge, s_cle, r_le, r_lt, r_eq, r_md, r_2, r_3, r_lit, r_litL, r_m1, nI_add, nI_1, nI_clamp, nI_leI, nI_ltI, nI_eq, pk_sub, q_ix, nI_l, lN_add, lN_mul, r_m1n, r_m1n', r_m1lt, r_m1nlt, r_m1le, r_m1nle, Nat.not_lt_zero, Nat.reduceEqDiff, Nat.reduceLT, Nat.reduceLeDiff, true_and, and_true, true_implies, false_implies, not_true_eq_false, not_false_eq_true, implies_true, and_self, ne_eq, decide_true, decide_false, Bool.not_true, Bool.not_false, if_true, if_false, reduceIte, xb_0, xb_1, xb_2, xb_3, xb_4, xb_5, xb_6, xb_7, xb_8, xb_9, xb_10, xb_11, xb_12, xb_13, xb_14, xb_15, xb_16, xb_17, xb_18, xb_19, xb_20, xb_21, xo_0, xo_1, xo_2, xo_3, xo_4, xo_5, xo_6, xo_7, xo_8, xo_9, tm1, show ¬ 8 ≤ t by omega]
      have e1 : fX0_setting bo (nI 1) h1 = some (nI (bk 3)) := x_setting B1 (k := 1) (by decide)
      have e5 : fX0_setting bo (nI 5) h1 = some (nI (bk 7)) := x_setting B1 (k := 5) (by decide)
      have ec : fX2_chance o (nI t) (nI j) h1 = some (nI (a_od bk ans n j t)) := by
        have hh : p_W (fX2_chance o (nI t) (nI j) h) (fun w => w = nI (a_od bk ans n j t)) := (p_eq (x_chance b N (by omega) (by omega) hj)).mpr rfl
        have i0 := N.2.2.2.1
        have r0 := N.2.1
        have e1' : fX0_setting bo (nI 1) h = some (nI (bk 3)) := x_setting N.2.2.1 (k := 1) (by decide)
        have e5' : fX0_setting bo (nI 5) h = some (nI (bk 7)) := x_setting N.2.2.1 (k := 5) (by decide)
        refine p_of ?_
        unfold fX2_chance fX2_chance_b26 fX2_chance_b50 fX2_chance_b51 at hh ⊢
        simp (disch := first | assumption | omega) only [p_some, p_gd, p_br, p_bi, p_nm, r_lit, xo_0 s1, xo_0 N.1, r0, r1, xb_0 B1.1, xb_0 N.2.2.1.1, i0, i1, e1, e5, e1', e5', et, x_timesAsked N, x_plainChance B1, x_plainChance N.2.2.1, x_inRoom B1, x_inRoom N.2.2.1, true_and] at hh ⊢
        exact hh
      refine p_of ?_
      unfold fX2_chanceOf a_fa
      simp (disch := first | assumption | omega) only [p_some, p_gd, p_br, p_bi, p_nm, p_mp, p_Sl, p_Sr, p_bis, p_gdt, q_IL, q_IR, q_LI, q_LR, q_RI, q_RL, q_KI, q_KL, q_KR, q_NI, q_NL, q_NR, q_nI, q_nL, q_nR, q_okI, q_okL, q_okR, q_Ie, q_In, q_Le, q_Ln, SM_I, SM_L, s_c0, s_cg0, s_cl0, s_cge, s_cle, r_le, r_lt, r_eq, r_md, r_2, r_3, r_lit, r_litL, r_m1, nI_add, nI_1, nI_clamp, nI_leI, nI_ltI, nI_eq, pk_sub, q_ix, nI_l, lN_add, lN_mul, r_m1n, r_m1n', r_m1lt, r_m1nlt, r_m1le, r_m1nle, Nat.not_lt_zero, Nat.reduceEqDiff, Nat.reduceLT, Nat.reduceLeDiff, true_and, and_true, true_implies, false_implies, not_true_eq_false, not_false_eq_true, implies_true, and_self, ne_eq, decide_true, decide_false, Bool.not_true, Bool.not_false, if_true, if_false, reduceIte, xb_0, xb_1, xb_2, xb_3, xb_4, xb_5, xb_6, xb_7, xb_8, xb_9, xb_10, xb_11, xb_12, xb_13, xb_14, xb_15, xb_16, xb_17, xb_18, xb_19, xb_20, xb_21, xo_0, xo_1, xo_2, xo_3, xo_4, xo_5, xo_6, xo_7, xo_8, xo_9, ec]
      refine ⟨fun c => ?_, fun c => ?_⟩
      · rw [if_pos c]
      · rw [if_neg c]
    have hfa := a_fa_le (s := st) (b.od (ans := ans) (n := n) (q := j) (t := t) (by omega))
    have g3 := g2 j (Nat.le_refl _) hj
    unfold fX2_add_b35_i
    simp (disch := first | assumption | omega) only [p_some, p_gd, p_br, p_bi, p_nm, p_mp, p_Sl, p_Sr, p_bis, p_gdt, q_IL, q_IR, q_LI, q_LR, q_RI, q_RL, q_KI, q_KL, q_KR, q_NI, q_NL, q_NR, q_nI, q_nL, q_nR, q_okI, q_okL, q_okR, q_Ie, q_In, q_Le, q_Ln, SM_I, SM_L, s_c0, s_cg0, s_cl0, s_cge, s_cle, r_le, r_lt, r_eq, r_md, r_2, r_3, r_lit, r_litL, r_m1, nI_add, nI_1, nI_clamp, nI_leI, nI_ltI, nI_eq, pk_sub, q_ix, nI_l, lN_add, lN_mul, r_m1n, r_m1n', r_m1lt, r_m1nlt, r_m1le, r_m1nle, Nat.not_lt_zero, Nat.reduceEqDiff, Nat.reduceLT, Nat.reduceLeDiff, true_and, and_true, true_implies, false_implies, not_true_eq_false, not_false_eq_true, implies_true, and_self, ne_eq, decide_true, decide_false, Bool.not_true, Bool.not_false, if_true, if_false, reduceIte, xb_0, xb_1, xb_2, xb_3, xb_4, xb_5, xb_6, xb_7, xb_8, xb_9, xb_10, xb_11, xb_12, xb_13, xb_14, xb_15, xb_16, xb_17, xb_18, xb_19, xb_20, xb_21, xo_0, xo_1, xo_2, xo_3, xo_4, xo_5, xo_6, xo_7, xo_8, xo_9, eo, g3, show ¬ 7 ≤ j by omega]
    refine ⟨f.sL (fun _ => by omega), fun q hq => ?_, fun q hq hq7 => ?_⟩
    · by_cases c : q = j
      · subst c
        rw [q_Le rfl rfl, a_lk_u, hv1, hv2]
      · rw [q_Ln (by omega)]
        exact g1 q (by omega)
    · rw [q_Ln (by omega)]
      exact g2 q (by omega) hq7
  · rintro ⟨x, h1⟩ ⟨e1, f, g1, g2⟩
    dsimp only at e1 f g1 g2
    subst e1
    have s1 := N.1.fr f ho
    have i1 : z_I h1 o 1 = nI n := (f.I _ _ (z_ok_lt (xo_0 N.1)) (by omega)).trans N.2.2.2.1
    have tm1 : z_I h1 (o + 2) t = nI (a_tm ans t n) := (f.I _ _ (z_ok_lt (xo_6 N.1)) (by omega)).trans (N.2.2.2.2.2.1 t (by omega))
    unfold fX2_add_b35_i
    simp (disch := first | assumption | omega) only [p_some, p_gd, p_br, p_bi, p_nm, p_mp, p_Sl, p_Sr, p_bis, p_gdt, q_IL, q_IR, q_LI, q_LR, q_RI, q_RL, q_KI, q_KL, q_KR, q_NI, q_NL, q_NR, q_nI, q_nL, q_nR, q_okI, q_okL, q_okR, q_Ie, q_In, q_Le, q_Ln, SM_I, SM_L, s_c0, s_cg0, s_cl0, s_cge, s_cle, r_le, r_lt, r_eq, r_md, r_2, r_3, r_lit, r_litL, r_m1, nI_add, nI_1, nI_clamp, nI_leI, nI_ltI, nI_eq, pk_sub, q_ix, nI_l, lN_add, lN_mul, r_m1n, r_m1n', r_m1lt, r_m1nlt, r_m1le, r_m1nle, Nat.not_lt_zero, Nat.reduceEqDiff, Nat.reduceLT, Nat.reduceLeDiff, true_and, and_true, true_implies, false_implies, not_true_eq_false, not_false_eq_true, implies_true, and_self, ne_eq, decide_true, decide_false, Bool.not_true, Bool.not_false, if_true, if_false, reduceIte, xb_0, xb_1, xb_2, xb_3, xb_4, xb_5, xb_6, xb_7, xb_8, xb_9, xb_10, xb_11, xb_12, xb_13, xb_14, xb_15, xb_16, xb_17, xb_18, xb_19, xb_20, xb_21, xo_0, xo_1, xo_2, xo_3, xo_4, xo_5, xo_6, xo_7, xo_8, xo_9, Nat.le_refl, i1, tm1, pk_mul]
    refine k _ ((((f.w (fun a k _ c => c.2.2.2)).sI (fun _ => by unfold nC; omega)).sI (fun _ => by unfold nC; omega)).sI (fun _ => by unfold nC; omega)) ((q_In (by omega)).trans ((q_In (by omega)).trans ((q_In (by omega)).trans (f.I _ _ (z_ok_lt (xo_0 N.1)) (by omega))))) ⟨s1, ?_, ?_, ?_, fun i hi => ?_, fun t' ht' => ?_, fun q hq => ?_⟩
    · exact (f.R _ _ (z_ok_lt (xo_0 N.1)) (by omega)).trans N.2.1
    · exact (N.2.2.1.fr f hb (fun j k hj => by omega)).fr (C := fun a _ => a < o ∨ o + 3 < a) (((x_fr.rf.sI (fun _ => by omega)).sI (fun _ => by omega)).sI (fun _ => by omega)) hb (fun j k hj => by omega)
    · exact q_Ie rfl rfl
    · rw [q_In (by omega), q_In (by omega)]
      unfold a_u
      by_cases c : i = n
      · rw [if_pos c, q_Ie rfl c]
      · rw [if_neg c, q_In (by omega)]
        exact (f.I _ _ (z_ok_lt (xo_4 N.1)) (by omega)).trans (N.2.2.2.2.1 i (by omega))
    · rw [q_In (by omega), a_tm_u, hv1]
      by_cases c : t' = t
      · subst c
        rw [q_Ie rfl rfl, if_pos rfl]
      · rw [q_In (by omega), q_In (by omega), if_neg (fun q => c q.symm), Nat.add_zero]
        exact (f.I _ _ (z_ok_lt (xo_6 N.1)) (by omega)).trans (N.2.2.2.2.2.1 t' ht')
    · exact g1 q hq
theorem x_canBe {h : z_T} {o bo n t st : Nat} {bk ans : Nat → Nat} (b : BOK bk) (N : xNi h o bo bk ans n) (hn : n < 12) (ha : ∀ i, i < n → ans i < 2 * bk 0) (ht : t < bk 0) (hst : st < 2) : fX2_canBe o (nI t) (nI st) h = some (bI (0 < a_all bk (a_u ans n (2 * t + st)) (n + 1))) := by
  have h0 := b.1
  have hv1 : (2 * t + st) / 2 = t := by omega
  have hv2 : (2 * t + st) % 2 = st := by omega
  refine p_of ?_
  unfold fX2_canBe fX2_canBe_b2
  refine p_for 7 (fun j w => w = nI j ∧ sumN (fun q => a_lk bk (a_u ans n (2 * t + st)) q (n + 1)) j = 0) ?_ ?_ 0 (by omega) ⟨rfl, rfl⟩
  · rintro j w hj ⟨rfl, hz⟩
    have hfa := a_fa_le (s := st) (b.od (ans := ans) (n := n) (q := j) (t := t) (by omega))
    have hlk := b.lkb (q := j) (n := n) (ans := ans) hj (by omega) (fun i hi => by have := ha i hi; omega)
    unfold fX2_canBe_b2_i fX2_canBe_b30
    simp (disch := first | assumption | omega) only [p_some, p_gd, p_br, p_bi, p_nm, p_mp, p_Sl, p_Sr, p_bis, p_gdt, q_IL, q_IR, q_LI, q_LR, q_RI, q_RL, q_KI, q_KL, q_KR, q_NI, q_NL, q_NR, q_nI, q_nL, q_nR, q_okI, q_okL, q_okR, q_Ie, q_In, q_Le, q_Ln, SM_I, SM_L, s_c0, s_cg0, s_cl0, s_cge, s_cle, r_le, r_lt, r_eq, r_md, r_2, r_3, r_lit, r_litL, r_m1, nI_add, nI_1, nI_clamp, nI_leI, nI_ltI, nI_eq, pk_sub, q_ix, nI_l, lN_add, lN_mul, r_m1n, r_m1n', r_m1lt, r_m1nlt, r_m1le, r_m1nle, Nat.not_lt_zero, Nat.reduceEqDiff, Nat.reduceLT, Nat.reduceLeDiff, true_and, and_true, true_implies, false_implies, not_true_eq_false, not_false_eq_true, implies_true, and_self, ne_eq, decide_true, decide_false, Bool.not_true, Bool.not_false, if_true, if_false, reduceIte, xb_0, xb_1, xb_2, xb_3, xb_4, xb_5, xb_6, xb_7, xb_8, xb_9, xb_10, xb_11, xb_12, xb_13, xb_14, xb_15, xb_16, xb_17, xb_18, xb_19, xb_20, xb_21, xo_0, xo_1, xo_2, xo_3, xo_4, xo_5, xo_6, xo_7, xo_8, xo_9, xo_0 N.1, x_ofPlace N, x_chanceOf b N, show ¬ 7 ≤ j by omega]
    have key : ∀ c : a_lk bk ans j n * a_fa (a_od bk ans n j t) st = 0, sumN (fun q => a_lk bk (a_u ans n (2 * t + st)) q (n + 1)) (j + 1) = 0 := fun c => by
      rw [sumN, hz, a_lk_u, hv1, hv2, c]
    refine ⟨fun c => key (by rw [show a_lk bk ans j n = 0 by omega, Nat.zero_mul]), fun c => ⟨fun c2 => key (by rw [show a_fa (a_od bk ans n j t) st = 0 by omega, Nat.mul_zero]), fun c2 => ?_⟩⟩
    rw [bI_t]
    have hp : 0 < a_lk bk (a_u ans n (2 * t + st)) j (n + 1) := by
      rw [a_lk_u, hv1, hv2]
      exact Nat.mul_pos (by omega) (by omega)
    rw [← b.all7]
    exact Nat.lt_of_lt_of_le hp (sumN_ge (f := fun q => a_lk bk (a_u ans n (2 * t + st)) q (n + 1)) hj)
  · rintro w ⟨rfl, hz⟩
    unfold fX2_canBe_b2_i
    simp (disch := first | assumption | omega) only [p_some, p_gd, p_br, p_bi, p_nm, p_mp, p_Sl, p_Sr, p_bis, p_gdt, q_IL, q_IR, q_LI, q_LR, q_RI, q_RL, q_KI, q_KL, q_KR, q_NI, q_NL, q_NR, q_nI, q_nL, q_nR, q_okI, q_okL, q_okR, q_Ie, q_In, q_Le, q_Ln, SM_I, SM_L, s_c0, s_cg0, s_cl0, s_cge, s_cle, r_le, r_lt, r_eq, r_md, r_2, r_3, r_lit, r_litL, r_m1, nI_add, nI_1, nI_clamp, nI_leI, nI_ltI, nI_eq, pk_sub, q_ix, nI_l, lN_add, lN_mul, r_m1n, r_m1n', r_m1lt, r_m1nlt, r_m1le, r_m1nle, Nat.not_lt_zero, Nat.reduceEqDiff, Nat.reduceLT, Nat.reduceLeDiff, true_and, and_true, true_implies, false_implies, not_true_eq_false, not_false_eq_true, implies_true, and_self, ne_eq, decide_true, decide_false, Bool.not_true, Bool.not_false, if_true, if_false, reduceIte, xb_0, xb_1, xb_2, xb_3, xb_4, xb_5, xb_6, xb_7, xb_8, xb_9, xb_10, xb_11, xb_12, xb_13, xb_14, xb_15, xb_16, xb_17, xb_18, xb_19, xb_20, xb_21, xo_0, xo_1, xo_2, xo_3, xo_4, xo_5, xo_6, xo_7, xo_8, xo_9, Nat.le_refl]
    rw [bI_f]
    rw [← b.all7, hz]
    omega
