/-! states of asking: six digits in threes; what they weigh (the reference) -/
def a_dg (x i : Nat) : Nat := x / 3 ^ i % 3
theorem a_dg_lt {x i : Nat} : a_dg x i < 3 := Nat.mod_lt _ (by decide)
theorem m_digit {x i : Nat} (hx : x < 2 ^ 31) (hi : i < 2 ^ 30) : fX12_digit 0 (nI x) (nI i) = some (nI (a_dg x i)) := by
  refine p_of ?_
  unfold fX12_digit fX12_digit_b5
  refine p_for i (fun j w => w = (nI (x / 3 ^ j), nI j)) ?_ ?_ 0 (by omega) (by rw [Nat.pow_zero, Nat.div_one]; rfl)
  · rintro j w hj rfl
    have hd : x / 3 ^ j < 2 ^ 31 := Nat.lt_of_le_of_lt (Nat.div_le_self _ _) hx
    have e1 : x / 3 ^ (j + 1) = x / 3 ^ j / 3 := by rw [Nat.pow_succ, Nat.div_div_eq_div_mul]
    generalize x / 3 ^ (j + 1) = y at e1 ⊢
    generalize x / 3 ^ j = z at *
    unfold fX12_digit_b5_i
    simp (disch := first | assumption | omega) only [p_some, p_gd, p_br, p_bi, p_nm, p_mp, p_Sl, p_Sr, p_bis, p_gdt, q_IL, q_IR, q_LI, q_LR, q_RI, q_RL, q_KI, q_KL, q_KR, q_NI, q_NL, q_NR, q_nI, q_nL, q_nR, q_okI, q_okL, q_okR, q_Ie, q_In, q_Le, q_Ln, SM_I, SM_L, s_c0, s_cg0, s_cl0, s_cge, s_cle, r_le, r_lt, r_eq, r_md, r_2, r_3, r_lit, r_litL, r_m1, nI_add, nI_1, nI_clamp, nI_leI, nI_ltI, nI_eq, pk_sub, q_ix, nI_l, lN_add, lN_mul, r_m1n, r_m1n', r_m1lt, r_m1nlt, r_m1le, r_m1nle, Nat.not_lt_zero, Nat.reduceEqDiff, Nat.reduceLT, Nat.reduceLeDiff, true_and, and_true, true_implies, false_implies, not_true_eq_false, not_false_eq_true, implies_true, and_self, ne_eq, decide_true, decide_false, Bool.not_true, Bool.not_false, if_true, if_false, reduceIte, pk_div, show ¬ i ≤ j by omega]
    rw [e1]
  · rintro w rfl
    have hd : x / 3 ^ i < 2 ^ 31 := Nat.lt_of_le_of_lt (Nat.div_le_self _ _) hx
    unfold a_dg
    generalize x / 3 ^ i = z at *
    unfold fX12_digit_b5_i
    simp (disch := first | assumption | omega) only [p_some, p_gd, p_br, p_bi, p_nm, p_mp, p_Sl, p_Sr, p_bis, p_gdt, q_IL, q_IR, q_LI, q_LR, q_RI, q_RL, q_KI, q_KL, q_KR, q_NI, q_NL, q_NR, q_nI, q_nL, q_nR, q_okI, q_okL, q_okR, q_Ie, q_In, q_Le, q_Ln, SM_I, SM_L, s_c0, s_cg0, s_cl0, s_cge, s_cle, r_le, r_lt, r_eq, r_md, r_2, r_3, r_lit, r_litL, r_m1, nI_add, nI_1, nI_clamp, nI_leI, nI_ltI, nI_eq, pk_sub, q_ix, nI_l, lN_add, lN_mul, r_m1n, r_m1n', r_m1lt, r_m1nlt, r_m1le, r_m1nle, Nat.not_lt_zero, Nat.reduceEqDiff, Nat.reduceLT, Nat.reduceLeDiff, true_and, and_true, true_implies, false_implies, not_true_eq_false, not_false_eq_true, implies_true, and_self, ne_eq, decide_true, decide_false, Bool.not_true, Bool.not_false, if_true, if_false, reduceIte, pk_div, Nat.le_refl]
def a_aq (x m : Nat) : Nat := sumN (fun i => if a_dg x i = 0 then 0 else 1) m
theorem a_aq_le {x m : Nat} : a_aq x m ≤ m := Nat.le_trans (sumN_le (b := 1) (fun i _ => by split <;> omega)) (by omega)
theorem m_askedIn {h : z_T} {x : Nat} (s : SM h) (hx : x < 729) : fX12_askedIn 0 (nI x) h = some (nI (a_aq x 6)) := by
  refine p_of ?_
  unfold fX12_askedIn fX12_askedIn_b4
  refine p_for 6 (fun j w => w = (nI (a_aq x j), nI j)) ?_ ?_ 0 (by omega) rfl
  · rintro j w hj rfl
    have l := a_aq_le (x := x) (m := j)
    have hd := a_dg_lt (x := x) (i := j)
    have md := m_digit (x := x) (i := j) (by omega) (by omega)
    have e1 : a_aq x (j + 1) = a_aq x j + (if a_dg x j = 0 then 0 else 1) := rfl
    generalize a_dg x j = d at *
    unfold fX12_askedIn_b4_i
    simp (disch := first | assumption | omega) only [p_some, p_gd, p_br, p_bi, p_nm, p_mp, p_Sl, p_Sr, p_bis, p_gdt, q_IL, q_IR, q_LI, q_LR, q_RI, q_RL, q_KI, q_KL, q_KR, q_NI, q_NL, q_NR, q_nI, q_nL, q_nR, q_okI, q_okL, q_okR, q_Ie, q_In, q_Le, q_Ln, SM_I, SM_L, s_c0, s_cg0, s_cl0, s_cge, s_cle, r_le, r_lt, r_eq, r_md, r_2, r_3, r_lit, r_litL, r_m1, nI_add, nI_1, nI_clamp, nI_leI, nI_ltI, nI_eq, pk_sub, q_ix, nI_l, lN_add, lN_mul, r_m1n, r_m1n', r_m1lt, r_m1nlt, r_m1le, r_m1nle, Nat.not_lt_zero, Nat.reduceEqDiff, Nat.reduceLT, Nat.reduceLeDiff, true_and, and_true, true_implies, false_implies, not_true_eq_false, not_false_eq_true, implies_true, and_self, ne_eq, decide_true, decide_false, Bool.not_true, Bool.not_false, if_true, if_false, reduceIte, mk0, mk1, mk2, mk3, mk4, mk5, mk6, mk7, mk8, mk9, mk10, mk11, mk12, mk13, mk14, mk15, mk16, mk17, mk18, mk19, mk20, mk21, mk22, mn1, mn2, mn3, mn4, mn5, mn6, mn7, mn8, mn9, mn10, mn11, mn12, mn13, mn14, mn15, mn16, mn17, mn18, mn19, mn20, mn21, mn22, mr1, mr6, mr7, mr8, mr9, mr10, mr21, mr22, mr23, mr25, mr26, mr29, mr30, mr32, mr33, mr34, mr43, mr47, mr53, mr54, mr55, mr56, md, show ¬ 6 ≤ j by omega]
    unfold fX12_askedIn_b25
    simp (disch := first | assumption | omega) only [p_some, p_gd, p_br, p_bi, p_nm, p_mp, p_Sl, p_Sr, p_bis, p_gdt, Nat.not_lt_zero, Nat.reduceEqDiff, Nat.reduceLT, Nat.reduceLeDiff, true_and, and_true, true_implies, false_implies, not_true_eq_false, not_false_eq_true, implies_true, and_self, ne_eq, decide_true, decide_false, Bool.not_true, Bool.not_false, if_true, if_false, reduceIte, r_lit, nI_leI, Nat.le_zero]
    refine ⟨fun c => ?_, fun c => ?_⟩
    · rw [if_pos c] at e1
      simp (disch := first | assumption | omega) only [p_some, p_gd, p_br, p_bi, p_nm, p_mp, p_Sl, p_Sr, p_bis, p_gdt, Nat.not_lt_zero, Nat.reduceEqDiff, Nat.reduceLT, Nat.reduceLeDiff, true_and, and_true, true_implies, false_implies, not_true_eq_false, not_false_eq_true, implies_true, and_self, ne_eq, decide_true, decide_false, Bool.not_true, Bool.not_false, if_true, if_false, reduceIte, nI_add, nI_1]
      rw [e1]
    · rw [if_neg c] at e1
      simp (disch := first | assumption | omega) only [p_some, p_gd, p_br, p_bi, p_nm, p_mp, p_Sl, p_Sr, p_bis, p_gdt, Nat.not_lt_zero, Nat.reduceEqDiff, Nat.reduceLT, Nat.reduceLeDiff, true_and, and_true, true_implies, false_implies, not_true_eq_false, not_false_eq_true, implies_true, and_self, ne_eq, decide_true, decide_false, Bool.not_true, Bool.not_false, if_true, if_false, reduceIte, nI_add, nI_1]
      rw [e1]
  · rintro w rfl
    unfold fX12_askedIn_b4_i
    simp (disch := first | assumption | omega) only [p_some, p_gd, p_br, p_bi, p_nm, p_mp, p_Sl, p_Sr, p_bis, p_gdt, q_IL, q_IR, q_LI, q_LR, q_RI, q_RL, q_KI, q_KL, q_KR, q_NI, q_NL, q_NR, q_nI, q_nL, q_nR, q_okI, q_okL, q_okR, q_Ie, q_In, q_Le, q_Ln, SM_I, SM_L, s_c0, s_cg0, s_cl0, s_cge, s_cle, r_le, r_lt, r_eq, r_md, r_2, r_3, r_lit, r_litL, r_m1, nI_add, nI_1, nI_clamp, nI_leI, nI_ltI, nI_eq, pk_sub, q_ix, nI_l, lN_add, lN_mul, r_m1n, r_m1n', r_m1lt, r_m1nlt, r_m1le, r_m1nle, Nat.not_lt_zero, Nat.reduceEqDiff, Nat.reduceLT, Nat.reduceLeDiff, true_and, and_true, true_implies, false_implies, not_true_eq_false, not_false_eq_true, implies_true, and_self, ne_eq, decide_true, decide_false, Bool.not_true, Bool.not_false, if_true, if_false, reduceIte, mk0, mk1, mk2, mk3, mk4, mk5, mk6, mk7, mk8, mk9, mk10, mk11, mk12, mk13, mk14, mk15, mk16, mk17, mk18, mk19, mk20, mk21, mk22, mn1, mn2, mn3, mn4, mn5, mn6, mn7, mn8, mn9, mn10, mn11, mn12, mn13, mn14, mn15, mn16, mn17, mn18, mn19, mn20, mn21, mn22, mr1, mr6, mr7, mr8, mr9, mr10, mr21, mr22, mr23, mr25, mr26, mr29, mr30, mr32, mr33, mr34, mr43, mr47, mr53, mr54, mr55, mr56, Nat.le_refl]
def a_qp (bk : Nat → Nat) (x q : Nat) : Nat → Nat
  | 0 => 1
  | m + 1 => if a_dg x m = 0 then a_qp bk x q m else if a_dg x m = 1 then a_qp bk x q m * a_pl bk q m else a_qp bk x q m * (9 - a_pl bk q m)
def a_q (bk : Nat → Nat) (x q : Nat) : Nat := a_w bk q * a_qp bk x q 6
def a_q1 (bk : Nat → Nat) (x m : Nat) : Nat := sumN (fun q => a_q bk x (q + 1)) m
def mWf (o k : Nat) : Prop := o ≠ 0 ∨ (k ≠ 27 ∧ k ≠ 28)
theorem m_weighsIn {h : z_T} {bk : Nat → Nat} {x q A B : Nat} {Q : (Int32 × z_T) ⊕ z_T → Prop} (s : SM h) (b : BOK bk) (hB : mB h bk) (hx : x < 729) (hq : q < 7) (l27 : z_L h 0 27 = lN A) (l28 : z_L h 0 28 = lN B)
    (k : ∀ h', m_fr mWf h h' → z_L h' 0 27 = lN (if q = 0 then A + a_q bk x q else A) → z_L h' 0 28 = lN (if q = 0 then B else B + a_q bk x q) → Q (.inl (nI (q + 1), h'))) :
    p_W (fX12_weighs_b30 0 (nI x) (nI q) (lN (a_w bk q)) (nI 0) h) Q := by
  unfold fX12_weighs_b30
  refine p_for 6 (fun j w => w = (lN (a_w bk q * a_qp bk x q j), nI j)) ?_ ?_ 0 (by omega) (by rw [a_qp, Nat.mul_one])
  · rintro j w hj rfl
    have hd := a_dg_lt (x := x) (i := j)
    have md := m_digit (x := x) (i := j) (by omega) (by omega)
    have hp := b.pl (q := q) (t := j) (by omega)
    have e1 : a_qp bk x q (j + 1) = if a_dg x j = 0 then a_qp bk x q j else if a_dg x j = 1 then a_qp bk x q j * a_pl bk q j else a_qp bk x q j * (9 - a_pl bk q j) := rfl
    generalize a_dg x j = d at *
    unfold fX12_weighs_b30_i
    simp (disch := first | assumption | omega) only [p_some, p_gd, p_br, p_bi, p_nm, p_mp, p_Sl, p_Sr, p_bis, p_gdt, q_IL, q_IR, q_LI, q_LR, q_RI, q_RL, q_KI, q_KL, q_KR, q_NI, q_NL, q_NR, q_nI, q_nL, q_nR, q_okI, q_okL, q_okR, q_Ie, q_In, q_Le, q_Ln, SM_I, SM_L, s_c0, s_cg0, s_cl0, s_cge, s_cle, r_le, r_lt, r_eq, r_md, r_2, r_3, r_lit, r_litL, r_m1, nI_add, nI_1, nI_clamp, nI_leI, nI_ltI, nI_eq, pk_sub, q_ix, nI_l, lN_add, lN_mul, r_m1n, r_m1n', r_m1lt, r_m1nlt, r_m1le, r_m1nle, Nat.not_lt_zero, Nat.reduceEqDiff, Nat.reduceLT, Nat.reduceLeDiff, true_and, and_true, true_implies, false_implies, not_true_eq_false, not_false_eq_true, implies_true, and_self, ne_eq, decide_true, decide_false, Bool.not_true, Bool.not_false, if_true, if_false, reduceIte, mk0, mk1, mk2, mk3, mk4, mk5, mk6, mk7, mk8, mk9, mk10, mk11, mk12, mk13, mk14, mk15, mk16, mk17, mk18, mk19, mk20, mk21, mk22, mn1, mn2, mn3, mn4, mn5, mn6, mn7, mn8, mn9, mn10, mn11, mn12, mn13, mn14, mn15, mn16, mn17, mn18, mn19, mn20, mn21, mn22, mr1, mr6, mr7, mr8, mr9, mr10, mr21, mr22, mr23, mr25, mr26, mr29, mr30, mr32, mr33, mr34, mr43, mr47, mr53, mr54, mr55, mr56, md, show ¬ 6 ≤ j by omega]
    simp (disch := first | assumption | omega) only [p_some, p_gd, p_br, p_bi, p_nm, p_mp, p_Sl, p_Sr, p_bis, p_gdt, Nat.not_lt_zero, Nat.reduceEqDiff, Nat.reduceLT, Nat.reduceLeDiff, true_and, and_true, true_implies, false_implies, not_true_eq_false, not_false_eq_true, implies_true, and_self, ne_eq, decide_true, decide_false, Bool.not_true, Bool.not_false, if_true, if_false, reduceIte, r_lit, nI_leI, Nat.le_zero]
    refine ⟨fun c => ?_, fun c => ?_⟩
    · rw [if_pos c] at e1
      unfold fX12_weighs_b82
      simp (disch := first | assumption | omega) only [p_some, p_gd, p_br, p_bi, p_nm, p_mp, p_Sl, p_Sr, p_bis, p_gdt, Nat.not_lt_zero, Nat.reduceEqDiff, Nat.reduceLT, Nat.reduceLeDiff, true_and, and_true, true_implies, false_implies, not_true_eq_false, not_false_eq_true, implies_true, and_self, ne_eq, decide_true, decide_false, Bool.not_true, Bool.not_false, if_true, if_false, reduceIte, r_lit, nI_add, nI_1]
      rw [e1]
    · rw [if_neg c] at e1
      simp (disch := first | assumption | omega) only [p_some, p_gd, p_br, p_bi, p_nm, p_mp, p_Sl, p_Sr, p_bis, p_gdt, q_IL, q_IR, q_LI, q_LR, q_RI, q_RL, q_KI, q_KL, q_KR, q_NI, q_NL, q_NR, q_nI, q_nL, q_nR, q_okI, q_okL, q_okR, q_Ie, q_In, q_Le, q_Ln, SM_I, SM_L, s_c0, s_cg0, s_cl0, s_cge, s_cle, r_le, r_lt, r_eq, r_md, r_2, r_3, r_lit, r_litL, r_m1, nI_add, nI_1, nI_clamp, nI_leI, nI_ltI, nI_eq, pk_sub, q_ix, nI_l, lN_add, lN_mul, r_m1n, r_m1n', r_m1lt, r_m1nlt, r_m1le, r_m1nle, Nat.not_lt_zero, Nat.reduceEqDiff, Nat.reduceLT, Nat.reduceLeDiff, true_and, and_true, true_implies, false_implies, not_true_eq_false, not_false_eq_true, implies_true, and_self, ne_eq, decide_true, decide_false, Bool.not_true, Bool.not_false, if_true, if_false, reduceIte, mk0, mk1, mk2, mk3, mk4, mk5, mk6, mk7, mk8, mk9, mk10, mk11, mk12, mk13, mk14, mk15, mk16, mk17, mk18, mk19, mk20, mk21, mk22, mn1, mn2, mn3, mn4, mn5, mn6, mn7, mn8, mn9, mn10, mn11, mn12, mn13, mn14, mn15, mn16, mn17, mn18, mn19, mn20, mn21, mn22, mr1, mr6, mr7, mr8, mr9, mr10, mr21, mr22, mr23, mr25, mr26, mr29, mr30, mr32, mr33, mr34, mr43, mr47, mr53, mr54, mr55, mr56, m_plain s b hB hq (show j < 8 by omega)]
      unfold fX12_weighs_b80 fX12_weighs_b82
      refine ⟨fun c2 => ?_, fun c2 => ?_⟩
      · rw [if_pos c2] at e1
        simp (disch := first | assumption | omega) only [p_some, p_gd, p_br, p_bi, p_nm, p_mp, p_Sl, p_Sr, p_bis, p_gdt, Nat.not_lt_zero, Nat.reduceEqDiff, Nat.reduceLT, Nat.reduceLeDiff, true_and, and_true, true_implies, false_implies, not_true_eq_false, not_false_eq_true, implies_true, and_self, ne_eq, decide_true, decide_false, Bool.not_true, Bool.not_false, if_true, if_false, reduceIte, r_lit, nI_add, nI_1, lN_mul]
        rw [e1, Nat.mul_assoc]
      · rw [if_neg c2] at e1
        simp (disch := first | assumption | omega) only [p_some, p_gd, p_br, p_bi, p_nm, p_mp, p_Sl, p_Sr, p_bis, p_gdt, Nat.not_lt_zero, Nat.reduceEqDiff, Nat.reduceLT, Nat.reduceLeDiff, true_and, and_true, true_implies, false_implies, not_true_eq_false, not_false_eq_true, implies_true, and_self, ne_eq, decide_true, decide_false, Bool.not_true, Bool.not_false, if_true, if_false, reduceIte, r_lit, nI_add, nI_1, lN_mul]
        rw [e1, Nat.mul_assoc]
  · rintro w rfl
    have kk := k
    clear k
    unfold a_q at kk
    generalize a_w bk q * a_qp bk x q 6 = V at kk ⊢
    unfold fX12_weighs_b30_i
    simp (disch := first | assumption | omega) only [p_some, p_gd, p_br, p_bi, p_nm, p_mp, p_Sl, p_Sr, p_bis, p_gdt, q_IL, q_IR, q_LI, q_LR, q_RI, q_RL, q_KI, q_KL, q_KR, q_NI, q_NL, q_NR, q_nI, q_nL, q_nR, q_okI, q_okL, q_okR, q_Ie, q_In, q_Le, q_Ln, SM_I, SM_L, s_c0, s_cg0, s_cl0, s_cge, s_cle, r_le, r_lt, r_eq, r_md, r_2, r_3, r_lit, r_litL, r_m1, nI_add, nI_1, nI_clamp, nI_leI, nI_ltI, nI_eq, pk_sub, q_ix, nI_l, lN_add, lN_mul, r_m1n, r_m1n', r_m1lt, r_m1nlt, r_m1le, r_m1nle, Nat.not_lt_zero, Nat.reduceEqDiff, Nat.reduceLT, Nat.reduceLeDiff, true_and, and_true, true_implies, false_implies, not_true_eq_false, not_false_eq_true, implies_true, and_self, ne_eq, decide_true, decide_false, Bool.not_true, Bool.not_false, if_true, if_false, reduceIte, mk0, mk1, mk2, mk3, mk4, mk5, mk6, mk7, mk8, mk9, mk10, mk11, mk12, mk13, mk14, mk15, mk16, mk17, mk18, mk19, mk20, mk21, mk22, mn1, mn2, mn3, mn4, mn5, mn6, mn7, mn8, mn9, mn10, mn11, mn12, mn13, mn14, mn15, mn16, mn17, mn18, mn19, mn20, mn21, mn22, mr1, mr6, mr7, mr8, mr9, mr10, mr21, mr22, mr23, mr25, mr26, mr29, mr30, mr32, mr33, mr34, mr43, mr47, mr53, mr54, mr55, mr56, Nat.le_refl, l27]
    refine ⟨fun c => ?_, fun c => ?_⟩
    · subst c
      unfold fX12_weighs_b102
      simp (disch := first | assumption | omega) only [p_some, p_gd, p_br, p_bi, p_nm, p_mp, p_Sl, p_Sr, p_bis, p_gdt, Nat.not_lt_zero, Nat.reduceEqDiff, Nat.reduceLT, Nat.reduceLeDiff, true_and, and_true, true_implies, false_implies, not_true_eq_false, not_false_eq_true, implies_true, and_self, ne_eq, decide_true, decide_false, Bool.not_true, Bool.not_false, if_true, if_false, reduceIte, mk0 s, q_okL, r_lit, r_litL, nI_leI, Nat.le_refl, lN_add, q_Ln, q_Le, l28]
      unfold fX12_weighs_b120
      simp (disch := first | assumption | omega) only [p_some, p_gd, p_br, p_bi, p_nm, p_mp, p_Sl, p_Sr, p_bis, p_gdt, Nat.not_lt_zero, Nat.reduceEqDiff, Nat.reduceLT, Nat.reduceLeDiff, true_and, and_true, true_implies, false_implies, not_true_eq_false, not_false_eq_true, implies_true, and_self, ne_eq, decide_true, decide_false, Bool.not_true, Bool.not_false, if_true, if_false, reduceIte, mk0 s, q_okL, r_lit, r_litL, nI_add, nI_1, lN_add, q_Ln, q_Le, l28]
      refine kk _ ((m_fr.rf.sL (by unfold mWf; omega)).sL (by unfold mWf; omega)) ?_ ?_
      · rw [if_pos rfl, q_Ln (by omega), q_Le rfl rfl]
      · rw [if_pos rfl, q_Le rfl rfl]
        exact rfl
    · unfold fX12_weighs_b102
      simp (disch := first | assumption | omega) only [p_some, p_gd, p_br, p_bi, p_nm, p_mp, p_Sl, p_Sr, p_bis, p_gdt, Nat.not_lt_zero, Nat.reduceEqDiff, Nat.reduceLT, Nat.reduceLeDiff, true_and, and_true, true_implies, false_implies, not_true_eq_false, not_false_eq_true, implies_true, and_self, ne_eq, decide_true, decide_false, Bool.not_true, Bool.not_false, if_true, if_false, reduceIte, mk0 s, q_okL, r_lit, r_litL, nI_leI, show ¬ q ≤ 0 by omega, lN_add, q_Ln, q_Le, l28]
      unfold fX12_weighs_b120
      simp (disch := first | assumption | omega) only [p_some, p_gd, p_br, p_bi, p_nm, p_mp, p_Sl, p_Sr, p_bis, p_gdt, Nat.not_lt_zero, Nat.reduceEqDiff, Nat.reduceLT, Nat.reduceLeDiff, true_and, and_true, true_implies, false_implies, not_true_eq_false, not_false_eq_true, implies_true, and_self, ne_eq, decide_true, decide_false, Bool.not_true, Bool.not_false, if_true, if_false, reduceIte, mk0 s, q_okL, r_lit, r_litL, nI_add, nI_1, lN_add, q_Ln, q_Le, l28]
      refine kk _ ((m_fr.rf.sL (by unfold mWf; omega)).sL (by unfold mWf; omega)) ?_ ?_
      · rw [if_neg c, q_Ln (by omega), q_Le rfl rfl]
        exact rfl
      · rw [if_neg c, q_Le rfl rfl]
theorem m_weighs {h : z_T} {bk : Nat → Nat} {x : Nat} {Q : z_T → Prop} (s : SM h) (b : BOK bk) (hB : mB h bk) (hx : x < 729)
    (k : ∀ h', m_fr mWf h h' → z_L h' 0 27 = lN (a_q bk x 0) → z_L h' 0 28 = lN (a_q1 bk x 6) → Q h') : p_W (fX12_weighs 0 (nI x) h) Q := by
  have h6 := b.2.1
  have e6 : a_q1 bk x (bk 1) = a_q1 bk x 6 := (sumN_ext (by omega) (fun i h1 h2 => by
    unfold a_q
    rw [b.w0 (by omega) (by omega), Nat.zero_mul])).symm
  unfold fX12_weighs
  simp (disch := first | assumption | omega) only [p_some, p_gd, p_br, p_bi, p_nm, p_mp, p_Sl, p_Sr, p_bis, p_gdt, q_IL, q_IR, q_LI, q_LR, q_RI, q_RL, q_KI, q_KL, q_KR, q_NI, q_NL, q_NR, q_nI, q_nL, q_nR, q_okI, q_okL, q_okR, q_Ie, q_In, q_Le, q_Ln, SM_I, SM_L, s_c0, s_cg0, s_cl0, s_cge, s_cle, r_le, r_lt, r_eq, r_md, r_2, r_3, r_lit, r_litL, r_m1, nI_add, nI_1, nI_clamp, nI_leI, nI_ltI, nI_eq, pk_sub, q_ix, nI_l, lN_add, lN_mul, r_m1n, r_m1n', r_m1lt, r_m1nlt, r_m1le, r_m1nle, Nat.not_lt_zero, Nat.reduceEqDiff, Nat.reduceLT, Nat.reduceLeDiff, true_and, and_true, true_implies, false_implies, not_true_eq_false, not_false_eq_true, implies_true, and_self, ne_eq, decide_true, decide_false, Bool.not_true, Bool.not_false, if_true, if_false, reduceIte, mk0, mk1, mk2, mk3, mk4, mk5, mk6, mk7, mk8, mk9, mk10, mk11, mk12, mk13, mk14, mk15, mk16, mk17, mk18, mk19, mk20, mk21, mk22, mn1, mn2, mn3, mn4, mn5, mn6, mn7, mn8, mn9, mn10, mn11, mn12, mn13, mn14, mn15, mn16, mn17, mn18, mn19, mn20, mn21, mn22, mr1, mr6, mr7, mr8, mr9, mr10, mr21, mr22, mr23, mr25, mr26, mr29, mr30, mr32, mr33, mr34, mr43, mr47, mr53, mr54, mr55, mr56]
  have f0 : m_fr mWf h (z_sL (z_sL h 0 27 (lN 0)) 0 28 (lN 0)) := (m_fr.rf.sL (by unfold mWf; omega)).sL (by unfold mWf; omega)
  have i1 : z_L (z_sL (z_sL h 0 27 (lN 0)) 0 28 (lN 0)) 0 27 = lN 0 := (q_Ln (by omega)).trans (q_Le rfl rfl)
  have i2 : z_L (z_sL (z_sL h 0 27 (lN 0)) 0 28 (lN 0)) 0 28 = lN 0 := q_Le rfl rfl
  generalize z_sL (z_sL h 0 27 (lN 0)) 0 28 (lN 0) = h0 at f0 i1 i2 ⊢
  unfold fX12_weighs_b12
  refine p_for (bk 1 + 1) (fun q w => w.1 = nI q ∧ m_fr mWf h w.2 ∧ z_L w.2 0 27 = lN (if q = 0 then 0 else a_q bk x 0) ∧ z_L w.2 0 28 = lN (a_q1 bk x (q - 1))) ?_ ?_ 0 (by omega) ⟨rfl, f0, by rw [if_pos rfl]; exact i1, i2⟩
  · rintro q ⟨y, h1⟩ hq ⟨e1, f1, g1, g2⟩
    dsimp only at e1 f1 g1 g2
    subst e1
    have s1 := f1.s s
    have hB1 : mB h1 bk := fun k hk => (f1.I 2 k (by unfold mWf; omega)).trans (hB k hk)
    have hw := b.w (q := q) (by omega)
    unfold fX12_weighs_b12_i
    simp (disch := first | assumption | omega) only [p_some, p_gd, p_br, p_bi, p_nm, p_mp, p_Sl, p_Sr, p_bis, p_gdt, q_IL, q_IR, q_LI, q_LR, q_RI, q_RL, q_KI, q_KL, q_KR, q_NI, q_NL, q_NR, q_nI, q_nL, q_nR, q_okI, q_okL, q_okR, q_Ie, q_In, q_Le, q_Ln, SM_I, SM_L, s_c0, s_cg0, s_cl0, s_cge, s_cle, r_le, r_lt, r_eq, r_md, r_2, r_3, r_lit, r_litL, r_m1, nI_add, nI_1, nI_clamp, nI_leI, nI_ltI, nI_eq, pk_sub, q_ix, nI_l, lN_add, lN_mul, r_m1n, r_m1n', r_m1lt, r_m1nlt, r_m1le, r_m1nle, Nat.not_lt_zero, Nat.reduceEqDiff, Nat.reduceLT, Nat.reduceLeDiff, true_and, and_true, true_implies, false_implies, not_true_eq_false, not_false_eq_true, implies_true, and_self, ne_eq, decide_true, decide_false, Bool.not_true, Bool.not_false, if_true, if_false, reduceIte, mk0, mk1, mk2, mk3, mk4, mk5, mk6, mk7, mk8, mk9, mk10, mk11, mk12, mk13, mk14, mk15, mk16, mk17, mk18, mk19, mk20, mk21, mk22, mn1, mn2, mn3, mn4, mn5, mn6, mn7, mn8, mn9, mn10, mn11, mn12, mn13, mn14, mn15, mn16, mn17, mn18, mn19, mn20, mn21, mn22, mr1, mr6, mr7, mr8, mr9, mr10, mr21, mr22, mr23, mr25, mr26, mr29, mr30, mr32, mr33, mr34, mr43, mr47, mr53, mr54, mr55, mr56, m_places s1 hB1, m_weightOf s1 hB1, show ¬ bk 1 + 1 ≤ q by omega]
    refine m_weighsIn s1 b hB1 hx (by omega) g1 g2 (fun h2 f2 g3 g4 => ?_)
    refine ⟨rfl, f1.tr f2, ?_, ?_⟩
    · dsimp only
      rw [g3]
      by_cases c : q = 0
      · subst c
        rw [if_pos rfl, if_pos rfl, Nat.zero_add]
      · rw [if_neg c, if_neg c]
    · dsimp only
      rw [g4]
      by_cases c : q = 0
      · subst c
        rw [if_pos rfl]
      · rw [if_neg c]
        have e : a_q1 bk x (q - 1 + 1) = a_q1 bk x (q - 1) + a_q bk x (q - 1 + 1) := rfl
        rw [show q - 1 + 1 = q by omega] at e
        rw [show q + 1 - 1 = q by omega, e]
  · rintro ⟨y, h1⟩ ⟨e1, f1, g1, g2⟩
    dsimp only at e1 f1 g1 g2
    subst e1
    have s1 := f1.s s
    have hB1 : mB h1 bk := fun k hk => (f1.I 2 k (by unfold mWf; omega)).trans (hB k hk)
    rw [if_neg (by omega)] at g1
    rw [Nat.add_sub_cancel, e6] at g2
    unfold fX12_weighs_b12_i
    simp (disch := first | assumption | omega) only [p_some, p_gd, p_br, p_bi, p_nm, p_mp, p_Sl, p_Sr, p_bis, p_gdt, q_IL, q_IR, q_LI, q_LR, q_RI, q_RL, q_KI, q_KL, q_KR, q_NI, q_NL, q_NR, q_nI, q_nL, q_nR, q_okI, q_okL, q_okR, q_Ie, q_In, q_Le, q_Ln, SM_I, SM_L, s_c0, s_cg0, s_cl0, s_cge, s_cle, r_le, r_lt, r_eq, r_md, r_2, r_3, r_lit, r_litL, r_m1, nI_add, nI_1, nI_clamp, nI_leI, nI_ltI, nI_eq, pk_sub, q_ix, nI_l, lN_add, lN_mul, r_m1n, r_m1n', r_m1lt, r_m1nlt, r_m1le, r_m1nle, Nat.not_lt_zero, Nat.reduceEqDiff, Nat.reduceLT, Nat.reduceLeDiff, true_and, and_true, true_implies, false_implies, not_true_eq_false, not_false_eq_true, implies_true, and_self, ne_eq, decide_true, decide_false, Bool.not_true, Bool.not_false, if_true, if_false, reduceIte, mk0, mk1, mk2, mk3, mk4, mk5, mk6, mk7, mk8, mk9, mk10, mk11, mk12, mk13, mk14, mk15, mk16, mk17, mk18, mk19, mk20, mk21, mk22, mn1, mn2, mn3, mn4, mn5, mn6, mn7, mn8, mn9, mn10, mn11, mn12, mn13, mn14, mn15, mn16, mn17, mn18, mn19, mn20, mn21, mn22, mr1, mr6, mr7, mr8, mr9, mr10, mr21, mr22, mr23, mr25, mr26, mr29, mr30, mr32, mr33, mr34, mr43, mr47, mr53, mr54, mr55, mr56, m_places s1 hB1, Nat.le_refl]
    exact k h1 f1 g1 g2
