/-! more small calls, on both sides -/
theorem x_opEnd {h : z_T} {L : Nat} {TB : Nat → Int32} {Q : Int32 × z_T → Prop} (s : SX h) (T : xTp h L TB) (hL : L ≤ 940) (x : Int32) (k0 : ¬ z_ix x (L + 1) = true → Q (nI 0, h)) (k1 : ∀ h' t, t ≤ L → x = nI t → x_fr (fun a k => a ≠ 9 ∨ k ≠ 1) h h' → xTp h' t TB → Q (nI 1, h')) : p_W (fX11_end 0 x h) Q := by
  have hi := r_isinL (x := x) (m := L) (by omega)
  rw [← hi] at k0
  unfold fX11_end
  simp (disch := first | assumption | omega) only [p_some, p_gd, p_br, p_bi, p_nm, p_mp, p_Sl, p_Sr, p_bis, p_gdt, q_IL, q_IR, q_LI, q_LR, q_RI, q_RL, q_KI, q_KL, q_KR, q_NI, q_NL, q_NR, q_nI, q_nL, q_nR, q_okI, q_okL, q_okR, q_Ie, q_In, q_Le, q_Ln, SM_I, SM_L, s_c0, s_cg0, s_cl0, s_cge, s_cle, r_le, r_lt, r_eq, r_md, r_2, r_3, r_lit, r_litL, r_m1, nI_add, nI_1, nI_clamp, nI_leI, nI_ltI, nI_eq, pk_sub, q_ix, nI_l, lN_add, lN_mul, r_m1n, r_m1n', r_m1lt, r_m1nlt, r_m1le, r_m1nle, Nat.not_lt_zero, Nat.reduceEqDiff, Nat.reduceLT, Nat.reduceLeDiff, true_and, and_true, true_implies, false_implies, not_true_eq_false, not_false_eq_true, implies_true, and_self, ne_eq, decide_true, decide_false, Bool.not_true, Bool.not_false, if_true, if_false, reduceIte, xk0 s, xr0_0 s, xk9 s, T.1]
  refine ⟨fun c => k0 (fun q => q.1 c), fun c => ⟨fun c2 => ?_, fun c2 => k0 (fun q => c2 (Int32.not_lt.mp q.2))⟩⟩
  obtain ⟨t, ht, rfl⟩ := nI_of (x := x) c
  rw [nI_leI ht (by omega)] at c2
  exact k1 _ t c2 rfl (x_fr.rf.sI (fun _ => by omega)) ⟨q_Ie rfl rfl, fun i hi => (q_In (by omega)).trans (T.2 i (by omega))⟩
theorem m_end {h : z_T} {L : Nat} {TB : Nat → Int32} {Q : Int32 × z_T → Prop} (s : SM h) (T : mTp h L TB) (hL : L ≤ 940) (x : Int32) (k0 : ∀ h', ¬ z_ix x (L + 1) = true → m_fr mKp h h' → Q (nI 0, h')) (k1 : ∀ h' t, t ≤ L → x = nI t → m_fr (fun a k => mKp a k ∧ (a ≠ 0 ∨ k ≠ 2)) h h' → mTp h' t TB → Q (nI 1, h')) : p_W (fX12_end 0 x h) Q := by
  have hi := r_isinL (x := x) (m := L) (by omega)
  rw [← hi] at k0
  unfold fX12_end
  simp (disch := first | assumption | omega) only [p_some, p_gd, p_br, p_bi, p_nm, p_mp, p_Sl, p_Sr, p_bis, p_gdt, q_IL, q_IR, q_LI, q_LR, q_RI, q_RL, q_KI, q_KL, q_KR, q_NI, q_NL, q_NR, q_nI, q_nL, q_nR, q_okI, q_okL, q_okR, q_Ie, q_In, q_Le, q_Ln, SM_I, SM_L, s_c0, s_cg0, s_cl0, s_cge, s_cle, r_le, r_lt, r_eq, r_md, r_2, r_3, r_lit, r_litL, r_m1, nI_add, nI_1, nI_clamp, nI_leI, nI_ltI, nI_eq, pk_sub, q_ix, nI_l, lN_add, lN_mul, r_m1n, r_m1n', r_m1lt, r_m1nlt, r_m1le, r_m1nle, Nat.not_lt_zero, Nat.reduceEqDiff, Nat.reduceLT, Nat.reduceLeDiff, true_and, and_true, true_implies, false_implies, not_true_eq_false, not_false_eq_true, implies_true, and_self, ne_eq, decide_true, decide_false, Bool.not_true, Bool.not_false, if_true, if_false, reduceIte, mk0, mk1, mk2, mk3, mk4, mk5, mk6, mk7, mk8, mk9, mk10, mk11, mk12, mk13, mk14, mk15, mk16, mk17, mk18, mk19, mk20, mk21, mk22, mn1, mn2, mn3, mn4, mn5, mn6, mn7, mn8, mn9, mn10, mn11, mn12, mn13, mn14, mn15, mn16, mn17, mn18, mn19, mn20, mn21, mn22, mr1, mr6, mr7, mr8, mr9, mr10, mr21, mr22, mr23, mr25, mr26, mr29, mr30, mr32, mr33, mr34, mr43, mr47, mr53, mr54, mr55, mr56, T.1]
  refine ⟨fun c => k0 _ (fun q => q.1 c) m_fr.t0, fun c => ⟨fun c2 => ?_, fun c2 => k0 _ (fun q => c2 (Int32.not_lt.mp q.2)) m_fr.t0⟩⟩
  obtain ⟨t, ht, rfl⟩ := nI_of (x := x) c
  rw [nI_leI ht (by omega)] at c2
  exact k1 _ t c2 rfl ((m_fr.t0.w (fun a k c => c.1)).sI (by omega)) ⟨q_Ie rfl rfl, fun i hi => (q_In (by omega)).trans ((q_In (by omega)).trans (T.2 i (by omega)))⟩
theorem x_opFault {h : z_T} (s : SX h) : fX11_fault 0 h = some (z_I h 13 8) := by
  refine p_of ?_
  unfold fX11_fault
  simp (disch := first | assumption | omega) only [p_some, p_gd, p_br, p_bi, p_nm, p_mp, p_Sl, p_Sr, p_bis, p_gdt, q_IL, q_IR, q_LI, q_LR, q_RI, q_RL, q_KI, q_KL, q_KR, q_NI, q_NL, q_NR, q_nI, q_nL, q_nR, q_okI, q_okL, q_okR, q_Ie, q_In, q_Le, q_Ln, SM_I, SM_L, s_c0, s_cg0, s_cl0, s_cge, s_cle, r_le, r_lt, r_eq, r_md, r_2, r_3, r_lit, r_litL, r_m1, nI_add, nI_1, nI_clamp, nI_leI, nI_ltI, nI_eq, pk_sub, q_ix, nI_l, lN_add, lN_mul, r_m1n, r_m1n', r_m1lt, r_m1nlt, r_m1le, r_m1nle, Nat.not_lt_zero, Nat.reduceEqDiff, Nat.reduceLT, Nat.reduceLeDiff, true_and, and_true, true_implies, false_implies, not_true_eq_false, not_false_eq_true, implies_true, and_self, ne_eq, decide_true, decide_false, Bool.not_true, Bool.not_false, if_true, if_false, reduceIte, xk0 s, xr0_2 s, xk13 s]
def xTx (h : z_T) (T : Nat) (tx : Nat → Int32) : Prop := z_I h 11 1 = nI T ∧ ∀ i, i < T → z_I h 12 i = tx i
def mTx (h : z_T) (T : Nat) (tx : Nat → Int32) : Prop := z_I h 0 31 = nI T ∧ ∀ i, i < T → z_I h 12 i = tx i
def a_byteAt (tx : Nat → Int32) (T : Nat) (x : Int32) : Int32 := if z_ix x T = true then tx x.toNatClampNeg else m1
theorem x_opByteAt {h : z_T} {T : Nat} {tx : Nat → Int32} (s : SX h) (X : xTx h T tx) (hT : T ≤ 400) (x : Int32) : fX11_byteAt 0 x h = some (a_byteAt tx T x) := by
  refine p_of ?_
  generalize hQ : (fun w => w = a_byteAt tx T x) = Q
  unfold fX11_byteAt fX11_byteAt_b26 fX1_at fX1_at_b22
  simp (disch := first | assumption | omega) only [p_some, p_gd, p_br, p_bi, p_nm, p_mp, p_Sl, p_Sr, p_bis, p_gdt, q_IL, q_IR, q_LI, q_LR, q_RI, q_RL, q_KI, q_KL, q_KR, q_NI, q_NL, q_NR, q_nI, q_nL, q_nR, q_okI, q_okL, q_okR, q_Ie, q_In, q_Le, q_Ln, SM_I, SM_L, s_c0, s_cg0, s_cl0, s_cge, s_cle, r_le, r_lt, r_eq, r_md, r_2, r_3, r_lit, r_litL, r_m1, nI_add, nI_1, nI_clamp, nI_leI, nI_ltI, nI_eq, pk_sub, q_ix, nI_l, lN_add, lN_mul, r_m1n, r_m1n', r_m1lt, r_m1nlt, r_m1le, r_m1nle, Nat.not_lt_zero, Nat.reduceEqDiff, Nat.reduceLT, Nat.reduceLeDiff, true_and, and_true, true_implies, false_implies, not_true_eq_false, not_false_eq_true, implies_true, and_self, ne_eq, decide_true, decide_false, Bool.not_true, Bool.not_false, if_true, if_false, reduceIte, xk0 s, xr0_1 s, xk11 s, xr11_0 s, xk12 s, xn12 s, X.1]
  rw [← hQ]
  unfold a_byteAt
  by_cases c : z_ix x T = true
  · rw [if_pos c]
    obtain ⟨t, ht, rfl⟩ := (z_ix_e (by omega)).mp c
    rw [nI_clamp (by omega)]
    simp (disch := first | assumption | omega) only [p_some, p_gd, p_br, p_bi, p_nm, p_mp, p_Sl, p_Sr, p_bis, p_gdt, q_IL, q_IR, q_LI, q_LR, q_RI, q_RL, q_KI, q_KL, q_KR, q_NI, q_NL, q_NR, q_nI, q_nL, q_nR, q_okI, q_okL, q_okR, q_Ie, q_In, q_Le, q_Ln, SM_I, SM_L, s_c0, s_cg0, s_cl0, s_cge, s_cle, r_le, r_lt, r_eq, r_md, r_2, r_3, r_lit, r_litL, r_m1, nI_add, nI_1, nI_clamp, nI_leI, nI_ltI, nI_eq, pk_sub, q_ix, nI_l, lN_add, lN_mul, r_m1n, r_m1n', r_m1lt, r_m1nlt, r_m1le, r_m1nle, Nat.not_lt_zero, Nat.reduceEqDiff, Nat.reduceLT, Nat.reduceLeDiff, true_and, and_true, true_implies, false_implies, not_true_eq_false, not_false_eq_true, implies_true, and_self, ne_eq, decide_true, decide_false, Bool.not_true, Bool.not_false, if_true, if_false, reduceIte, X.2, show ¬ T ≤ t by omega, show ¬ 940 ≤ t by omega]
  · rw [if_neg c]
    refine ⟨fun _ => rfl, fun c1 => ⟨fun _ => rfl, fun c2 => ?_⟩⟩
    exfalso
    obtain ⟨j, hj, rfl⟩ := nI_of (x := x) c1
    rw [nI_leI (by omega) (by omega)] at c2
    exact c ((z_ix_e (by omega)).mpr ⟨j, by omega, rfl⟩)
theorem m_byteAt {h : z_T} {T : Nat} {tx : Nat → Int32} {Q : Int32 × z_T → Prop} (s : SM h) (X : mTx h T tx) (hT : T ≤ 400) (x : Int32) (k : ∀ h', m_fr mKp h h' → Q (a_byteAt tx T x, h')) : p_W (fX12_byteAt 0 x h) Q := by
  unfold a_byteAt at k
  unfold fX12_byteAt
  simp (disch := first | assumption | omega) only [p_some, p_gd, p_br, p_bi, p_nm, p_mp, p_Sl, p_Sr, p_bis, p_gdt, q_IL, q_IR, q_LI, q_LR, q_RI, q_RL, q_KI, q_KL, q_KR, q_NI, q_NL, q_NR, q_nI, q_nL, q_nR, q_okI, q_okL, q_okR, q_Ie, q_In, q_Le, q_Ln, SM_I, SM_L, s_c0, s_cg0, s_cl0, s_cge, s_cle, r_le, r_lt, r_eq, r_md, r_2, r_3, r_lit, r_litL, r_m1, nI_add, nI_1, nI_clamp, nI_leI, nI_ltI, nI_eq, pk_sub, q_ix, nI_l, lN_add, lN_mul, r_m1n, r_m1n', r_m1lt, r_m1nlt, r_m1le, r_m1nle, Nat.not_lt_zero, Nat.reduceEqDiff, Nat.reduceLT, Nat.reduceLeDiff, true_and, and_true, true_implies, false_implies, not_true_eq_false, not_false_eq_true, implies_true, and_self, ne_eq, decide_true, decide_false, Bool.not_true, Bool.not_false, if_true, if_false, reduceIte, mk0, mk1, mk2, mk3, mk4, mk5, mk6, mk7, mk8, mk9, mk10, mk11, mk12, mk13, mk14, mk15, mk16, mk17, mk18, mk19, mk20, mk21, mk22, mn1, mn2, mn3, mn4, mn5, mn6, mn7, mn8, mn9, mn10, mn11, mn12, mn13, mn14, mn15, mn16, mn17, mn18, mn19, mn20, mn21, mn22, mr1, mr6, mr7, mr8, mr9, mr10, mr21, mr22, mr23, mr25, mr26, mr29, mr30, mr32, mr33, mr34, mr43, mr47, mr53, mr54, mr55, mr56, X.1, m_isInN, bI_0]
  refine ⟨fun c => ?_, fun c => ?_⟩
  · rw [if_neg c] at k
    exact k _ m_fr.t0
  · rw [if_pos (Classical.not_not.mp c)] at k
    obtain ⟨t, ht, rfl⟩ := z_ixn c (by omega)
    rw [nI_clamp (by omega)] at k
    simp (disch := first | assumption | omega) only [p_some, p_gd, p_br, p_bi, p_nm, p_mp, p_Sl, p_Sr, p_bis, p_gdt, q_IL, q_IR, q_LI, q_LR, q_RI, q_RL, q_KI, q_KL, q_KR, q_NI, q_NL, q_NR, q_nI, q_nL, q_nR, q_okI, q_okL, q_okR, q_Ie, q_In, q_Le, q_Ln, SM_I, SM_L, s_c0, s_cg0, s_cl0, s_cge, s_cle, r_le, r_lt, r_eq, r_md, r_2, r_3, r_lit, r_litL, r_m1, nI_add, nI_1, nI_clamp, nI_leI, nI_ltI, nI_eq, pk_sub, q_ix, nI_l, lN_add, lN_mul, r_m1n, r_m1n', r_m1lt, r_m1nlt, r_m1le, r_m1nle, Nat.not_lt_zero, Nat.reduceEqDiff, Nat.reduceLT, Nat.reduceLeDiff, true_and, and_true, true_implies, false_implies, not_true_eq_false, not_false_eq_true, implies_true, and_self, ne_eq, decide_true, decide_false, Bool.not_true, Bool.not_false, if_true, if_false, reduceIte, mk0, mk1, mk2, mk3, mk4, mk5, mk6, mk7, mk8, mk9, mk10, mk11, mk12, mk13, mk14, mk15, mk16, mk17, mk18, mk19, mk20, mk21, mk22, mn1, mn2, mn3, mn4, mn5, mn6, mn7, mn8, mn9, mn10, mn11, mn12, mn13, mn14, mn15, mn16, mn17, mn18, mn19, mn20, mn21, mn22, mr1, mr6, mr7, mr8, mr9, mr10, mr21, mr22, mr23, mr25, mr26, mr29, mr30, mr32, mr33, mr34, mr43, mr47, mr53, mr54, mr55, mr56, X.2]
    exact k _ m_fr.t0
/-- what nights() found last -/
def xJd (h : z_T) (j : Option (Int32 × Int32 × Int32)) : Prop := match j with
  | none => z_I h 79 5 = m1 ∧ z_I h 79 6 = m1 ∧ z_I h 79 7 = m1
  | some (a, b, c) => z_I h 79 5 = a ∧ z_I h 79 6 = b ∧ z_I h 79 7 = c
def mJd (h : z_T) (j : Option (Int32 × Int32 × Int32)) : Prop := match j with
  | none => z_I h 0 44 = nI 0
  | some (a, b, c) => z_I h 0 44 = nI 1 ∧ z_I h 17 0 = a ∧ z_I h 17 1 = b ∧ z_I h 17 2 = c
def a_judged (j : Option (Int32 × Int32 × Int32)) (x : Int32) : Int32 := match j with
  | none => m1
  | some (a, b, c) => if x = nI 0 then a else if x = nI 1 then b else if x = nI 2 then c else m1
theorem a_judged_s (a b c x : Int32) : a_judged (some (a, b, c)) x = if x = nI 0 then a else if x = nI 1 then b else if x = nI 2 then c else m1 := rfl
theorem x_opJudged {h : z_T} {j : Option (Int32 × Int32 × Int32)} (s : SX h) (J : xJd h j) (x : Int32) : fX11_judged 0 x h = some (a_judged j x) := by
  refine p_of ?_
  generalize hQ : (fun w => w = a_judged j x) = Q
  unfold fX11_judged
  simp (disch := first | assumption | omega) only [p_some, p_gd, p_br, p_bi, p_nm, p_mp, p_Sl, p_Sr, p_bis, p_gdt, q_IL, q_IR, q_LI, q_LR, q_RI, q_RL, q_KI, q_KL, q_KR, q_NI, q_NL, q_NR, q_nI, q_nL, q_nR, q_okI, q_okL, q_okR, q_Ie, q_In, q_Le, q_Ln, SM_I, SM_L, s_c0, s_cg0, s_cl0, s_cge, s_cle, r_le, r_lt, r_eq, r_md, r_2, r_3, r_lit, r_litL, r_m1, nI_add, nI_1, nI_clamp, nI_leI, nI_ltI, nI_eq, pk_sub, q_ix, nI_l, lN_add, lN_mul, r_m1n, r_m1n', r_m1lt, r_m1nlt, r_m1le, r_m1nle, Nat.not_lt_zero, Nat.reduceEqDiff, Nat.reduceLT, Nat.reduceLeDiff, true_and, and_true, true_implies, false_implies, not_true_eq_false, not_false_eq_true, implies_true, and_self, ne_eq, decide_true, decide_false, Bool.not_true, Bool.not_false, if_true, if_false, reduceIte, xk0 s, xr0_8 s, xk79 s]
  rw [← hQ]
  cases j with
  | none =>
    obtain ⟨j1, j2, j3⟩ := J
    rw [j1, j2, j3]
    refine ⟨fun _ => rfl, fun _ => ⟨fun _ => rfl, fun _ => ?_⟩⟩
    first
      | exact ⟨fun _ => rfl, fun _ => rfl⟩
      | exact p_br.mpr ⟨fun _ => p_some.mpr rfl, fun _ => p_some.mpr rfl⟩
  | some v =>
    obtain ⟨a, b, c⟩ := v
    obtain ⟨j1, j2, j3⟩ := J
    rw [j1, j2, j3]
    refine ⟨fun c1 => ?_, fun c1 => ⟨fun c2 => ?_, fun c2 => ⟨fun c3 => ?_, fun c3 => ?_⟩⟩⟩
    · show a = _
      rw [a_judged_s, if_pos c1]
    · show b = _
      rw [a_judged_s, if_neg c1, if_pos c2]
    · show c = _
      rw [a_judged_s, if_neg c1, if_neg c2, if_pos c3]
    · show m1 = _
      rw [a_judged_s, if_neg c1, if_neg c2, if_neg c3]
theorem m_judged {h : z_T} {j : Option (Int32 × Int32 × Int32)} {Q : Int32 × z_T → Prop} (s : SM h) (J : mJd h j) (x : Int32) (k : ∀ h', m_fr mKp h h' → Q (a_judged j x, h')) : p_W (fX12_judged 0 x h) Q := by
  unfold fX12_judged fX12_judged_b30
  cases j with
  | none =>
    have J : z_I h 0 44 = nI 0 := J
    simp (disch := first | assumption | omega) only [p_some, p_gd, p_br, p_bi, p_nm, p_mp, p_Sl, p_Sr, p_bis, p_gdt, q_IL, q_IR, q_LI, q_LR, q_RI, q_RL, q_KI, q_KL, q_KR, q_NI, q_NL, q_NR, q_nI, q_nL, q_nR, q_okI, q_okL, q_okR, q_Ie, q_In, q_Le, q_Ln, SM_I, SM_L, s_c0, s_cg0, s_cl0, s_cge, s_cle, r_le, r_lt, r_eq, r_md, r_2, r_3, r_lit, r_litL, r_m1, nI_add, nI_1, nI_clamp, nI_leI, nI_ltI, nI_eq, pk_sub, q_ix, nI_l, lN_add, lN_mul, r_m1n, r_m1n', r_m1lt, r_m1nlt, r_m1le, r_m1nle, Nat.not_lt_zero, Nat.reduceEqDiff, Nat.reduceLT, Nat.reduceLeDiff, true_and, and_true, true_implies, false_implies, not_true_eq_false, not_false_eq_true, implies_true, and_self, ne_eq, decide_true, decide_false, Bool.not_true, Bool.not_false, if_true, if_false, reduceIte, mk0, mk1, mk2, mk3, mk4, mk5, mk6, mk7, mk8, mk9, mk10, mk11, mk12, mk13, mk14, mk15, mk16, mk17, mk18, mk19, mk20, mk21, mk22, mn1, mn2, mn3, mn4, mn5, mn6, mn7, mn8, mn9, mn10, mn11, mn12, mn13, mn14, mn15, mn16, mn17, mn18, mn19, mn20, mn21, mn22, mr1, mr6, mr7, mr8, mr9, mr10, mr21, mr22, mr23, mr25, mr26, mr29, mr30, mr32, mr33, mr34, mr43, mr47, mr53, mr54, mr55, mr56, J]
    exact k _ m_fr.t0
  | some v =>
    obtain ⟨a, b, c⟩ := v
    obtain ⟨j0, j1, j2, j3⟩ := J
    rw [a_judged_s] at k
    simp (disch := first | assumption | omega) only [p_some, p_gd, p_br, p_bi, p_nm, p_mp, p_Sl, p_Sr, p_bis, p_gdt, q_IL, q_IR, q_LI, q_LR, q_RI, q_RL, q_KI, q_KL, q_KR, q_NI, q_NL, q_NR, q_nI, q_nL, q_nR, q_okI, q_okL, q_okR, q_Ie, q_In, q_Le, q_Ln, SM_I, SM_L, s_c0, s_cg0, s_cl0, s_cge, s_cle, r_le, r_lt, r_eq, r_md, r_2, r_3, r_lit, r_litL, r_m1, nI_add, nI_1, nI_clamp, nI_leI, nI_ltI, nI_eq, pk_sub, q_ix, nI_l, lN_add, lN_mul, r_m1n, r_m1n', r_m1lt, r_m1nlt, r_m1le, r_m1nle, Nat.not_lt_zero, Nat.reduceEqDiff, Nat.reduceLT, Nat.reduceLeDiff, true_and, and_true, true_implies, false_implies, not_true_eq_false, not_false_eq_true, implies_true, and_self, ne_eq, decide_true, decide_false, Bool.not_true, Bool.not_false, if_true, if_false, reduceIte, mk0, mk1, mk2, mk3, mk4, mk5, mk6, mk7, mk8, mk9, mk10, mk11, mk12, mk13, mk14, mk15, mk16, mk17, mk18, mk19, mk20, mk21, mk22, mn1, mn2, mn3, mn4, mn5, mn6, mn7, mn8, mn9, mn10, mn11, mn12, mn13, mn14, mn15, mn16, mn17, mn18, mn19, mn20, mn21, mn22, mr1, mr6, mr7, mr8, mr9, mr10, mr21, mr22, mr23, mr25, mr26, mr29, mr30, mr32, mr33, mr34, mr43, mr47, mr53, mr54, mr55, mr56, j0, m_isInL, bI_0]
    refine ⟨fun c1 => ?_, fun c1 => ?_⟩
    · have hne : ∀ t, t < 3 → ¬ x = nI t := fun t ht e => c1 ((z_ix_e (by decide)).mpr ⟨t, by omega, e⟩)
      rw [if_neg (hne 0 (by decide)), if_neg (hne 1 (by decide)), if_neg (hne 2 (by decide))] at k
      exact k _ m_fr.t0
    · obtain ⟨t, ht, rfl⟩ := z_ixn c1 (by omega)
      simp (disch := first | assumption | omega) only [p_some, p_gd, p_br, p_bi, p_nm, p_mp, p_Sl, p_Sr, p_bis, p_gdt, q_IL, q_IR, q_LI, q_LR, q_RI, q_RL, q_KI, q_KL, q_KR, q_NI, q_NL, q_NR, q_nI, q_nL, q_nR, q_okI, q_okL, q_okR, q_Ie, q_In, q_Le, q_Ln, SM_I, SM_L, s_c0, s_cg0, s_cl0, s_cge, s_cle, r_le, r_lt, r_eq, r_md, r_2, r_3, r_lit, r_litL, r_m1, nI_add, nI_1, nI_clamp, nI_leI, nI_ltI, nI_eq, pk_sub, q_ix, nI_l, lN_add, lN_mul, r_m1n, r_m1n', r_m1lt, r_m1nlt, r_m1le, r_m1nle, Nat.not_lt_zero, Nat.reduceEqDiff, Nat.reduceLT, Nat.reduceLeDiff, true_and, and_true, true_implies, false_implies, not_true_eq_false, not_false_eq_true, implies_true, and_self, ne_eq, decide_true, decide_false, Bool.not_true, Bool.not_false, if_true, if_false, reduceIte, mk0, mk1, mk2, mk3, mk4, mk5, mk6, mk7, mk8, mk9, mk10, mk11, mk12, mk13, mk14, mk15, mk16, mk17, mk18, mk19, mk20, mk21, mk22, mn1, mn2, mn3, mn4, mn5, mn6, mn7, mn8, mn9, mn10, mn11, mn12, mn13, mn14, mn15, mn16, mn17, mn18, mn19, mn20, mn21, mn22, mr1, mr6, mr7, mr8, mr9, mr10, mr21, mr22, mr23, mr25, mr26, mr29, mr30, mr32, mr33, mr34, mr43, mr47, mr53, mr54, mr55, mr56]
      rcases (show t = 0 ∨ t = 1 ∨ t = 2 by omega) with rfl | rfl | rfl
      · rw [if_pos rfl] at k; rw [j1]; exact k _ m_fr.t0
      · rw [if_neg (by decide), if_pos rfl] at k; rw [j2]; exact k _ m_fr.t0
      · rw [if_neg (by decide), if_neg (by decide), if_pos rfl] at k; rw [j3]; exact k _ m_fr.t0
def a_count (bk : Nat → Nat) (n L : Nat) (x : Int32) : Int32 := if x = nI 8 then nI n else if x = nI 9 then nI L else if z_ix x 8 = true then nI (bk x.toNatClampNeg) else m1
theorem m_count {h : z_T} {bk ans : Nat → Nat} {n L : Nat} {TB : Nat → Int32} {Q : Int32 × z_T → Prop} (s : SM h) (hN : mNi h bk n ans) (T : mTp h L TB) (x : Int32) (k : ∀ h', m_fr mKp h h' → Q (a_count bk n L x, h')) : p_W (fX12_count 0 x h) Q := by
  unfold a_count at k
  unfold fX12_count
  simp (disch := first | assumption | omega) only [p_some, p_gd, p_br, p_bi, p_nm, p_mp, p_Sl, p_Sr, p_bis, p_gdt, q_IL, q_IR, q_LI, q_LR, q_RI, q_RL, q_KI, q_KL, q_KR, q_NI, q_NL, q_NR, q_nI, q_nL, q_nR, q_okI, q_okL, q_okR, q_Ie, q_In, q_Le, q_Ln, SM_I, SM_L, s_c0, s_cg0, s_cl0, s_cge, s_cle, r_le, r_lt, r_eq, r_md, r_2, r_3, r_lit, r_litL, r_m1, nI_add, nI_1, nI_clamp, nI_leI, nI_ltI, nI_eq, pk_sub, q_ix, nI_l, lN_add, lN_mul, r_m1n, r_m1n', r_m1lt, r_m1nlt, r_m1le, r_m1nle, Nat.not_lt_zero, Nat.reduceEqDiff, Nat.reduceLT, Nat.reduceLeDiff, true_and, and_true, true_implies, false_implies, not_true_eq_false, not_false_eq_true, implies_true, and_self, ne_eq, decide_true, decide_false, Bool.not_true, Bool.not_false, if_true, if_false, reduceIte, mk0, mk1, mk2, mk3, mk4, mk5, mk6, mk7, mk8, mk9, mk10, mk11, mk12, mk13, mk14, mk15, mk16, mk17, mk18, mk19, mk20, mk21, mk22, mn1, mn2, mn3, mn4, mn5, mn6, mn7, mn8, mn9, mn10, mn11, mn12, mn13, mn14, mn15, mn16, mn17, mn18, mn19, mn20, mn21, mn22, mr1, mr6, mr7, mr8, mr9, mr10, mr21, mr22, mr23, mr25, mr26, mr29, mr30, mr32, mr33, mr34, mr43, mr47, mr53, mr54, mr55, mr56, hN.2.1, T.1, m_isInL, bI_0]
  refine ⟨fun c => ?_, fun c => ⟨fun c2 => ?_, fun c2 => ?_⟩⟩
  · rw [if_pos c] at k; exact k _ m_fr.t0
  · rw [if_neg c, if_pos c2] at k; exact k _ m_fr.t0
  · rw [if_neg c, if_neg c2] at k
    try rw [p_br]
    refine ⟨fun c3 => ?_, fun c3 => ?_⟩
    · rw [if_neg c3] at k
      try rw [p_some]
      exact k _ m_fr.t0
    · rw [if_pos (Classical.not_not.mp c3)] at k
      obtain ⟨t, ht, rfl⟩ := z_ixn c3 (by omega)
      rw [nI_clamp (by omega)] at k
      simp (disch := first | assumption | omega) only [p_some, p_gd, p_br, p_bi, p_nm, p_mp, p_Sl, p_Sr, p_bis, p_gdt, q_IL, q_IR, q_LI, q_LR, q_RI, q_RL, q_KI, q_KL, q_KR, q_NI, q_NL, q_NR, q_nI, q_nL, q_nR, q_okI, q_okL, q_okR, q_Ie, q_In, q_Le, q_Ln, SM_I, SM_L, s_c0, s_cg0, s_cl0, s_cge, s_cle, r_le, r_lt, r_eq, r_md, r_2, r_3, r_lit, r_litL, r_m1, nI_add, nI_1, nI_clamp, nI_leI, nI_ltI, nI_eq, pk_sub, q_ix, nI_l, lN_add, lN_mul, r_m1n, r_m1n', r_m1lt, r_m1nlt, r_m1le, r_m1nle, Nat.not_lt_zero, Nat.reduceEqDiff, Nat.reduceLT, Nat.reduceLeDiff, true_and, and_true, true_implies, false_implies, not_true_eq_false, not_false_eq_true, implies_true, and_self, ne_eq, decide_true, decide_false, Bool.not_true, Bool.not_false, if_true, if_false, reduceIte, mk0, mk1, mk2, mk3, mk4, mk5, mk6, mk7, mk8, mk9, mk10, mk11, mk12, mk13, mk14, mk15, mk16, mk17, mk18, mk19, mk20, mk21, mk22, mn1, mn2, mn3, mn4, mn5, mn6, mn7, mn8, mn9, mn10, mn11, mn12, mn13, mn14, mn15, mn16, mn17, mn18, mn19, mn20, mn21, mn22, mr1, mr6, mr7, mr8, mr9, mr10, mr21, mr22, mr23, mr25, mr26, mr29, mr30, mr32, mr33, mr34, mr43, mr47, mr53, mr54, mr55, mr56, hN.1]
      exact k _ m_fr.t0
theorem x_opCount {h : z_T} {bo n L : Nat} {bk ans : Nat → Nat} {TB : Nat → Int32} (W : xNow h bo bk ans n) (T : xTp h L TB) (x : Int32) : fX11_count 0 x h = some (a_count bk n L x) := by
  obtain ⟨s, N, -⟩ := W
  have hs : ∀ k, k < 6 → fX0_setting bo (nI k) h = some (nI (bk (2 + k))) := fun k hk => x_setting N.2.2.1 hk
  unfold a_count
  by_cases c10 : z_ix x 10 = true
  · obtain ⟨t, ht, rfl⟩ := (z_ix_e (by decide)).mp c10
    refine p_of ?_
    unfold fX11_count
    rcases (show t = 0 ∨ t = 1 ∨ t = 2 ∨ t = 3 ∨ t = 4 ∨ t = 5 ∨ t = 6 ∨ t = 7 ∨ t = 8 ∨ t = 9 by omega) with rfl | rfl | rfl | rfl | rfl | rfl | rfl | rfl | rfl | rfl
    all_goals
      simp (disch := first | assumption | omega) only [p_some, p_gd, p_br, p_bi, p_nm, p_mp, p_Sl, p_Sr, p_bis, p_gdt, q_IL, q_IR, q_LI, q_LR, q_RI, q_RL, q_KI, q_KL, q_KR, q_NI, q_NL, q_NR, q_nI, q_nL, q_nR, q_okI, q_okL, q_okR, q_Ie, q_In, q_Le, q_Ln, SM_I, SM_L, s_c0, s_cg0, s_cl0, s_cge, s_cle, r_le, r_lt, r_eq, r_md, r_2, r_3, r_lit, r_litL, r_m1, nI_add, nI_1, nI_clamp, nI_leI, nI_ltI, nI_eq, pk_sub, q_ix, nI_l, lN_add, lN_mul, r_m1n, r_m1n', r_m1lt, r_m1nlt, r_m1le, r_m1nle, Nat.not_lt_zero, Nat.reduceEqDiff, Nat.reduceLT, Nat.reduceLeDiff, true_and, and_true, true_implies, false_implies, not_true_eq_false, not_false_eq_true, implies_true, and_self, ne_eq, decide_true, decide_false, Bool.not_true, Bool.not_false, if_true, if_false, reduceIte, xb_0, xb_1, xb_2, xb_3, xb_4, xb_5, xb_6, xb_7, xb_8, xb_9, xb_10, xb_11, xb_12, xb_13, xb_14, xb_15, xb_16, xb_17, xb_18, xb_19, xb_20, xb_21, xo_0, xo_1, xo_2, xo_3, xo_4, xo_5, xo_6, xo_7, xo_8, xo_9, xk0 s, xr0_3 s, xk14 s, xr14_0 s, xo_0 N.1, N.2.1, xb_0 N.2.2.1.1, N.2.2.1.2.1, N.2.2.1.2.2.1, N.2.2.2.1, xr0_0 s, xk9 s, T.1, hs, Nat.reduceSub, Nat.reduceAdd]
  · have hne : ∀ t, t < 10 → ¬ x = nI t := fun t ht e => c10 ((z_ix_e (by decide)).mpr ⟨t, by omega, e⟩)
    have h8 : ¬ z_ix x 8 = true := fun q => by
      obtain ⟨t, ht, rfl⟩ := (z_ix_e (by decide)).mp q
      exact hne t (by omega) rfl
    rw [if_neg (hne 8 (by decide)), if_neg (hne 9 (by decide)), if_neg h8]
    refine p_of ?_
    unfold fX11_count fX11_count_b118
    simp (disch := first | assumption | omega) only [p_some, p_gd, p_br, p_bi, p_nm, p_mp, p_Sl, p_Sr, p_bis, p_gdt, q_IL, q_IR, q_LI, q_LR, q_RI, q_RL, q_KI, q_KL, q_KR, q_NI, q_NL, q_NR, q_nI, q_nL, q_nR, q_okI, q_okL, q_okR, q_Ie, q_In, q_Le, q_Ln, SM_I, SM_L, s_c0, s_cg0, s_cl0, s_cge, s_cle, r_le, r_lt, r_eq, r_md, r_2, r_3, r_lit, r_litL, r_m1, nI_add, nI_1, nI_clamp, nI_leI, nI_ltI, nI_eq, pk_sub, q_ix, nI_l, lN_add, lN_mul, r_m1n, r_m1n', r_m1lt, r_m1nlt, r_m1le, r_m1nle, Nat.not_lt_zero, Nat.reduceEqDiff, Nat.reduceLT, Nat.reduceLeDiff, true_and, and_true, true_implies, false_implies, not_true_eq_false, not_false_eq_true, implies_true, and_self, ne_eq, decide_true, decide_false, Bool.not_true, Bool.not_false, if_true, if_false, reduceIte, xb_0, xb_1, xb_2, xb_3, xb_4, xb_5, xb_6, xb_7, xb_8, xb_9, xb_10, xb_11, xb_12, xb_13, xb_14, xb_15, xb_16, xb_17, xb_18, xb_19, xb_20, xb_21, xo_0, xo_1, xo_2, xo_3, xo_4, xo_5, xo_6, xo_7, xo_8, xo_9, xk0 s, xr0_3 s, xk14 s, xr14_0 s, xo_0 N.1, N.2.1, hne 0 (by decide), hne 1 (by decide), hne 2 (by decide), hne 3 (by decide), hne 4 (by decide), hne 5 (by decide), hne 6 (by decide), hne 7 (by decide), hne 8 (by decide), hne 9 (by decide)]
    simp (disch := first | assumption | omega) only [p_some, p_gd, p_br, p_bi, p_nm, p_mp, p_Sl, p_Sr, p_bis, p_gdt, q_IL, q_IR, q_LI, q_LR, q_RI, q_RL, q_KI, q_KL, q_KR, q_NI, q_NL, q_NR, q_nI, q_nL, q_nR, q_okI, q_okL, q_okR, q_Ie, q_In, q_Le, q_Ln, SM_I, SM_L, s_c0, s_cg0, s_cl0, s_cge, s_cle, r_le, r_lt, r_eq, r_md, r_2, r_3, r_lit, r_litL, r_m1, nI_add, nI_1, nI_clamp, nI_leI, nI_ltI, nI_eq, pk_sub, q_ix, nI_l, lN_add, lN_mul, r_m1n, r_m1n', r_m1lt, r_m1nlt, r_m1le, r_m1nle, Nat.not_lt_zero, Nat.reduceEqDiff, Nat.reduceLT, Nat.reduceLeDiff, true_and, and_true, true_implies, false_implies, not_true_eq_false, not_false_eq_true, implies_true, and_self, ne_eq, decide_true, decide_false, Bool.not_true, Bool.not_false, if_true, if_false, reduceIte, xb_0, xb_1, xb_2, xb_3, xb_4, xb_5, xb_6, xb_7, xb_8, xb_9, xb_10, xb_11, xb_12, xb_13, xb_14, xb_15, xb_16, xb_17, xb_18, xb_19, xb_20, xb_21, xo_0, xo_1, xo_2, xo_3, xo_4, xo_5, xo_6, xo_7, xo_8, xo_9, xb_0 N.2.2.1.1]
    intro c1 c2
    exfalso
    rcases r_cases x with c | ⟨j, hj, rfl⟩
    · exact c1 (Int32.lt_of_lt_of_le c (by decide))
    · rw [nI_ltI (by omega) (by omega)] at c2
      exact hne j (by omega) rfl
