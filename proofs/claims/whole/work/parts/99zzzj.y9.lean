/-! the reference puts down the steps that wait on its stack -/
def mCd (h : z_T) (cf : Nat → Nat) (c : Nat) : Prop := z_I h 0 48 = nI c ∧ ∀ i, i < 3 * c → z_I h 4 i = nI (cf i)
def mDf (o k : Nat) : Prop := o ≠ 4 ∧ (o ≠ 0 ∨ (k ≠ 48 ∧ k ≠ 50 ∧ k ≠ 51))
/-- what lies on top of the stack -/
def mSk (h : z_T) (n : Nat) (T : Nat → Prop) : Prop := n = 0 ∨ ∃ x, x < 100 ∧ T x ∧ z_I h 18 (n - 1) = nI x
theorem mSk.i {h : z_T} {n : Nat} {T T' : Nat → Prop} (s : mSk h n T) (hT : ∀ x, T x → T' x) : mSk h n T' := by
  rcases s with e | ⟨x, h1, h2, h3⟩
  · exact Or.inl e
  · exact Or.inr ⟨x, h1, hT x h2, h3⟩
theorem mSk.fr {C : Nat → Nat → Prop} {h h' : z_T} {n : Nat} {T : Nat → Prop} (s : mSk h n T) (f : m_fr C h h') (hC : ∀ k, k < n → C 18 k) : mSk h' n T := by
  by_cases e : n = 0
  · exact Or.inl e
  · rcases s with e2 | ⟨x, h1, h2, h3⟩
    · exact absurd e2 e
    · exact Or.inr ⟨x, h1, h2, (f.I 18 (n - 1) (hC _ (by omega))).trans h3⟩
theorem m_code {h : z_T} {cf : Nat → Nat} {c : Nat} {x1 x2 x3 : Int32} {Q : z_T → Prop} (s : SM h) (hC : mCd h cf c) (hc : c < 45) (e1 : x1 = nI (cf (3 * c))) (e2 : x2 = nI (cf (3 * c + 1))) (e3 : x3 = nI (cf (3 * c + 2)))
    (k : ∀ h', m_fr (fun o k => o ≠ 4 ∧ (o ≠ 0 ∨ k ≠ 48)) h h' → mCd h' cf (c + 1) → Q h') : p_W (fX12_code 0 x1 x2 x3 h) Q := by
  obtain ⟨c1, c2⟩ := hC
  unfold fX12_code
  simp (disch := first | assumption | omega) only [p_some, p_gd, p_br, p_bi, p_nm, p_mp, p_Sl, p_Sr, p_bis, p_gdt, q_IL, q_IR, q_LI, q_LR, q_RI, q_RL, q_KI, q_KL, q_KR, q_NI, q_NL, q_NR, q_nI, q_nL, q_nR, q_okI, q_okL, q_okR, q_Ie, q_In, q_Le, q_Ln, SM_I, SM_L, s_c0, s_cg0, s_cl0, s_cge, s_cle, r_le, r_lt, r_eq, r_md, r_2, r_3, r_lit, r_litL, r_m1, nI_add, nI_1, nI_clamp, nI_leI, nI_ltI, nI_eq, pk_sub, q_ix, nI_l, lN_add, lN_mul, r_m1n, r_m1n', r_m1lt, r_m1nlt, r_m1le, r_m1nle, Nat.not_lt_zero, Nat.reduceEqDiff, Nat.reduceLT, Nat.reduceLeDiff, true_and, and_true, true_implies, false_implies, not_true_eq_false, not_false_eq_true, implies_true, and_self, ne_eq, decide_true, decide_false, Bool.not_true, Bool.not_false, if_true, if_false, reduceIte, mk0, mk1, mk2, mk3, mk4, mk5, mk6, mk7, mk8, mk9, mk10, mk11, mk12, mk13, mk14, mk15, mk16, mk17, mk18, mk19, mk20, mk21, mk22, mn1, mn2, mn3, mn4, mn5, mn6, mn7, mn8, mn9, mn10, mn11, mn12, mn13, mn14, mn15, mn16, mn17, mn18, mn19, mn20, mn21, mn22, mr1, mr6, mr7, mr8, mr9, mr10, mr21, mr22, mr23, mr25, mr26, mr29, mr30, mr32, mr33, mr34, mr43, mr47, mr53, mr54, mr55, mr56, c1, pk_mul]
  have f0 : m_fr (fun o k => o ≠ 4 ∧ (o ≠ 0 ∨ k ≠ 48)) h (z_sI (z_sI (z_sI (z_sI h 4 (3 * c) x1) 4 (3 * c + 1) x2) 4 (3 * c + 2) x3) 0 48 (nI (c + 1))) := (((m_fr.rf.sI (by omega)).sI (by omega)).sI (by omega)).sI (by omega)
  refine k _ f0 ⟨q_Ie rfl rfl, fun i hi => ?_⟩
  rw [q_In (by omega)]
  by_cases a2 : i = 3 * c + 2
  · subst a2; rw [q_Ie rfl rfl, e3]
  · rw [q_In (by omega)]
    by_cases a1 : i = 3 * c + 1
    · subst a1; rw [q_Ie rfl rfl, e2]
    · rw [q_In (by omega)]
      by_cases a0 : i = 3 * c
      · subst a0; rw [q_Ie rfl rfl, e1]
      · rw [q_In (by omega)]
        exact c2 i (by omega)
section MDRAIN
variable {cf : Nat → Nat} {tp dp : Nat} {Q : z_T → Prop}
theorem m_notsL : ∀ j c (h : z_T), SM h → mCd h cf c → c + j ≤ 44 → z_I h 0 50 = nI (tp + j) → z_I h 0 51 = nI (dp + j) → (∀ i, i < j → z_I h 18 (tp + j - 1 - i) = nI 20 ∧ cf (3 * (c + i)) = 20 ∧ cf (3 * (c + i) + 1) = 0 ∧ cf (3 * (c + i) + 2) = 0) → tp + j ≤ 45 → dp + j < 100 → mSk h tp (fun x => ¬ x = 20) →
    (∀ h', m_fr mDf h h' → mCd h' cf (c + j) → z_I h' 0 50 = nI tp → z_I h' 0 51 = nI dp → Q h') → p_W (y_lp (fun q : z_T => fX12_nots_b0_i 0 q) h) Q := by
  intro j
  induction j with
  | zero =>
    intro c h s hC hc e50 e51 g ht hd hS k
    rw [Nat.add_zero] at e50 e51
    refine p_unP (fun P hP => ?_)
    unfold fX12_nots_b0_i
    by_cases t0 : tp = 0
    · simp (disch := first | assumption | omega) only [p_some, p_gd, p_br, p_bi, p_nm, p_mp, p_Sl, p_Sr, p_bis, p_gdt, Nat.not_lt_zero, Nat.reduceEqDiff, Nat.reduceLT, Nat.reduceLeDiff, true_and, and_true, true_implies, false_implies, not_true_eq_false, not_false_eq_true, implies_true, and_self, ne_eq, decide_true, decide_false, Bool.not_true, Bool.not_false, if_true, if_false, reduceIte, mk0 s, r_lit, e50, nI_leI, show tp ≤ 0 by omega]
      exact k h m_fr.rf hC e50 e51
    · rcases hS with e | ⟨x, x1, x2, x3⟩
      · exact absurd e t0
      · simp (disch := first | assumption | omega) only [p_some, p_gd, p_br, p_bi, p_nm, p_mp, p_Sl, p_Sr, p_bis, p_gdt, Nat.not_lt_zero, Nat.reduceEqDiff, Nat.reduceLT, Nat.reduceLeDiff, true_and, and_true, true_implies, false_implies, not_true_eq_false, not_false_eq_true, implies_true, and_self, ne_eq, decide_true, decide_false, Bool.not_true, Bool.not_false, if_true, if_false, reduceIte, mk0 s, r_lit, e50, nI_leI, show ¬ tp ≤ 0 by omega]
        simp (disch := first | assumption | omega) only [p_some, p_gd, p_br, p_bi, p_nm, p_mp, p_Sl, p_Sr, p_bis, p_gdt, q_IL, q_IR, q_LI, q_LR, q_RI, q_RL, q_KI, q_KL, q_KR, q_NI, q_NL, q_NR, q_nI, q_nL, q_nR, q_okI, q_okL, q_okR, q_Ie, q_In, q_Le, q_Ln, SM_I, SM_L, s_c0, s_cg0, s_cl0, s_cge, s_cle, r_le, r_lt, r_eq, r_md, r_2, r_3, r_lit, r_litL, r_m1, nI_add, nI_1, nI_clamp, nI_leI, nI_ltI, nI_eq, pk_sub, q_ix, nI_l, lN_add, lN_mul, r_m1n, r_m1n', r_m1lt, r_m1nlt, r_m1le, r_m1nle, Nat.not_lt_zero, Nat.reduceEqDiff, Nat.reduceLT, Nat.reduceLeDiff, true_and, and_true, true_implies, false_implies, not_true_eq_false, not_false_eq_true, implies_true, and_self, ne_eq, decide_true, decide_false, Bool.not_true, Bool.not_false, if_true, if_false, reduceIte, mk0, mk1, mk2, mk3, mk4, mk5, mk6, mk7, mk8, mk9, mk10, mk11, mk12, mk13, mk14, mk15, mk16, mk17, mk18, mk19, mk20, mk21, mk22, mn1, mn2, mn3, mn4, mn5, mn6, mn7, mn8, mn9, mn10, mn11, mn12, mn13, mn14, mn15, mn16, mn17, mn18, mn19, mn20, mn21, mn22, mr1, mr6, mr7, mr8, mr9, mr10, mr21, mr22, mr23, mr25, mr26, mr29, mr30, mr32, mr33, mr34, mr43, mr47, mr53, mr54, mr55, mr56, e50, x3, x2]
        exact k h m_fr.rf hC e50 e51
  | succ j ih =>
    intro c h s hC hc e50 e51 g ht hd hS k
    have e50' : z_I h 0 50 = nI (tp + j + 1) := e50
    have e51' : z_I h 0 51 = nI (dp + j + 1) := e51
    obtain ⟨g1, g2, g3, g4⟩ := g 0 (by omega)
    rw [show tp + (j + 1) - 1 - 0 = tp + j by omega] at g1
    rw [show c + 0 = c from rfl] at g2 g3 g4
    refine p_unP (fun P hP => ?_)
    unfold fX12_nots_b0_i
    simp (disch := first | assumption | omega) only [p_some, p_gd, p_br, p_bi, p_nm, p_mp, p_Sl, p_Sr, p_bis, p_gdt, Nat.not_lt_zero, Nat.reduceEqDiff, Nat.reduceLT, Nat.reduceLeDiff, true_and, and_true, true_implies, false_implies, not_true_eq_false, not_false_eq_true, implies_true, and_self, ne_eq, decide_true, decide_false, Bool.not_true, Bool.not_false, if_true, if_false, reduceIte, mk0 s, r_lit, e50', nI_leI, show ¬ tp + j + 1 ≤ 0 by omega]
    simp (disch := first | assumption | omega) only [p_some, p_gd, p_br, p_bi, p_nm, p_mp, p_Sl, p_Sr, p_bis, p_gdt, q_IL, q_IR, q_LI, q_LR, q_RI, q_RL, q_KI, q_KL, q_KR, q_NI, q_NL, q_NR, q_nI, q_nL, q_nR, q_okI, q_okL, q_okR, q_Ie, q_In, q_Le, q_Ln, SM_I, SM_L, s_c0, s_cg0, s_cl0, s_cge, s_cle, r_le, r_lt, r_eq, r_md, r_2, r_3, r_lit, r_litL, r_m1, nI_add, nI_1, nI_clamp, nI_leI, nI_ltI, nI_eq, pk_sub, q_ix, nI_l, lN_add, lN_mul, r_m1n, r_m1n', r_m1lt, r_m1nlt, r_m1le, r_m1nle, Nat.not_lt_zero, Nat.reduceEqDiff, Nat.reduceLT, Nat.reduceLeDiff, true_and, and_true, true_implies, false_implies, not_true_eq_false, not_false_eq_true, implies_true, and_self, ne_eq, decide_true, decide_false, Bool.not_true, Bool.not_false, if_true, if_false, reduceIte, mk0, mk1, mk2, mk3, mk4, mk5, mk6, mk7, mk8, mk9, mk10, mk11, mk12, mk13, mk14, mk15, mk16, mk17, mk18, mk19, mk20, mk21, mk22, mn1, mn2, mn3, mn4, mn5, mn6, mn7, mn8, mn9, mn10, mn11, mn12, mn13, mn14, mn15, mn16, mn17, mn18, mn19, mn20, mn21, mn22, mr1, mr6, mr7, mr8, mr9, mr10, mr21, mr22, mr23, mr25, mr26, mr29, mr30, mr32, mr33, mr34, mr43, mr47, mr53, mr54, mr55, mr56, e50', e51', Nat.add_sub_cancel, g1]
    have f0 : m_fr (fun o k => o ≠ 0 ∨ (k ≠ 50 ∧ k ≠ 51)) h (z_sI (z_sI h 0 50 (nI (tp + j))) 0 51 (nI (dp + j))) := (m_fr.rf.sI (by omega)).sI (by omega)
    have i50 : z_I (z_sI (z_sI h 0 50 (nI (tp + j))) 0 51 (nI (dp + j))) 0 50 = nI (tp + j) := (q_In (by omega)).trans (q_Ie rfl rfl)
    have i51 : z_I (z_sI (z_sI h 0 50 (nI (tp + j))) 0 51 (nI (dp + j))) 0 51 = nI (dp + j) := q_Ie rfl rfl
    have C0 : mCd (z_sI (z_sI h 0 50 (nI (tp + j))) 0 51 (nI (dp + j))) cf c := ⟨(f0.I 0 48 (by omega)).trans hC.1, fun i hi => (f0.I 4 i (by omega)).trans (hC.2 i hi)⟩
    have s0 := f0.s s
    generalize z_sI (z_sI h 0 50 (nI (tp + j))) 0 51 (nI (dp + j)) = h0 at *
    refine m_code s0 C0 (by omega) (by rw [g2]) (by rw [g3]) (by rw [g4]) (fun h1 f1 C1 => ?_)
    have F1 : m_fr mDf h h1 := (f0.w (fun o k c => by unfold mDf at c; omega)).tr (f1.w (fun o k c => by unfold mDf at c; omega))
    refine hP _ (ih (c + 1) h1 (f1.s s0) C1 (by omega) ((f1.I 0 50 (by omega)).trans i50) ((f1.I 0 51 (by omega)).trans i51) (fun i hi => ?_) (by omega) (by omega) (hS.fr F1 (fun k _ => by unfold mDf; omega)) (fun h2 f2 C2 j50 j51 => k h2 (F1.tr f2) ?_ j50 j51))
    · obtain ⟨q1, q2, q3, q4⟩ := g (i + 1) (by omega)
      rw [show tp + (j + 1) - 1 - (i + 1) = tp + j - 1 - i by omega] at q1
      rw [show c + (i + 1) = c + 1 + i by omega] at q2 q3 q4
      exact ⟨(F1.I 18 _ (by unfold mDf; omega)).trans q1, q2, q3, q4⟩
    · rw [show c + (j + 1) = c + 1 + j by omega]
      exact C2
theorem m_joinsL {till : Nat} (htl : till = 21 ∨ till = 22) : ∀ j c (h : z_T), SM h → mCd h cf c → c + j ≤ 44 → z_I h 0 50 = nI (tp + j) → (∀ i, i < j → z_I h 18 (tp + j - 1 - i) = nI (cf (3 * (c + i))) ∧ (cf (3 * (c + i)) = 21 ∨ (cf (3 * (c + i)) = 22 ∧ till = 22)) ∧ cf (3 * (c + i) + 1) = 0 ∧ cf (3 * (c + i) + 2) = 0) → tp + j ≤ 45 → mSk h tp (fun x => ¬ x = 21 ∧ (x = 22 → till = 21)) →
    (∀ h', m_fr mDf h h' → mCd h' cf (c + j) → z_I h' 0 50 = nI tp → z_I h' 0 51 = z_I h 0 51 → Q h') → p_W (y_lp (fun q : z_T => fX12_joins_b0_i 0 (nI till) q) h) Q := by
  intro j
  induction j with
  | zero =>
    intro c h s hC hc e50 g ht hS k
    rw [Nat.add_zero] at e50
    refine p_unP (fun P hP => ?_)
    unfold fX12_joins_b0_i
    by_cases t0 : tp = 0
    · simp (disch := first | assumption | omega) only [p_some, p_gd, p_br, p_bi, p_nm, p_mp, p_Sl, p_Sr, p_bis, p_gdt, q_IL, q_IR, q_LI, q_LR, q_RI, q_RL, q_KI, q_KL, q_KR, q_NI, q_NL, q_NR, q_nI, q_nL, q_nR, q_okI, q_okL, q_okR, q_Ie, q_In, q_Le, q_Ln, SM_I, SM_L, s_c0, s_cg0, s_cl0, s_cge, s_cle, r_le, r_lt, r_eq, r_md, r_2, r_3, r_lit, r_litL, r_m1, nI_add, nI_1, nI_clamp, nI_leI, nI_ltI, nI_eq, pk_sub, q_ix, nI_l, lN_add, lN_mul, r_m1n, r_m1n', r_m1lt, r_m1nlt, r_m1le, r_m1nle, Nat.not_lt_zero, Nat.reduceEqDiff, Nat.reduceLT, Nat.reduceLeDiff, true_and, and_true, true_implies, false_implies, not_true_eq_false, not_false_eq_true, implies_true, and_self, ne_eq, decide_true, decide_false, Bool.not_true, Bool.not_false, if_true, if_false, reduceIte, mk0, mk1, mk2, mk3, mk4, mk5, mk6, mk7, mk8, mk9, mk10, mk11, mk12, mk13, mk14, mk15, mk16, mk17, mk18, mk19, mk20, mk21, mk22, mn1, mn2, mn3, mn4, mn5, mn6, mn7, mn8, mn9, mn10, mn11, mn12, mn13, mn14, mn15, mn16, mn17, mn18, mn19, mn20, mn21, mn22, mr1, mr6, mr7, mr8, mr9, mr10, mr21, mr22, mr23, mr25, mr26, mr29, mr30, mr32, mr33, mr34, mr43, mr47, mr53, mr54, mr55, mr56, e50, show tp ≤ 0 by omega]
      exact k h m_fr.rf hC e50 rfl
    · rcases hS with e | ⟨x, x1, ⟨x2, x2'⟩, x3⟩
      · exact absurd e t0
      · simp (disch := first | assumption | omega) only [p_some, p_gd, p_br, p_bi, p_nm, p_mp, p_Sl, p_Sr, p_bis, p_gdt, q_IL, q_IR, q_LI, q_LR, q_RI, q_RL, q_KI, q_KL, q_KR, q_NI, q_NL, q_NR, q_nI, q_nL, q_nR, q_okI, q_okL, q_okR, q_Ie, q_In, q_Le, q_Ln, SM_I, SM_L, s_c0, s_cg0, s_cl0, s_cge, s_cle, r_le, r_lt, r_eq, r_md, r_2, r_3, r_lit, r_litL, r_m1, nI_add, nI_1, nI_clamp, nI_leI, nI_ltI, nI_eq, pk_sub, q_ix, nI_l, lN_add, lN_mul, r_m1n, r_m1n', r_m1lt, r_m1nlt, r_m1le, r_m1nle, Nat.not_lt_zero, Nat.reduceEqDiff, Nat.reduceLT, Nat.reduceLeDiff, true_and, and_true, true_implies, false_implies, not_true_eq_false, not_false_eq_true, implies_true, and_self, ne_eq, decide_true, decide_false, Bool.not_true, Bool.not_false, if_true, if_false, reduceIte, mk0, mk1, mk2, mk3, mk4, mk5, mk6, mk7, mk8, mk9, mk10, mk11, mk12, mk13, mk14, mk15, mk16, mk17, mk18, mk19, mk20, mk21, mk22, mn1, mn2, mn3, mn4, mn5, mn6, mn7, mn8, mn9, mn10, mn11, mn12, mn13, mn14, mn15, mn16, mn17, mn18, mn19, mn20, mn21, mn22, mr1, mr6, mr7, mr8, mr9, mr10, mr21, mr22, mr23, mr25, mr26, mr29, mr30, mr32, mr33, mr34, mr43, mr47, mr53, mr54, mr55, mr56, e50, x3, x2, show ¬ tp ≤ 0 by omega]
        refine ⟨fun c22 => ?_, fun _ => k h m_fr.rf hC e50 rfl⟩
        have := x2' c22
        subst this
        exact ⟨fun z => absurd z (by omega), fun _ => k h m_fr.rf hC e50 rfl⟩
  | succ j ih =>
    intro c h s hC hc e50 g ht hS k
    have e50' : z_I h 0 50 = nI (tp + j + 1) := e50
    obtain ⟨g1, g2, g3, g4⟩ := g 0 (by omega)
    rw [show tp + (j + 1) - 1 - 0 = tp + j by omega] at g1
    rw [show c + 0 = c from rfl] at g1 g2 g3 g4
    refine p_unP (fun P hP => ?_)
    have f0 : m_fr (fun o k => o ≠ 0 ∨ k ≠ 50) h (z_sI h 0 50 (nI (tp + j))) := m_fr.rf.sI (by omega)
    have i50 : z_I (z_sI h 0 50 (nI (tp + j))) 0 50 = nI (tp + j) := q_Ie rfl rfl
    have C0 : mCd (z_sI h 0 50 (nI (tp + j))) cf c := ⟨(f0.I 0 48 (by omega)).trans hC.1, fun i hi => (f0.I 4 i (by omega)).trans (hC.2 i hi)⟩
    have s0 := f0.s s
    have i18 := (f0.I 18 (tp + j) (by omega)).trans g1
    have body : p_W (fX12_joins_b45 0 (nI till) h) (p_S P Q) := by
      unfold fX12_joins_b45
      simp (disch := first | assumption | omega) only [p_some, p_gd, p_br, p_bi, p_nm, p_mp, p_Sl, p_Sr, p_bis, p_gdt, q_IL, q_IR, q_LI, q_LR, q_RI, q_RL, q_KI, q_KL, q_KR, q_NI, q_NL, q_NR, q_nI, q_nL, q_nR, q_okI, q_okL, q_okR, q_Ie, q_In, q_Le, q_Ln, SM_I, SM_L, s_c0, s_cg0, s_cl0, s_cge, s_cle, r_le, r_lt, r_eq, r_md, r_2, r_3, r_lit, r_litL, r_m1, nI_add, nI_1, nI_clamp, nI_leI, nI_ltI, nI_eq, pk_sub, q_ix, nI_l, lN_add, lN_mul, r_m1n, r_m1n', r_m1lt, r_m1nlt, r_m1le, r_m1nle, Nat.not_lt_zero, Nat.reduceEqDiff, Nat.reduceLT, Nat.reduceLeDiff, true_and, and_true, true_implies, false_implies, not_true_eq_false, not_false_eq_true, implies_true, and_self, ne_eq, decide_true, decide_false, Bool.not_true, Bool.not_false, if_true, if_false, reduceIte, mk0, mk1, mk2, mk3, mk4, mk5, mk6, mk7, mk8, mk9, mk10, mk11, mk12, mk13, mk14, mk15, mk16, mk17, mk18, mk19, mk20, mk21, mk22, mn1, mn2, mn3, mn4, mn5, mn6, mn7, mn8, mn9, mn10, mn11, mn12, mn13, mn14, mn15, mn16, mn17, mn18, mn19, mn20, mn21, mn22, mr1, mr6, mr7, mr8, mr9, mr10, mr21, mr22, mr23, mr25, mr26, mr29, mr30, mr32, mr33, mr34, mr43, mr47, mr53, mr54, mr55, mr56, e50', Nat.add_sub_cancel]
      generalize z_sI h 0 50 (nI (tp + j)) = h0 at *
      refine m_code s0 C0 (by omega) g1 (by rw [g3]) (by rw [g4]) (fun h1 f1 C1 => ?_)
      have F1 : m_fr mDf h h1 := (f0.w (fun o k c => by unfold mDf at c; omega)).tr (f1.w (fun o k c => by unfold mDf at c; omega))
      have j51 : z_I h1 0 51 = z_I h 0 51 := (f1.I 0 51 (by omega)).trans (f0.I 0 51 (by omega))
      refine hP _ (ih (c + 1) h1 (f1.s s0) C1 (by omega) ((f1.I 0 50 (by omega)).trans i50) (fun i hi => ?_) (by omega) (hS.fr F1 (fun k _ => by unfold mDf; omega)) (fun h2 f2 C2 j50 e51 => k h2 (F1.tr f2) ?_ j50 (e51.trans j51)))
      · obtain ⟨q1, q2, q3, q4⟩ := g (i + 1) (by omega)
        rw [show tp + (j + 1) - 1 - (i + 1) = tp + j - 1 - i by omega] at q1
        rw [show c + (i + 1) = c + 1 + i by omega] at q1 q2 q3 q4
        exact ⟨(F1.I 18 _ (by unfold mDf; omega)).trans q1, q2, q3, q4⟩
      · rw [show c + (j + 1) = c + 1 + j by omega]
        exact C2
    unfold fX12_joins_b0_i
    rcases g2 with q | ⟨q, rfl⟩
    · rw [q] at g1
      simp (disch := first | assumption | omega) only [p_some, p_gd, p_br, p_bi, p_nm, p_mp, p_Sl, p_Sr, p_bis, p_gdt, q_IL, q_IR, q_LI, q_LR, q_RI, q_RL, q_KI, q_KL, q_KR, q_NI, q_NL, q_NR, q_nI, q_nL, q_nR, q_okI, q_okL, q_okR, q_Ie, q_In, q_Le, q_Ln, SM_I, SM_L, s_c0, s_cg0, s_cl0, s_cge, s_cle, r_le, r_lt, r_eq, r_md, r_2, r_3, r_lit, r_litL, r_m1, nI_add, nI_1, nI_clamp, nI_leI, nI_ltI, nI_eq, pk_sub, q_ix, nI_l, lN_add, lN_mul, r_m1n, r_m1n', r_m1lt, r_m1nlt, r_m1le, r_m1nle, Nat.not_lt_zero, Nat.reduceEqDiff, Nat.reduceLT, Nat.reduceLeDiff, true_and, and_true, true_implies, false_implies, not_true_eq_false, not_false_eq_true, implies_true, and_self, ne_eq, decide_true, decide_false, Bool.not_true, Bool.not_false, if_true, if_false, reduceIte, mk0, mk1, mk2, mk3, mk4, mk5, mk6, mk7, mk8, mk9, mk10, mk11, mk12, mk13, mk14, mk15, mk16, mk17, mk18, mk19, mk20, mk21, mk22, mn1, mn2, mn3, mn4, mn5, mn6, mn7, mn8, mn9, mn10, mn11, mn12, mn13, mn14, mn15, mn16, mn17, mn18, mn19, mn20, mn21, mn22, mr1, mr6, mr7, mr8, mr9, mr10, mr21, mr22, mr23, mr25, mr26, mr29, mr30, mr32, mr33, mr34, mr43, mr47, mr53, mr54, mr55, mr56, e50', Nat.add_sub_cancel, g1, show ¬ tp + j + 1 ≤ 0 by omega]
      exact body
    · rw [q] at g1
      simp (disch := first | assumption | omega) only [p_some, p_gd, p_br, p_bi, p_nm, p_mp, p_Sl, p_Sr, p_bis, p_gdt, q_IL, q_IR, q_LI, q_LR, q_RI, q_RL, q_KI, q_KL, q_KR, q_NI, q_NL, q_NR, q_nI, q_nL, q_nR, q_okI, q_okL, q_okR, q_Ie, q_In, q_Le, q_Ln, SM_I, SM_L, s_c0, s_cg0, s_cl0, s_cge, s_cle, r_le, r_lt, r_eq, r_md, r_2, r_3, r_lit, r_litL, r_m1, nI_add, nI_1, nI_clamp, nI_leI, nI_ltI, nI_eq, pk_sub, q_ix, nI_l, lN_add, lN_mul, r_m1n, r_m1n', r_m1lt, r_m1nlt, r_m1le, r_m1nle, Nat.not_lt_zero, Nat.reduceEqDiff, Nat.reduceLT, Nat.reduceLeDiff, true_and, and_true, true_implies, false_implies, not_true_eq_false, not_false_eq_true, implies_true, and_self, ne_eq, decide_true, decide_false, Bool.not_true, Bool.not_false, if_true, if_false, reduceIte, mk0, mk1, mk2, mk3, mk4, mk5, mk6, mk7, mk8, mk9, mk10, mk11, mk12, mk13, mk14, mk15, mk16, mk17, mk18, mk19, mk20, mk21, mk22, mn1, mn2, mn3, mn4, mn5, mn6, mn7, mn8, mn9, mn10, mn11, mn12, mn13, mn14, mn15, mn16, mn17, mn18, mn19, mn20, mn21, mn22, mr1, mr6, mr7, mr8, mr9, mr10, mr21, mr22, mr23, mr25, mr26, mr29, mr30, mr32, mr33, mr34, mr43, mr47, mr53, mr54, mr55, mr56, e50', Nat.add_sub_cancel, g1, show ¬ tp + j + 1 ≤ 0 by omega]
      exact body
end MDRAIN
/-- what waits above place n: a times not, then (till b) and, then (till k) or -/
def mPd (h : z_T) (n : Nat) (cf : Nat → Nat) (c dp a b k : Nat) : Prop := ∃ c0, c = c0 + k ∧ (a ≤ b ∧ b ≤ k ∧ b ≤ a + 1 ∧ k ≤ b + 1) ∧ mCd h cf c0 ∧ z_I h 0 50 = nI (n + k) ∧ z_I h 0 51 = nI (dp + a) ∧ ∀ i, i < k → z_I h 18 (n + k - 1 - i) = nI (cf (3 * (c0 + i))) ∧ cf (3 * (c0 + i)) = (if i < a then 20 else if i < b then 21 else 22) ∧ cf (3 * (c0 + i) + 1) = 0 ∧ cf (3 * (c0 + i) + 2) = 0
theorem mPd.fr {C : Nat → Nat → Prop} {h h' : z_T} {n c dp a b k : Nat} {cf : Nat → Nat} (p : mPd h n cf c dp a b k) (f : m_fr C h h') (h1 : C 0 48) (h2 : ∀ i, C 4 i) (h3 : C 0 50) (h4 : C 0 51) (h5 : ∀ i, C 18 i) : mPd h' n cf c dp a b k := by
  obtain ⟨c0, p1, p2, p3, p4, p5, p6⟩ := p
  exact ⟨c0, p1, p2, ⟨(f.I 0 48 h1).trans p3.1, fun i hi => (f.I 4 i (h2 i)).trans (p3.2 i hi)⟩, (f.I 0 50 h3).trans p4, (f.I 0 51 h4).trans p5, fun i hi => ⟨(f.I 18 _ (h5 _)).trans (p6 i hi).1, (p6 i hi).2⟩⟩
theorem m_nots {h : z_T} {n c dp a b k : Nat} {cf : Nat → Nat} {Q : z_T → Prop} (s : SM h) (p : mPd h n cf c dp a b k) (hc : c ≤ 44) (hn : n + k ≤ 45) (hd : dp + a < 100) (hS : a = k → mSk h n (fun x => ¬ x = 20))
    (K : ∀ h', m_fr mDf h h' → mPd h' n cf c dp 0 (b - a) (k - a) → Q h') : p_W (fX12_nots 0 h) Q := by
  obtain ⟨c0, p1, p2, p3, p4, p5, p6⟩ := p
  unfold fX12_nots fX12_nots_b0
  refine m_notsL (cf := cf) (tp := n + (k - a)) (dp := dp) a c0 h s p3 (by omega) (by rw [p4]; congr 1; omega) p5 (fun i hi => ?_) (by omega) hd ?_ (fun h1 f1 C1 e50 e51 => ?_)
  · obtain ⟨g1, g2, g3, g4⟩ := p6 i (by omega)
    rw [if_pos hi] at g2
    rw [show n + (k - a) + a - 1 - i = n + k - 1 - i by omega, g1, g2]
    exact ⟨rfl, rfl, g3, g4⟩
  · by_cases e : a = k
    · subst e
      rw [Nat.sub_self, Nat.add_zero]
      exact hS rfl
    · obtain ⟨g1, g2, g3, g4⟩ := p6 a (by omega)
      rw [if_neg (by omega)] at g2
      refine Or.inr ⟨cf (3 * (c0 + a)), ?_, ?_, ?_⟩
      · rw [g2]; split <;> omega
      · rw [g2]; split <;> omega
      · rw [show n + (k - a) - 1 = n + k - 1 - a by omega]
        exact g1
  · refine K h1 f1 ⟨c0 + a, by omega, by omega, C1, e50, e51, fun i hi => ?_⟩
    obtain ⟨g1, g2, g3, g4⟩ := p6 (a + i) (by omega)
    rw [show c0 + a + i = c0 + (a + i) by omega, show n + (k - a) - 1 - i = n + k - 1 - (a + i) by omega]
    refine ⟨(f1.I 18 _ (by unfold mDf; omega)).trans g1, ?_, g3, g4⟩
    by_cases q : i < b - a
    · rw [g2, if_neg (show ¬ a + i < a by omega), if_neg (show ¬ i < 0 by omega), if_pos (show a + i < b by omega), if_pos q]
    · rw [g2, if_neg (show ¬ a + i < a by omega), if_neg (show ¬ i < 0 by omega), if_neg (show ¬ a + i < b by omega), if_neg q]
theorem m_joins21 {h : z_T} {n c dp b k : Nat} {cf : Nat → Nat} {Q : z_T → Prop} (s : SM h) (p : mPd h n cf c dp 0 b k) (hc : c ≤ 44) (hn : n + k ≤ 45) (hS : b = k → mSk h n (fun x => ¬ x = 21))
    (K : ∀ h', m_fr mDf h h' → mPd h' n cf c dp 0 0 (k - b) → Q h') : p_W (fX12_joins 0 (nI 21) h) Q := by
  obtain ⟨c0, p1, p2, p3, p4, p5, p6⟩ := p
  unfold fX12_joins fX12_joins_b0
  refine m_joinsL (cf := cf) (tp := n + (k - b)) (till := 21) (Or.inl rfl) b c0 h s p3 (by omega) (by rw [p4]; congr 1; omega) (fun i hi => ?_) (by omega) ?_ (fun h1 f1 C1 e50 e51 => ?_)
  · obtain ⟨g1, g2, g3, g4⟩ := p6 i (by omega)
    rw [if_neg (by omega), if_pos hi] at g2
    rw [show n + (k - b) + b - 1 - i = n + k - 1 - i by omega]
    exact ⟨g1, Or.inl g2, g3, g4⟩
  · by_cases e : b = k
    · subst e
      rw [Nat.sub_self, Nat.add_zero]
      exact (hS rfl).i (fun x q => ⟨q, fun _ => rfl⟩)
    · obtain ⟨g1, g2, g3, g4⟩ := p6 b (by omega)
      rw [if_neg (by omega), if_neg (by omega)] at g2
      refine Or.inr ⟨cf (3 * (c0 + b)), by omega, ⟨by omega, fun _ => rfl⟩, ?_⟩
      rw [show n + (k - b) - 1 = n + k - 1 - b by omega]
      exact g1
  · refine K h1 f1 ⟨c0 + b, by omega, by omega, C1, e50, e51.trans p5, fun i hi => ?_⟩
    obtain ⟨g1, g2, g3, g4⟩ := p6 (b + i) (by omega)
    rw [show c0 + b + i = c0 + (b + i) by omega, show n + (k - b) - 1 - i = n + k - 1 - (b + i) by omega]
    refine ⟨(f1.I 18 _ (by unfold mDf; omega)).trans g1, ?_, g3, g4⟩
    rw [g2, if_neg (show ¬ b + i < 0 by omega), if_neg (show ¬ b + i < b by omega), if_neg (show ¬ i < 0 by omega), if_neg (show ¬ i < 0 by omega)]
theorem m_joins22 {h : z_T} {n c dp b k : Nat} {cf : Nat → Nat} {Q : z_T → Prop} (s : SM h) (p : mPd h n cf c dp 0 b k) (hc : c ≤ 44) (hn : n + k ≤ 45) (hS : mSk h n (fun x => ¬ x = 21 ∧ ¬ x = 22))
    (K : ∀ h', m_fr mDf h h' → mCd h' cf c → z_I h' 0 50 = nI n → z_I h' 0 51 = nI dp → Q h') : p_W (fX12_joins 0 (nI 22) h) Q := by
  obtain ⟨c0, p1, p2, p3, p4, p5, p6⟩ := p
  unfold fX12_joins fX12_joins_b0
  refine m_joinsL (cf := cf) (tp := n) (till := 22) (Or.inr rfl) k c0 h s p3 (by omega) p4 (fun i hi => ?_) (by omega) (hS.i (fun x q => ⟨q.1, fun z => absurd z q.2⟩)) (fun h1 f1 C1 e50 e51 => K h1 f1 (by rw [p1]; exact C1) e50 (e51.trans p5))
  obtain ⟨g1, g2, g3, g4⟩ := p6 i (by omega)
  rw [if_neg (by omega)] at g2
  refine ⟨g1, ?_, g3, g4⟩
  by_cases q : i < b
  · rw [if_pos q] at g2; exact Or.inl g2
  · rw [if_neg q] at g2; exact Or.inr ⟨g2, rfl⟩
