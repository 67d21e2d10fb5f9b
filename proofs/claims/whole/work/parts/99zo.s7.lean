/-! the reference reads a line of a book: dreams, tests, all -/
theorem a_pc_or : ∀ s, s < 256 → ∀ k, k < 8 → s.testBit k = false → a_pc (s ||| 2 ^ k) = a_pc s + 1 := by decide +kernel
theorem a_kk0 {t : Nat × Nat × Nat × Nat} (h : ¬ t.1 = 2) : a_kk t = 0 := by
  unfold a_kk
  rw [if_neg h]
theorem m_keptLoop {by8 : Nat → Nat} {L lim n D d : Nat} {f : Nat → Nat} {Q : Int32 × z_T → Prop} (h8 : n ≤ 8) (hd : d < 6) (hD : D ≤ 6) : ∀ m set (h : z_T) (t : Nat × Nat × Nat × Nat), set < 2 ^ n → a_pc set + m = 9 → mL by8 L lim h t → z_I h 3 0 = nI n → z_I h 3 1 = nI D → (∀ k, k < n → z_L h 5 (14 + k) = lN (a_c8 7 (f k)) ∧ f k < 32 ^ 7) →
    (∀ h' e, a_kept (a_ne by8 L lim) f n m set t = .inl e → m_fr mGF h h' → mF h' e → Q (nI 0, h')) →
    (∀ h' w, a_kept (a_ne by8 L lim) f n m set t = .inr w → ¬ w.2.1 = 59 → m_fr mGF h h' → mF h' (1, w.2.2.2.1) → Q (nI 0, h')) →
    (∀ h' w, a_kept (a_ne by8 L lim) f n m set t = .inr w → w.2.1 = 59 → w.1 < 2 ^ n → m_fr mGF h h' → mL by8 L lim h' w.2 → Q (nI 1, z_sI (z_sI h' 3 (30 + d) (nI w.1)) 3 1 (nI (D + 1)))) →
    p_W (y_lp (fun w : Int32 × z_T => fX12_line_b202_i 0 (nI d) w.1 w.2) (nI set, h)) Q := by
  intro m
  induction m with
  | zero =>
    intro set h t _ hp
    have := a_pc_le set
    omega
  | succ m ih =>
    intro set h t hs hp l i0 i1 hf k0 k2 k1
    have s := l.1
    have sg := m_isSign l (c := 59) (by decide)
    have nmE := m_isName l
    have h256 : set < 256 := Nat.lt_of_lt_of_le hs (Nat.le_trans (Nat.pow_le_pow_right (by decide) h8) (by decide))
    rw [a_kept] at k0 k1 k2
    refine p_unP (fun P hP => ?_)
    unfold fX12_line_b202_i
    dsimp only
    by_cases c59 : t.1 = 59
    · rw [bI_t c59] at sg
      rw [if_neg (by omega)] at k1
      have kk := k1 h (set, t) rfl c59 hs m_fr.rf l
      simp (disch := first | assumption | omega) only [p_some, p_gd, p_br, p_bi, p_nm, p_mp, p_Sl, p_Sr, p_bis, p_gdt, q_IL, q_IR, q_LI, q_LR, q_RI, q_RL, q_KI, q_KL, q_KR, q_NI, q_NL, q_NR, q_nI, q_nL, q_nR, q_okI, q_okL, q_okR, q_Ie, q_In, q_Le, q_Ln, SM_I, SM_L, s_c0, s_cg0, s_cl0, s_cge, s_cle, r_le, r_lt, r_eq, r_md, r_2, r_3, r_lit, r_litL, r_m1, nI_add, nI_1, nI_clamp, nI_leI, nI_ltI, nI_eq, pk_sub, q_ix, nI_l, lN_add, lN_mul, r_m1n, r_m1n', r_m1lt, r_m1nlt, r_m1le, r_m1nle, Nat.not_lt_zero, Nat.reduceEqDiff, Nat.reduceLT, Nat.reduceLeDiff, true_and, and_true, true_implies, false_implies, not_true_eq_false, not_false_eq_true, implies_true, and_self, ne_eq, decide_true, decide_false, Bool.not_true, Bool.not_false, if_true, if_false, reduceIte, mk0, mk1, mk2, mk3, mk4, mk5, mk6, mk7, mk8, mk9, mk10, mk11, mk12, mk13, mk14, mk15, mk16, mk17, mk18, mk19, mk20, mk21, mk22, mn1, mn2, mn3, mn4, mn5, mn6, mn7, mn8, mn9, mn10, mn11, mn12, mn13, mn14, mn15, mn16, mn17, mn18, mn19, mn20, mn21, mn22, mr1, mr6, mr7, mr8, mr9, mr10, mr21, mr22, mr23, mr25, mr26, mr29, mr30, mr32, mr33, mr34, mr43, mr47, mr53, mr54, mr55, mr56, sg, show (nI 1 = nI 0) = False from by decide, i1]
      exact kk
    · rw [bI_f c59] at sg
      by_cases ck : a_kk t = 1
      · have c2 := a_kk1 (t := t) (by omega)
        rw [bI_t ck] at nmE
        rw [if_pos c2, if_pos ck] at k0 k1 k2
        have fd := m_find (from0 := 14) (n := n) (f := f) l c2 hf (by omega)
        rw [a_fi_fx] at fd
        have bad3 : ¬ (a_fx f n t.2.1 < n ∧ set.testBit (a_fx f n t.2.1) = false) → p_W (fX12_line_b252 0 h) Q := fun cf => by
          rw [if_neg cf] at k0
          unfold fX12_line_b252
          simp (disch := first | assumption | omega) only [p_some, p_gd, p_br, p_bi, p_nm, p_mp, p_Sl, p_Sr, p_bis, p_gdt, Nat.not_lt_zero, Nat.reduceEqDiff, Nat.reduceLT, Nat.reduceLeDiff, true_and, and_true, true_implies, false_implies, not_true_eq_false, not_false_eq_true, implies_true, and_self, ne_eq, decide_true, decide_false, Bool.not_true, Bool.not_false, if_true, if_false, reduceIte, mk0 s, r_lit]
          refine m_bad l (fun h1 f1 g1 => ?_)
          simp (disch := first | assumption | omega) only [p_some, p_gd, p_br, p_bi, p_nm, p_mp, p_Sl, p_Sr, p_bis, p_gdt, Nat.not_lt_zero, Nat.reduceEqDiff, Nat.reduceLT, Nat.reduceLeDiff, true_and, and_true, true_implies, false_implies, not_true_eq_false, not_false_eq_true, implies_true, and_self, ne_eq, decide_true, decide_false, Bool.not_true, Bool.not_false, if_true, if_false, reduceIte, s_yb0]
          exact k0 h1 _ rfl f1 g1
        by_cases cT : a_fx f n t.2.1 < n
        · rw [if_pos cT] at fd
          have por := a_pc_or set h256 (a_fx f n t.2.1) (by omega)
          have slt := a_set_lt hs cT
          generalize a_fx f n t.2.1 = F at *
          simp (disch := first | assumption | omega) only [p_some, p_gd, p_br, p_bi, p_nm, p_mp, p_Sl, p_Sr, p_bis, p_gdt, q_IL, q_IR, q_LI, q_LR, q_RI, q_RL, q_KI, q_KL, q_KR, q_NI, q_NL, q_NR, q_nI, q_nL, q_nR, q_okI, q_okL, q_okR, q_Ie, q_In, q_Le, q_Ln, SM_I, SM_L, s_c0, s_cg0, s_cl0, s_cge, s_cle, r_le, r_lt, r_eq, r_md, r_2, r_3, r_lit, r_litL, r_m1, nI_add, nI_1, nI_clamp, nI_leI, nI_ltI, nI_eq, pk_sub, q_ix, nI_l, lN_add, lN_mul, r_m1n, r_m1n', r_m1lt, r_m1nlt, r_m1le, r_m1nle, Nat.not_lt_zero, Nat.reduceEqDiff, Nat.reduceLT, Nat.reduceLeDiff, true_and, and_true, true_implies, false_implies, not_true_eq_false, not_false_eq_true, implies_true, and_self, ne_eq, decide_true, decide_false, Bool.not_true, Bool.not_false, if_true, if_false, reduceIte, mk0, mk1, mk2, mk3, mk4, mk5, mk6, mk7, mk8, mk9, mk10, mk11, mk12, mk13, mk14, mk15, mk16, mk17, mk18, mk19, mk20, mk21, mk22, mn1, mn2, mn3, mn4, mn5, mn6, mn7, mn8, mn9, mn10, mn11, mn12, mn13, mn14, mn15, mn16, mn17, mn18, mn19, mn20, mn21, mn22, mr1, mr6, mr7, mr8, mr9, mr10, mr21, mr22, mr23, mr25, mr26, mr29, mr30, mr32, mr33, mr34, mr43, mr47, mr53, mr54, mr55, mr56, sg, nmE, show (nI 1 = nI 0) = False from by decide, i0, fd, m_bitOf, bI_0, r_shl, fa_or]
          refine ⟨fun c => ?_, fun c => bad3 (fun q => c (by rw [q.2]; decide))⟩
          have cb := Bool.eq_false_iff.mpr c
          rw [if_pos ⟨cT, cb⟩] at k0 k1 k2
          refine m_goL l (by omega) (fun h1 f1 l1 => ?_)
          have g1 := mGF.go f1
          refine hP _ ?_
          exact ih (set ||| 2 ^ F) h1 _ slt (by rw [por cb]; omega) l1 ((f1.I 3 0 (by unfold mGo; omega)).trans i0) ((f1.I 3 1 (by unfold mGo; omega)).trans i1) (fun k hk => ⟨(f1.L 5 _ (by unfold mGo; omega)).trans (hf k hk).1, (hf k hk).2⟩) (fun h2 e q f2 g => k0 h2 e q (g1.tr f2) g) (fun h2 w q q2 f2 g => k2 h2 w q q2 (g1.tr f2) g) (fun h2 w q q2 q3 f2 l2 => k1 h2 w q q2 q3 (g1.tr f2) l2)
        · rw [if_neg cT] at fd
          have := bad3 (fun q => cT q.1)
          simp (disch := first | assumption | omega) only [p_some, p_gd, p_br, p_bi, p_nm, p_mp, p_Sl, p_Sr, p_bis, p_gdt, q_IL, q_IR, q_LI, q_LR, q_RI, q_RL, q_KI, q_KL, q_KR, q_NI, q_NL, q_NR, q_nI, q_nL, q_nR, q_okI, q_okL, q_okR, q_Ie, q_In, q_Le, q_Ln, SM_I, SM_L, s_c0, s_cg0, s_cl0, s_cge, s_cle, r_le, r_lt, r_eq, r_md, r_2, r_3, r_lit, r_litL, r_m1, nI_add, nI_1, nI_clamp, nI_leI, nI_ltI, nI_eq, pk_sub, q_ix, nI_l, lN_add, lN_mul, r_m1n, r_m1n', r_m1lt, r_m1nlt, r_m1le, r_m1nle, Nat.not_lt_zero, Nat.reduceEqDiff, Nat.reduceLT, Nat.reduceLeDiff, true_and, and_true, true_implies, false_implies, not_true_eq_false, not_false_eq_true, implies_true, and_self, ne_eq, decide_true, decide_false, Bool.not_true, Bool.not_false, if_true, if_false, reduceIte, mk0, mk1, mk2, mk3, mk4, mk5, mk6, mk7, mk8, mk9, mk10, mk11, mk12, mk13, mk14, mk15, mk16, mk17, mk18, mk19, mk20, mk21, mk22, mn1, mn2, mn3, mn4, mn5, mn6, mn7, mn8, mn9, mn10, mn11, mn12, mn13, mn14, mn15, mn16, mn17, mn18, mn19, mn20, mn21, mn22, mr1, mr6, mr7, mr8, mr9, mr10, mr21, mr22, mr23, mr25, mr26, mr29, mr30, mr32, mr33, mr34, mr43, mr47, mr53, mr54, mr55, mr56, sg, nmE, show (nI 1 = nI 0) = False from by decide, i0, fd]
          exact this
      · rw [bI_f ck] at nmE
        simp (disch := first | assumption | omega) only [p_some, p_gd, p_br, p_bi, p_nm, p_mp, p_Sl, p_Sr, p_bis, p_gdt, q_IL, q_IR, q_LI, q_LR, q_RI, q_RL, q_KI, q_KL, q_KR, q_NI, q_NL, q_NR, q_nI, q_nL, q_nR, q_okI, q_okL, q_okR, q_Ie, q_In, q_Le, q_Ln, SM_I, SM_L, s_c0, s_cg0, s_cl0, s_cge, s_cle, r_le, r_lt, r_eq, r_md, r_2, r_3, r_lit, r_litL, r_m1, nI_add, nI_1, nI_clamp, nI_leI, nI_ltI, nI_eq, pk_sub, q_ix, nI_l, lN_add, lN_mul, r_m1n, r_m1n', r_m1lt, r_m1nlt, r_m1le, r_m1nle, Nat.not_lt_zero, Nat.reduceEqDiff, Nat.reduceLT, Nat.reduceLeDiff, true_and, and_true, true_implies, false_implies, not_true_eq_false, not_false_eq_true, implies_true, and_self, ne_eq, decide_true, decide_false, Bool.not_true, Bool.not_false, if_true, if_false, reduceIte, mk0, mk1, mk2, mk3, mk4, mk5, mk6, mk7, mk8, mk9, mk10, mk11, mk12, mk13, mk14, mk15, mk16, mk17, mk18, mk19, mk20, mk21, mk22, mn1, mn2, mn3, mn4, mn5, mn6, mn7, mn8, mn9, mn10, mn11, mn12, mn13, mn14, mn15, mn16, mn17, mn18, mn19, mn20, mn21, mn22, mr1, mr6, mr7, mr8, mr9, mr10, mr21, mr22, mr23, mr25, mr26, mr29, mr30, mr32, mr33, mr34, mr43, mr47, mr53, mr54, mr55, mr56, sg, nmE]
        refine m_bad l (fun h1 f1 g1 => ?_)
        simp (disch := first | assumption | omega) only [p_some, p_gd, p_br, p_bi, p_nm, p_mp, p_Sl, p_Sr, p_bis, p_gdt, Nat.not_lt_zero, Nat.reduceEqDiff, Nat.reduceLT, Nat.reduceLeDiff, true_and, and_true, true_implies, false_implies, not_true_eq_false, not_false_eq_true, implies_true, and_self, ne_eq, decide_true, decide_false, Bool.not_true, Bool.not_false, if_true, if_false, reduceIte, s_yb0]
        by_cases c2 : t.1 = 2
        · rw [if_pos c2, if_neg ck] at k0
          exact k0 h1 _ rfl f1 g1
        · rw [if_neg c2] at k2
          exact k2 h1 (set, t) rfl c59 f1 g1
theorem m_line {by8 : Nat → Nat} {L lim : Nat} {h : z_T} {t : Nat × Nat × Nat × Nat} {bk nm : Nat → Nat} {told : Nat} {Q : Int32 × z_T → Prop} (l : mL by8 L lim h t) (B : BKS bk nm told) (R : mBr h bk nm told)
    (k0 : ∀ h' e, a_line (a_ne by8 L lim) bk nm told t = .inl e → m_fr mBf h h' → mF h' e → Q (nI 0, h')) (k2 : ∀ h' w, a_line (a_ne by8 L lim) bk nm told t = .inr w → ¬ w.2.1 = 59 → m_fr mBf h h' → mF h' (1, w.2.2.2.1) → Q (nI 0, h')) (k1 : ∀ h' w, a_line (a_ne by8 L lim) bk nm told t = .inr w → m_fr mBf h h' → mSg by8 L lim h' w → Q (nI 1, h')) : p_W (fX12_line 0 h) Q := by
  obtain ⟨b, N, ht⟩ := B
  have s := l.1
  have h8 := b.1
  have h6 := b.2.1
  have on := m_onceOf l
  have w1 := m_isWord l (i := 1) (W := 1952805748) (by decide) (by decide) (by decide)
  have w2 := m_isWord l (i := 2) (W := 431415976301) (by decide) (by decide) (by decide)
  have s10 : (nI 1 = nI 0) = False := by decide
  have hB0 := R.1 0 (by decide)
  have hB1 := R.1 1 (by decide)
  unfold a_line at k0 k1 k2
  unfold fX12_line
  by_cases c4 : 4 ≤ a_kk t ∧ a_kk t ≤ 9
  · rw [if_pos c4] at on
    rw [if_neg (by omega), if_neg (by omega), if_pos c4] at k0 k1
    obtain ⟨k, hk⟩ : ∃ k, a_kk t - 4 = k := ⟨_, rfl⟩
    rw [hk] at on k0 k1
    simp (disch := first | assumption | omega) only [p_some, p_gd, p_br, p_bi, p_nm, p_mp, p_Sl, p_Sr, p_bis, p_gdt, Nat.not_lt_zero, Nat.reduceEqDiff, Nat.reduceLT, Nat.reduceLeDiff, true_and, and_true, true_implies, false_implies, not_true_eq_false, not_false_eq_true, implies_true, and_self, ne_eq, decide_true, decide_false, Bool.not_true, Bool.not_false, if_true, if_false, reduceIte, mk0 s, on, r_lit, nI_ltI, Nat.not_lt_zero]
    refine m_readOnce l b R (by omega) ht (by have := a_kk1 (t := t) (by omega); omega) (fun h1 e q f g => ?_) (fun h1 w q f g => ?_)
    · simp (disch := first | assumption | omega) only [p_some, p_gd, p_br, p_bi, p_nm, p_mp, p_Sl, p_Sr, p_bis, p_gdt, Nat.not_lt_zero, Nat.reduceEqDiff, Nat.reduceLT, Nat.reduceLeDiff, true_and, and_true, true_implies, false_implies, not_true_eq_false, not_false_eq_true, implies_true, and_self, ne_eq, decide_true, decide_false, Bool.not_true, Bool.not_false, if_true, if_false, reduceIte, s_yb0]
      exact k0 h1 e q f g
    · simp (disch := first | assumption | omega) only [p_some, p_gd, p_br, p_bi, p_nm, p_mp, p_Sl, p_Sr, p_bis, p_gdt, Nat.not_lt_zero, Nat.reduceEqDiff, Nat.reduceLT, Nat.reduceLeDiff, true_and, and_true, true_implies, false_implies, not_true_eq_false, not_false_eq_true, implies_true, and_self, ne_eq, decide_true, decide_false, Bool.not_true, Bool.not_false, if_true, if_false, reduceIte, s_yb1]
      exact k1 h1 w q f g
  · rw [if_neg c4] at on
    by_cases ck2 : a_kk t = 2
    · have c2 := a_kk1 (t := t) (by omega)
      rw [if_pos ck2] at k0 k1
      rw [bI_t (show a_kk t = 1 + 1 by omega)] at w1
      unfold a_lnT at k0 k1
      simp (disch := first | assumption | omega) only [p_some, p_gd, p_br, p_bi, p_nm, p_mp, p_Sl, p_Sr, p_bis, p_gdt, q_IL, q_IR, q_LI, q_LR, q_RI, q_RL, q_KI, q_KL, q_KR, q_NI, q_NL, q_NR, q_nI, q_nL, q_nR, q_okI, q_okL, q_okR, q_Ie, q_In, q_Le, q_Ln, SM_I, SM_L, s_c0, s_cg0, s_cl0, s_cge, s_cle, r_le, r_lt, r_eq, r_md, r_2, r_3, r_lit, r_litL, r_m1, nI_add, nI_1, nI_clamp, nI_leI, nI_ltI, nI_eq, pk_sub, q_ix, nI_l, lN_add, lN_mul, r_m1n, r_m1n', r_m1lt, r_m1nlt, r_m1le, r_m1nle, Nat.not_lt_zero, Nat.reduceEqDiff, Nat.reduceLT, Nat.reduceLeDiff, true_and, and_true, true_implies, false_implies, not_true_eq_false, not_false_eq_true, implies_true, and_self, ne_eq, decide_true, decide_false, Bool.not_true, Bool.not_false, if_true, if_false, reduceIte, mk0, mk1, mk2, mk3, mk4, mk5, mk6, mk7, mk8, mk9, mk10, mk11, mk12, mk13, mk14, mk15, mk16, mk17, mk18, mk19, mk20, mk21, mk22, mn1, mn2, mn3, mn4, mn5, mn6, mn7, mn8, mn9, mn10, mn11, mn12, mn13, mn14, mn15, mn16, mn17, mn18, mn19, mn20, mn21, mn22, mr1, mr6, mr7, mr8, mr9, mr10, mr21, mr22, mr23, mr25, mr26, mr29, mr30, mr32, mr33, mr34, mr43, mr47, mr53, mr54, mr55, mr56, on, r_m1lt, w1, s10, hB0]
      refine ⟨fun c => ?_, fun c => ?_⟩
      · rw [if_pos c] at k0
        refine m_bad l (fun h1 f1 g1 => ?_)
        simp (disch := first | assumption | omega) only [p_some, p_gd, p_br, p_bi, p_nm, p_mp, p_Sl, p_Sr, p_bis, p_gdt, Nat.not_lt_zero, Nat.reduceEqDiff, Nat.reduceLT, Nat.reduceLeDiff, true_and, and_true, true_implies, false_implies, not_true_eq_false, not_false_eq_true, implies_true, and_self, ne_eq, decide_true, decide_false, Bool.not_true, Bool.not_false, if_true, if_false, reduceIte, s_yb0]
        exact k0 h1 _ rfl (mBf.gf f1) g1
      · rw [if_neg c] at k0 k1
        refine m_goL l (by omega) (fun h1 f1 l1 => ?_)
        have s1 := l1.1
        have R1 := R.fr (mGF.go f1)
        have F1 := mBf.gf (mGF.go f1)
        simp (disch := first | assumption | omega) only [p_some, p_gd, p_br, p_bi, p_nm, p_mp, p_Sl, p_Sr, p_bis, p_gdt, q_IL, q_IR, q_LI, q_LR, q_RI, q_RL, q_KI, q_KL, q_KR, q_NI, q_NL, q_NR, q_nI, q_nL, q_nR, q_okI, q_okL, q_okR, q_Ie, q_In, q_Le, q_Ln, SM_I, SM_L, s_c0, s_cg0, s_cl0, s_cge, s_cle, r_le, r_lt, r_eq, r_md, r_2, r_3, r_lit, r_litL, r_m1, nI_add, nI_1, nI_clamp, nI_leI, nI_ltI, nI_eq, pk_sub, q_ix, nI_l, lN_add, lN_mul, r_m1n, r_m1n', r_m1lt, r_m1nlt, r_m1le, r_m1nle, Nat.not_lt_zero, Nat.reduceEqDiff, Nat.reduceLT, Nat.reduceLeDiff, true_and, and_true, true_implies, false_implies, not_true_eq_false, not_false_eq_true, implies_true, and_self, ne_eq, decide_true, decide_false, Bool.not_true, Bool.not_false, if_true, if_false, reduceIte, mk0, mk1, mk2, mk3, mk4, mk5, mk6, mk7, mk8, mk9, mk10, mk11, mk12, mk13, mk14, mk15, mk16, mk17, mk18, mk19, mk20, mk21, mk22, mn1, mn2, mn3, mn4, mn5, mn6, mn7, mn8, mn9, mn10, mn11, mn12, mn13, mn14, mn15, mn16, mn17, mn18, mn19, mn20, mn21, mn22, mr1, mr6, mr7, mr8, mr9, mr10, mr21, mr22, mr23, mr25, mr26, mr29, mr30, mr32, mr33, mr34, mr43, mr47, mr53, mr54, mr55, mr56]
        refine m_fresh l1 b N R1 (by omega) (fun h2 e q f g => ?_) (fun h2 q q2 f g l2 => ?_)
        · simp (disch := first | assumption | omega) only [p_some, p_gd, p_br, p_bi, p_nm, p_mp, p_Sl, p_Sr, p_bis, p_gdt, Nat.not_lt_zero, Nat.reduceEqDiff, Nat.reduceLT, Nat.reduceLeDiff, true_and, and_true, true_implies, false_implies, not_true_eq_false, not_false_eq_true, implies_true, and_self, ne_eq, decide_true, decide_false, Bool.not_true, Bool.not_false, if_true, if_false, reduceIte, r_lit]
          exact k0 h2 e (by rw [q, a_bdl]) (F1.tr (mBf.gf f)) g
        · have s2 := l2.1
          have F2 := F1.tr (f.w (C' := mBf) (fun o k c => ⟨c.1, by have := c.2.2.2; omega⟩))
          have B2 : ∀ k, k < 36 → z_I h2 3 k = nI (bk k) := fun k hk => (f.I 3 k (by unfold mGF; omega)).trans (R1.1 k hk)
          simp (disch := first | assumption | omega) only [p_some, p_gd, p_br, p_bi, p_nm, p_mp, p_Sl, p_Sr, p_bis, p_gdt, q_IL, q_IR, q_LI, q_LR, q_RI, q_RL, q_KI, q_KL, q_KR, q_NI, q_NL, q_NR, q_nI, q_nL, q_nR, q_okI, q_okL, q_okR, q_Ie, q_In, q_Le, q_Ln, SM_I, SM_L, s_c0, s_cg0, s_cl0, s_cge, s_cle, r_le, r_lt, r_eq, r_md, r_2, r_3, r_lit, r_litL, r_m1, nI_add, nI_1, nI_clamp, nI_leI, nI_ltI, nI_eq, pk_sub, q_ix, nI_l, lN_add, lN_mul, r_m1n, r_m1n', r_m1lt, r_m1nlt, r_m1le, r_m1nle, Nat.not_lt_zero, Nat.reduceEqDiff, Nat.reduceLT, Nat.reduceLeDiff, true_and, and_true, true_implies, false_implies, not_true_eq_false, not_false_eq_true, implies_true, and_self, ne_eq, decide_true, decide_false, Bool.not_true, Bool.not_false, if_true, if_false, reduceIte, mk0, mk1, mk2, mk3, mk4, mk5, mk6, mk7, mk8, mk9, mk10, mk11, mk12, mk13, mk14, mk15, mk16, mk17, mk18, mk19, mk20, mk21, mk22, mn1, mn2, mn3, mn4, mn5, mn6, mn7, mn8, mn9, mn10, mn11, mn12, mn13, mn14, mn15, mn16, mn17, mn18, mn19, mn20, mn21, mn22, mr1, mr6, mr7, mr8, mr9, mr10, mr21, mr22, mr23, mr25, mr26, mr29, mr30, mr32, mr33, mr34, mr43, mr47, mr53, mr54, mr55, mr56, s10]
          rw [q] at k0 k1
          rw [a_bdr] at k0 k1
          refine m_takesB (lo := 0) (hi := 9) l2 (by omega) (by omega) (fun h3 e q f g => ?_) (fun h3 q r9 f3 l3 g3 => ?_)
          · simp (disch := first | assumption | omega) only [p_some, p_gd, p_br, p_bi, p_nm, p_mp, p_Sl, p_Sr, p_bis, p_gdt, Nat.not_lt_zero, Nat.reduceEqDiff, Nat.reduceLT, Nat.reduceLeDiff, true_and, and_true, true_implies, false_implies, not_true_eq_false, not_false_eq_true, implies_true, and_self, ne_eq, decide_true, decide_false, Bool.not_true, Bool.not_false, if_true, if_false, reduceIte, r_lit]
            exact k0 h3 e (by rw [q, a_bdl]) (F2.tr (mBf.gf f)) g
          · have s3 := l3.1
            simp (disch := first | assumption | omega) only [p_some, p_gd, p_br, p_bi, p_nm, p_mp, p_Sl, p_Sr, p_bis, p_gdt, q_IL, q_IR, q_LI, q_LR, q_RI, q_RL, q_KI, q_KL, q_KR, q_NI, q_NL, q_NR, q_nI, q_nL, q_nR, q_okI, q_okL, q_okR, q_Ie, q_In, q_Le, q_Ln, SM_I, SM_L, s_c0, s_cg0, s_cl0, s_cge, s_cle, r_le, r_lt, r_eq, r_md, r_2, r_3, r_lit, r_litL, r_m1, nI_add, nI_1, nI_clamp, nI_leI, nI_ltI, nI_eq, pk_sub, q_ix, nI_l, lN_add, lN_mul, r_m1n, r_m1n', r_m1lt, r_m1nlt, r_m1le, r_m1nle, Nat.not_lt_zero, Nat.reduceEqDiff, Nat.reduceLT, Nat.reduceLeDiff, true_and, and_true, true_implies, false_implies, not_true_eq_false, not_false_eq_true, implies_true, and_self, ne_eq, decide_true, decide_false, Bool.not_true, Bool.not_false, if_true, if_false, reduceIte, mk0, mk1, mk2, mk3, mk4, mk5, mk6, mk7, mk8, mk9, mk10, mk11, mk12, mk13, mk14, mk15, mk16, mk17, mk18, mk19, mk20, mk21, mk22, mn1, mn2, mn3, mn4, mn5, mn6, mn7, mn8, mn9, mn10, mn11, mn12, mn13, mn14, mn15, mn16, mn17, mn18, mn19, mn20, mn21, mn22, mr1, mr6, mr7, mr8, mr9, mr10, mr21, mr22, mr23, mr25, mr26, mr29, mr30, mr32, mr33, mr34, mr43, mr47, mr53, mr54, mr55, mr56, s10, g3]
            rw [q] at k0 k1
            rw [a_bdr] at k0 k1
            have F3 : m_fr mBf h (z_sI h3 3 (8 + bk 0) (nI (a_ne by8 L lim (a_ne by8 L lim t)).2.1)) := (F2.tr (mBf.gf f3)).sI (by unfold mBf; omega)
            have l3' : mL by8 L lim (z_sI h3 3 (8 + bk 0) (nI (a_ne by8 L lim (a_ne by8 L lim t)).2.1)) _ := l3.fr (C := fun o k => o ≠ 3) (m_fr.rf.sI (by omega)) (fun o k c => by unfold mKt at c; omega)
            have B3 : ∀ k, k < 36 → z_I (z_sI h3 3 (8 + bk 0) (nI (a_ne by8 L lim (a_ne by8 L lim t)).2.1)) 3 k = nI (a_ud bk (8 + bk 0) (a_ne by8 L lim (a_ne by8 L lim t)).2.1 k) := fun k hk => by
              unfold a_ud
              by_cases e : k = 8 + bk 0
              · rw [if_pos e, q_Ie rfl e]
              · rw [if_neg e, q_In (by omega)]
                exact (f3.I 3 k (by unfold mGF; omega)).trans (B2 k hk)
            have L3 : ∀ k, z_L (z_sI h3 3 (8 + bk 0) (nI (a_ne by8 L lim (a_ne by8 L lim t)).2.1)) 5 k = z_L h2 5 k := fun k => f3.L 5 k (by unfold mGF; omega)
            have E3 : z_I (z_sI h3 3 (8 + bk 0) (nI (a_ne by8 L lim (a_ne by8 L lim t)).2.1)) 0 20 = nI told := (q_In (by omega)).trans ((f3.I 0 20 (by unfold mGF; omega)).trans ((f.I 0 20 ⟨by unfold mGF; omega, by omega⟩).trans R1.2.2.2))
            generalize z_sI h3 3 (8 + bk 0) (nI (a_ne by8 L lim (a_ne by8 L lim t)).2.1) = h3' at *
            refine m_takesB (lo := 0) (hi := 9) l3' (by omega) (by omega) (fun h4 e q f g => ?_) (fun h4 q d9 f4 l4 g4 => ?_)
            · simp (disch := first | assumption | omega) only [p_some, p_gd, p_br, p_bi, p_nm, p_mp, p_Sl, p_Sr, p_bis, p_gdt, Nat.not_lt_zero, Nat.reduceEqDiff, Nat.reduceLT, Nat.reduceLeDiff, true_and, and_true, true_implies, false_implies, not_true_eq_false, not_false_eq_true, implies_true, and_self, ne_eq, decide_true, decide_false, Bool.not_true, Bool.not_false, if_true, if_false, reduceIte, r_lit]
              exact k0 h4 e (by rw [q, a_bdl]) (F3.tr (mBf.gf f)) g
            · have s4 := l4.1
              have j0 : z_I h4 3 0 = nI (bk 0) := by
                rw [f4.I 3 0 (by unfold mGF; omega), B3 0 (by omega), a_ud_n (by omega)]
              simp (disch := first | assumption | omega) only [p_some, p_gd, p_br, p_bi, p_nm, p_mp, p_Sl, p_Sr, p_bis, p_gdt, q_IL, q_IR, q_LI, q_LR, q_RI, q_RL, q_KI, q_KL, q_KR, q_NI, q_NL, q_NR, q_nI, q_nL, q_nR, q_okI, q_okL, q_okR, q_Ie, q_In, q_Le, q_Ln, SM_I, SM_L, s_c0, s_cg0, s_cl0, s_cge, s_cle, r_le, r_lt, r_eq, r_md, r_2, r_3, r_lit, r_litL, r_m1, nI_add, nI_1, nI_clamp, nI_leI, nI_ltI, nI_eq, pk_sub, q_ix, nI_l, lN_add, lN_mul, r_m1n, r_m1n', r_m1lt, r_m1nlt, r_m1le, r_m1nle, Nat.not_lt_zero, Nat.reduceEqDiff, Nat.reduceLT, Nat.reduceLeDiff, true_and, and_true, true_implies, false_implies, not_true_eq_false, not_false_eq_true, implies_true, and_self, ne_eq, decide_true, decide_false, Bool.not_true, Bool.not_false, if_true, if_false, reduceIte, mk0, mk1, mk2, mk3, mk4, mk5, mk6, mk7, mk8, mk9, mk10, mk11, mk12, mk13, mk14, mk15, mk16, mk17, mk18, mk19, mk20, mk21, mk22, mn1, mn2, mn3, mn4, mn5, mn6, mn7, mn8, mn9, mn10, mn11, mn12, mn13, mn14, mn15, mn16, mn17, mn18, mn19, mn20, mn21, mn22, mr1, mr6, mr7, mr8, mr9, mr10, mr21, mr22, mr23, mr25, mr26, mr29, mr30, mr32, mr33, mr34, mr43, mr47, mr53, mr54, mr55, mr56, s10, g4, j0]
              rw [q] at k1
              rw [a_bdr] at k1
              have e20 : z_I h4 0 20 = nI told := (f4.I 0 20 (by unfold mGF; omega)).trans E3
              have L4 : ∀ k, z_L h4 5 k = z_L h2 5 k := fun k => (f4.L 5 k (by unfold mGF; omega)).trans (L3 k)
              refine k1 _ _ rfl (((F3.tr (mBf.gf f4)).sI (by unfold mBf; omega)).sI (by unfold mBf; omega)) ⟨l4.fr (C := fun o k => o ≠ 3) ((m_fr.rf.sI (by omega)).sI (by omega)) (fun o k c => by unfold mKt at c; omega), ⟨fun k hk => ?_, fun j hj => ?_, fun j hj => ?_, e20⟩⟩
              · have b4 := (f4.I 3 k (by unfold mGF; omega)).trans (B3 k hk)
                dsimp only
                by_cases e0 : k = 0
                · subst e0
                  rw [q_Ie rfl rfl, a_ud_e]
                · rw [q_In (by omega), a_ud_n e0]
                  by_cases e1 : k = 16 + bk 0
                  · subst e1
                    rw [q_Ie rfl rfl, a_ud_e]
                  · rw [q_In (by omega), a_ud_n e1]
                    exact b4
              · dsimp only at hj ⊢
                rw [a_ud_e] at hj
                show z_L h4 5 (14 + j) = _
                rw [L4]
                by_cases e0 : j = bk 0
                · subst e0
                  rw [a_ud_e]
                  exact g
                · rw [a_ud_n e0, f.L 5 _ ⟨by unfold mGF; omega, by omega⟩]
                  exact R1.2.1 j (by omega)
              · dsimp only at hj ⊢
                rw [a_ud_n (by omega), a_ud_n (by omega), a_ud_n (by omega)] at hj
                show z_L h4 5 (22 + j) = _
                rw [L4, a_ud_n (by omega), f.L 5 _ ⟨by unfold mGF; omega, by omega⟩]
                exact R1.2.2.1 j hj
    · rw [bI_f (show ¬ a_kk t = 1 + 1 by omega)] at w1
      by_cases ck3 : a_kk t = 3
      · have c2 := a_kk1 (t := t) (by omega)
        rw [if_neg ck2, if_pos ck3] at k0 k1 k2
        rw [bI_t (show a_kk t = 2 + 1 by omega)] at w2
        unfold a_lnD at k0 k1 k2
        simp (disch := first | assumption | omega) only [p_some, p_gd, p_br, p_bi, p_nm, p_mp, p_Sl, p_Sr, p_bis, p_gdt, q_IL, q_IR, q_LI, q_LR, q_RI, q_RL, q_KI, q_KL, q_KR, q_NI, q_NL, q_NR, q_nI, q_nL, q_nR, q_okI, q_okL, q_okR, q_Ie, q_In, q_Le, q_Ln, SM_I, SM_L, s_c0, s_cg0, s_cl0, s_cge, s_cle, r_le, r_lt, r_eq, r_md, r_2, r_3, r_lit, r_litL, r_m1, nI_add, nI_1, nI_clamp, nI_leI, nI_ltI, nI_eq, pk_sub, q_ix, nI_l, lN_add, lN_mul, r_m1n, r_m1n', r_m1lt, r_m1nlt, r_m1le, r_m1nle, Nat.not_lt_zero, Nat.reduceEqDiff, Nat.reduceLT, Nat.reduceLeDiff, true_and, and_true, true_implies, false_implies, not_true_eq_false, not_false_eq_true, implies_true, and_self, ne_eq, decide_true, decide_false, Bool.not_true, Bool.not_false, if_true, if_false, reduceIte, mk0, mk1, mk2, mk3, mk4, mk5, mk6, mk7, mk8, mk9, mk10, mk11, mk12, mk13, mk14, mk15, mk16, mk17, mk18, mk19, mk20, mk21, mk22, mn1, mn2, mn3, mn4, mn5, mn6, mn7, mn8, mn9, mn10, mn11, mn12, mn13, mn14, mn15, mn16, mn17, mn18, mn19, mn20, mn21, mn22, mr1, mr6, mr7, mr8, mr9, mr10, mr21, mr22, mr23, mr25, mr26, mr29, mr30, mr32, mr33, mr34, mr43, mr47, mr53, mr54, mr55, mr56, on, r_m1lt, w1, w2, s10, hB1]
        refine ⟨fun c => ?_, fun c => ?_⟩
        · rw [if_pos c] at k0
          refine m_bad l (fun h1 f1 g1 => ?_)
          simp (disch := first | assumption | omega) only [p_some, p_gd, p_br, p_bi, p_nm, p_mp, p_Sl, p_Sr, p_bis, p_gdt, Nat.not_lt_zero, Nat.reduceEqDiff, Nat.reduceLT, Nat.reduceLeDiff, true_and, and_true, true_implies, false_implies, not_true_eq_false, not_false_eq_true, implies_true, and_self, ne_eq, decide_true, decide_false, Bool.not_true, Bool.not_false, if_true, if_false, reduceIte, s_yb0]
          exact k0 h1 _ rfl (mBf.gf f1) g1
        · rw [if_neg c] at k0 k1 k2
          refine m_goL l (by omega) (fun h1 f1 l1 => ?_)
          have s1 := l1.1
          have R1 := R.fr (mGF.go f1)
          have F1 := mBf.gf (mGF.go f1)
          simp (disch := first | assumption | omega) only [p_some, p_gd, p_br, p_bi, p_nm, p_mp, p_Sl, p_Sr, p_bis, p_gdt, q_IL, q_IR, q_LI, q_LR, q_RI, q_RL, q_KI, q_KL, q_KR, q_NI, q_NL, q_NR, q_nI, q_nL, q_nR, q_okI, q_okL, q_okR, q_Ie, q_In, q_Le, q_Ln, SM_I, SM_L, s_c0, s_cg0, s_cl0, s_cge, s_cle, r_le, r_lt, r_eq, r_md, r_2, r_3, r_lit, r_litL, r_m1, nI_add, nI_1, nI_clamp, nI_leI, nI_ltI, nI_eq, pk_sub, q_ix, nI_l, lN_add, lN_mul, r_m1n, r_m1n', r_m1lt, r_m1nlt, r_m1le, r_m1nle, Nat.not_lt_zero, Nat.reduceEqDiff, Nat.reduceLT, Nat.reduceLeDiff, true_and, and_true, true_implies, false_implies, not_true_eq_false, not_false_eq_true, implies_true, and_self, ne_eq, decide_true, decide_false, Bool.not_true, Bool.not_false, if_true, if_false, reduceIte, mk0, mk1, mk2, mk3, mk4, mk5, mk6, mk7, mk8, mk9, mk10, mk11, mk12, mk13, mk14, mk15, mk16, mk17, mk18, mk19, mk20, mk21, mk22, mn1, mn2, mn3, mn4, mn5, mn6, mn7, mn8, mn9, mn10, mn11, mn12, mn13, mn14, mn15, mn16, mn17, mn18, mn19, mn20, mn21, mn22, mr1, mr6, mr7, mr8, mr9, mr10, mr21, mr22, mr23, mr25, mr26, mr29, mr30, mr32, mr33, mr34, mr43, mr47, mr53, mr54, mr55, mr56]
          refine m_fresh l1 b N R1 (by omega) (fun h2 e q f g => ?_) (fun h2 q q2 f g l2 => ?_)
          · simp (disch := first | assumption | omega) only [p_some, p_gd, p_br, p_bi, p_nm, p_mp, p_Sl, p_Sr, p_bis, p_gdt, Nat.not_lt_zero, Nat.reduceEqDiff, Nat.reduceLT, Nat.reduceLeDiff, true_and, and_true, true_implies, false_implies, not_true_eq_false, not_false_eq_true, implies_true, and_self, ne_eq, decide_true, decide_false, Bool.not_true, Bool.not_false, if_true, if_false, reduceIte, r_lit]
            exact k0 h2 e (by rw [q, a_bdl]) (F1.tr (mBf.gf f)) g
          · have s2 := l2.1
            have F2 := F1.tr (f.w (C' := mBf) (fun o k c => ⟨c.1, by have := c.2.2.2; omega⟩))
            have B2 : ∀ k, k < 36 → z_I h2 3 k = nI (bk k) := fun k hk => (f.I 3 k (by unfold mGF; omega)).trans (R1.1 k hk)
            simp (disch := first | assumption | omega) only [p_some, p_gd, p_br, p_bi, p_nm, p_mp, p_Sl, p_Sr, p_bis, p_gdt, q_IL, q_IR, q_LI, q_LR, q_RI, q_RL, q_KI, q_KL, q_KR, q_NI, q_NL, q_NR, q_nI, q_nL, q_nR, q_okI, q_okL, q_okR, q_Ie, q_In, q_Le, q_Ln, SM_I, SM_L, s_c0, s_cg0, s_cl0, s_cge, s_cle, r_le, r_lt, r_eq, r_md, r_2, r_3, r_lit, r_litL, r_m1, nI_add, nI_1, nI_clamp, nI_leI, nI_ltI, nI_eq, pk_sub, q_ix, nI_l, lN_add, lN_mul, r_m1n, r_m1n', r_m1lt, r_m1nlt, r_m1le, r_m1nle, Nat.not_lt_zero, Nat.reduceEqDiff, Nat.reduceLT, Nat.reduceLeDiff, true_and, and_true, true_implies, false_implies, not_true_eq_false, not_false_eq_true, implies_true, and_self, ne_eq, decide_true, decide_false, Bool.not_true, Bool.not_false, if_true, if_false, reduceIte, mk0, mk1, mk2, mk3, mk4, mk5, mk6, mk7, mk8, mk9, mk10, mk11, mk12, mk13, mk14, mk15, mk16, mk17, mk18, mk19, mk20, mk21, mk22, mn1, mn2, mn3, mn4, mn5, mn6, mn7, mn8, mn9, mn10, mn11, mn12, mn13, mn14, mn15, mn16, mn17, mn18, mn19, mn20, mn21, mn22, mr1, mr6, mr7, mr8, mr9, mr10, mr21, mr22, mr23, mr25, mr26, mr29, mr30, mr32, mr33, mr34, mr43, mr47, mr53, mr54, mr55, mr56, s10]
            rw [q] at k0 k1 k2
            rw [a_bdr] at k0 k1 k2
            refine m_takesB (lo := 1) (hi := 20) l2 (by omega) (by omega) (fun h3 e q f g => ?_) (fun h3 q r9 f3 l3 g3 => ?_)
            · simp (disch := first | assumption | omega) only [p_some, p_gd, p_br, p_bi, p_nm, p_mp, p_Sl, p_Sr, p_bis, p_gdt, Nat.not_lt_zero, Nat.reduceEqDiff, Nat.reduceLT, Nat.reduceLeDiff, true_and, and_true, true_implies, false_implies, not_true_eq_false, not_false_eq_true, implies_true, and_self, ne_eq, decide_true, decide_false, Bool.not_true, Bool.not_false, if_true, if_false, reduceIte, r_lit]
              exact k0 h3 e (by rw [q, a_bdl]) (F2.tr (mBf.gf f)) g
            · have s3 := l3.1
              simp (disch := first | assumption | omega) only [p_some, p_gd, p_br, p_bi, p_nm, p_mp, p_Sl, p_Sr, p_bis, p_gdt, q_IL, q_IR, q_LI, q_LR, q_RI, q_RL, q_KI, q_KL, q_KR, q_NI, q_NL, q_NR, q_nI, q_nL, q_nR, q_okI, q_okL, q_okR, q_Ie, q_In, q_Le, q_Ln, SM_I, SM_L, s_c0, s_cg0, s_cl0, s_cge, s_cle, r_le, r_lt, r_eq, r_md, r_2, r_3, r_lit, r_litL, r_m1, nI_add, nI_1, nI_clamp, nI_leI, nI_ltI, nI_eq, pk_sub, q_ix, nI_l, lN_add, lN_mul, r_m1n, r_m1n', r_m1lt, r_m1nlt, r_m1le, r_m1nle, Nat.not_lt_zero, Nat.reduceEqDiff, Nat.reduceLT, Nat.reduceLeDiff, true_and, and_true, true_implies, false_implies, not_true_eq_false, not_false_eq_true, implies_true, and_self, ne_eq, decide_true, decide_false, Bool.not_true, Bool.not_false, if_true, if_false, reduceIte, mk0, mk1, mk2, mk3, mk4, mk5, mk6, mk7, mk8, mk9, mk10, mk11, mk12, mk13, mk14, mk15, mk16, mk17, mk18, mk19, mk20, mk21, mk22, mn1, mn2, mn3, mn4, mn5, mn6, mn7, mn8, mn9, mn10, mn11, mn12, mn13, mn14, mn15, mn16, mn17, mn18, mn19, mn20, mn21, mn22, mr1, mr6, mr7, mr8, mr9, mr10, mr21, mr22, mr23, mr25, mr26, mr29, mr30, mr32, mr33, mr34, mr43, mr47, mr53, mr54, mr55, mr56, s10, g3]
              rw [q] at k0 k1 k2
              rw [a_bdr] at k0 k1 k2
              have F3 : m_fr mBf h (z_sI h3 3 (24 + bk 1) (nI (a_ne by8 L lim (a_ne by8 L lim t)).2.1)) := (F2.tr (mBf.gf f3)).sI (by unfold mBf; omega)
              have l3' : mL by8 L lim (z_sI h3 3 (24 + bk 1) (nI (a_ne by8 L lim (a_ne by8 L lim t)).2.1)) _ := l3.fr (C := fun o k => o ≠ 3) (m_fr.rf.sI (by omega)) (fun o k c => by unfold mKt at c; omega)
              have B3 : ∀ k, k < 36 → z_I (z_sI h3 3 (24 + bk 1) (nI (a_ne by8 L lim (a_ne by8 L lim t)).2.1)) 3 k = nI (a_ud bk (24 + bk 1) (a_ne by8 L lim (a_ne by8 L lim t)).2.1 k) := fun k hk => by
                unfold a_ud
                by_cases e : k = 24 + bk 1
                · rw [if_pos e, q_Ie rfl e]
                · rw [if_neg e, q_In (by omega)]
                  exact (f3.I 3 k (by unfold mGF; omega)).trans (B2 k hk)
              have L3 : ∀ k, z_L (z_sI h3 3 (24 + bk 1) (nI (a_ne by8 L lim (a_ne by8 L lim t)).2.1)) 5 k = z_L h2 5 k := fun k => f3.L 5 k (by unfold mGF; omega)
              have E3 : z_I (z_sI h3 3 (24 + bk 1) (nI (a_ne by8 L lim (a_ne by8 L lim t)).2.1)) 0 20 = nI told := (q_In (by omega)).trans ((f3.I 0 20 (by unfold mGF; omega)).trans ((f.I 0 20 ⟨by unfold mGF; omega, by omega⟩).trans R1.2.2.2))
              generalize z_sI h3 3 (24 + bk 1) (nI (a_ne by8 L lim (a_ne by8 L lim t)).2.1) = h3' at *
              unfold fX12_line_b202
              refine m_keptLoop (n := bk 0) (D := bk 1) (d := bk 1) (f := nm) h8 (by omega) h6 9 0 h3' _ (Nat.two_pow_pos _) (by decide) l3' (by rw [B3 0 (by omega), a_ud_n (by omega)]) (by rw [B3 1 (by omega), a_ud_n (by omega)]) (fun k hk => ⟨?_, (N.1 k hk).2⟩) (fun h4 e q f4 g4 => ?_) (fun h4 w q q2 f4 g4 => ?_) (fun h4 w q q2 q3 f4 l4 => ?_)
              · rw [L3, f.L 5 _ ⟨by unfold mGF; omega, by omega⟩]
                exact R1.2.1 k hk
              · exact k0 h4 e (by rw [q, a_bdl]) (F3.tr (mBf.gf f4)) g4
              · exact k2 h4 _ (by rw [q, a_bdr]) q2 (F3.tr (mBf.gf f4)) g4
              · have e20 : z_I h4 0 20 = nI told := (f4.I 0 20 (by unfold mGF; omega)).trans E3
                have L4 : ∀ k, z_L h4 5 k = z_L h2 5 k := fun k => (f4.L 5 k (by unfold mGF; omega)).trans (L3 k)
                rw [q, a_bdr] at k1
                refine k1 _ _ rfl (((F3.tr (mBf.gf f4)).sI (by unfold mBf; omega)).sI (by unfold mBf; omega)) ⟨l4.fr (C := fun o k => o ≠ 3) ((m_fr.rf.sI (by omega)).sI (by omega)) (fun o k c => by unfold mKt at c; omega), ⟨fun k hk => ?_, fun j hj => ?_, fun j hj => ?_, e20⟩⟩
                · have b4 := (f4.I 3 k (by unfold mGF; omega)).trans (B3 k hk)
                  dsimp only
                  by_cases e0 : k = 1
                  · subst e0
                    rw [q_Ie rfl rfl, a_ud_e]
                  · rw [q_In (by omega), a_ud_n e0]
                    by_cases e1 : k = 30 + bk 1
                    · subst e1
                      rw [q_Ie rfl rfl, a_ud_e]
                    · rw [q_In (by omega), a_ud_n e1]
                      exact b4
                · dsimp only at hj ⊢
                  rw [a_ud_n (by omega), a_ud_n (by omega), a_ud_n (by omega)] at hj
                  show z_L h4 5 (14 + j) = _
                  rw [L4, a_ud_n (by omega), f.L 5 _ ⟨by unfold mGF; omega, by omega⟩]
                  exact R1.2.1 j hj
                · dsimp only at hj ⊢
                  rw [a_ud_e] at hj
                  show z_L h4 5 (22 + j) = _
                  rw [L4]
                  by_cases e0 : j = bk 1
                  · subst e0
                    rw [a_ud_e]
                    exact g
                  · rw [a_ud_n (by omega), f.L 5 _ ⟨by unfold mGF; omega, by omega⟩]
                    exact R1.2.2.1 j (by omega)
      · rw [bI_f (show ¬ a_kk t = 2 + 1 by omega)] at w2
        rw [if_neg ck2, if_neg ck3, if_neg c4] at k0
        simp (disch := first | assumption | omega) only [p_some, p_gd, p_br, p_bi, p_nm, p_mp, p_Sl, p_Sr, p_bis, p_gdt, q_IL, q_IR, q_LI, q_LR, q_RI, q_RL, q_KI, q_KL, q_KR, q_NI, q_NL, q_NR, q_nI, q_nL, q_nR, q_okI, q_okL, q_okR, q_Ie, q_In, q_Le, q_Ln, SM_I, SM_L, s_c0, s_cg0, s_cl0, s_cge, s_cle, r_le, r_lt, r_eq, r_md, r_2, r_3, r_lit, r_litL, r_m1, nI_add, nI_1, nI_clamp, nI_leI, nI_ltI, nI_eq, pk_sub, q_ix, nI_l, lN_add, lN_mul, r_m1n, r_m1n', r_m1lt, r_m1nlt, r_m1le, r_m1nle, Nat.not_lt_zero, Nat.reduceEqDiff, Nat.reduceLT, Nat.reduceLeDiff, true_and, and_true, true_implies, false_implies, not_true_eq_false, not_false_eq_true, implies_true, and_self, ne_eq, decide_true, decide_false, Bool.not_true, Bool.not_false, if_true, if_false, reduceIte, mk0, mk1, mk2, mk3, mk4, mk5, mk6, mk7, mk8, mk9, mk10, mk11, mk12, mk13, mk14, mk15, mk16, mk17, mk18, mk19, mk20, mk21, mk22, mn1, mn2, mn3, mn4, mn5, mn6, mn7, mn8, mn9, mn10, mn11, mn12, mn13, mn14, mn15, mn16, mn17, mn18, mn19, mn20, mn21, mn22, mr1, mr6, mr7, mr8, mr9, mr10, mr21, mr22, mr23, mr25, mr26, mr29, mr30, mr32, mr33, mr34, mr43, mr47, mr53, mr54, mr55, mr56, on, r_m1lt, w1, w2]
        refine m_bad l (fun h1 f1 g1 => ?_)
        simp (disch := first | assumption | omega) only [p_some, p_gd, p_br, p_bi, p_nm, p_mp, p_Sl, p_Sr, p_bis, p_gdt, Nat.not_lt_zero, Nat.reduceEqDiff, Nat.reduceLT, Nat.reduceLeDiff, true_and, and_true, true_implies, false_implies, not_true_eq_false, not_false_eq_true, implies_true, and_self, ne_eq, decide_true, decide_false, Bool.not_true, Bool.not_false, if_true, if_false, reduceIte, s_yb0]
        exact k0 h1 _ rfl (mBf.gf f1) g1
