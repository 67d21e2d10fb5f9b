/-! the reference reads a line of nights -/
theorem m_nightLine {by8 : Nat → Nat} {L lim : Nat} {h : z_T} {t : Nat × Nat × Nat × Nat} {bk nm : Nat → Nat} {n asked : Nat} {Q : Int32 × z_T → Prop} (l : mL by8 L lim h t) (b : BOK bk) (hB : mB h bk) (N : NMO bk nm) (M : mNm h bk nm) (hn : n ≤ 40) (has : asked ≤ 12) (h41 : z_I h 0 41 = nI n) (h42 : z_I h 0 42 = nI asked)
    (k0 : ∀ h' e, a_ntL (a_ne by8 L lim) bk nm n asked t = .inl e → m_fr (mNf n) h h' → mF h' e → Q (nI 0, h')) (k1 : ∀ h' w, a_ntL (a_ne by8 L lim) bk nm n asked t = .inr w → n < 40 → m_fr (mNf n) h h' → mNt by8 L lim n h' w → Q (nI 1, h')) : p_W (fX12_nightLine 0 h) Q := by
  have s := l.1
  have h8 := b.1
  have h6 := b.2.1
  have s10 : (nI 1 = nI 0) = False := by decide
  have w9 := m_isWord l (i := 9) (W := 26990) (by decide) (by decide) (by decide)
  have w12 := m_isWord l (i := 12) (W := 30064) (by decide) (by decide) (by decide)
  have w13 := m_isWord l (i := 13) (W := 6448484) (by decide) (by decide) (by decide)
  have nmE := m_isName l
  have hB0 := hB 0 (by decide)
  have bad : ∀ F, a_ntL (a_ne by8 L lim) bk nm n asked t = .inl (F, t.2.2.1) → p_W (fX12_bad 0 (nI F) h) (fun a => y_b a.1 = true ∧ Q (a.1, a.2)) := fun F e => m_bad l (fun h1 f1 g1 => ⟨s_yb0, k0 h1 _ e (mNf.gf f1) g1⟩)
  have ek : a_ntL (a_ne by8 L lim) bk nm n asked t = if a_kk t = 10 then (if n = 40 then .inl (4, t.2.2.1) else a_ntI (a_ne by8 L lim) bk nm (a_ne by8 L lim t))
  else if n = 0 then .inl (1, t.2.2.1)
  else if a_kk t = 13 then (if n = 40 then .inl (4, t.2.2.1) else .inr (2, 0, asked, a_ne by8 L lim t))
  else if a_kk t = 14 then (if n = 40 then .inl (4, t.2.2.1) else .inr (3, 0, asked, a_ne by8 L lim t))
  else if a_kk t = 1 then (if a_fx nm (bk 0) t.2.1 < bk 0 then (if n = 40 ∨ asked = 12 then .inl (4, t.2.2.1) else a_ntA (a_ne by8 L lim) (a_fx nm (bk 0) t.2.1) asked (a_ne by8 L lim t)) else .inl (3, t.2.2.1)) else .inl (1, t.2.2.1) := rfl
  unfold fX12_nightLine
  by_cases c10 : a_kk t = 10
  · rw [bI_t (show a_kk t = 9 + 1 by omega)] at w9
    rw [if_pos c10] at ek
    have t2 : 2 ≤ t.1 := by have := a_kk1 (t := t) (by omega); omega
    simp (disch := first | assumption | omega) only [p_some, p_gd, p_br, p_bi, p_nm, p_mp, p_Sl, p_Sr, p_bis, p_gdt, q_IL, q_IR, q_LI, q_LR, q_RI, q_RL, q_KI, q_KL, q_KR, q_NI, q_NL, q_NR, q_nI, q_nL, q_nR, q_okI, q_okL, q_okR, q_Ie, q_In, q_Le, q_Ln, SM_I, SM_L, s_c0, s_cg0, s_cl0, s_cge, s_cle, r_le, r_lt, r_eq, r_md, r_2, r_3, r_lit, r_litL, r_m1, nI_add, nI_1, nI_clamp, nI_leI, nI_ltI, nI_eq, pk_sub, q_ix, nI_l, lN_add, lN_mul, r_m1n, r_m1n', r_m1lt, r_m1nlt, r_m1le, r_m1nle, Nat.not_lt_zero, Nat.reduceEqDiff, Nat.reduceLT, Nat.reduceLeDiff, true_and, and_true, true_implies, false_implies, not_true_eq_false, not_false_eq_true, implies_true, and_self, ne_eq, decide_true, decide_false, Bool.not_true, Bool.not_false, if_true, if_false, reduceIte, mk0, mk1, mk2, mk3, mk4, mk5, mk6, mk7, mk8, mk9, mk10, mk11, mk12, mk13, mk14, mk15, mk16, mk17, mk18, mk19, mk20, mk21, mk22, mn1, mn2, mn3, mn4, mn5, mn6, mn7, mn8, mn9, mn10, mn11, mn12, mn13, mn14, mn15, mn16, mn17, mn18, mn19, mn20, mn21, mn22, mr1, mr6, mr7, mr8, mr9, mr10, mr21, mr22, mr23, mr25, mr26, mr29, mr30, mr32, mr33, mr34, mr43, mr47, mr53, mr54, mr55, mr56, w9, s10, h41, pk_mul]
    refine ⟨fun c => ?_, fun c => ?_⟩
    · rw [if_pos c] at ek
      exact bad 4 ek
    · rw [if_neg c] at ek
      rw [ek] at k0 k1
      clear bad
      refine m_goL l t2 (fun h1 f1 l1 => ?_)
      have s1 := l1.1
      have f2 : m_fr (mNf n) h1 (z_sI (z_sI (z_sI h1 4 (2 * n) (nI 0)) 4 (2 * n + 1) (nI 0)) 0 42 (nI 0)) := ((m_fr.rf.sI (by unfold mNf; omega)).sI (by unfold mNf; omega)).sI (by unfold mNf; omega)
      have l2 : mL by8 L lim (z_sI (z_sI (z_sI h1 4 (2 * n) (nI 0)) 4 (2 * n + 1) (nI 0)) 0 42 (nI 0)) (a_ne by8 L lim t) := l1.fr (C := fun o k => o ≠ 4 ∧ (o ≠ 0 ∨ k ≠ 42)) (((m_fr.rf.sI (by omega)).sI (by omega)).sI (by omega)) (fun o k c => by unfold mKt at c; omega)
      have j0 : z_I (z_sI (z_sI (z_sI h1 4 (2 * n) (nI 0)) 4 (2 * n + 1) (nI 0)) 0 42 (nI 0)) 4 (2 * n) = nI 0 := by rw [q_In (by omega), q_In (by omega), q_Ie rfl rfl]
      have j1 : z_I (z_sI (z_sI (z_sI h1 4 (2 * n) (nI 0)) 4 (2 * n + 1) (nI 0)) 0 42 (nI 0)) 4 (2 * n + 1) = nI 0 := by rw [q_In (by omega), q_Ie rfl rfl]
      have j2 : z_I (z_sI (z_sI (z_sI h1 4 (2 * n) (nI 0)) 4 (2 * n + 1) (nI 0)) 0 42 (nI 0)) 0 42 = nI 0 := q_Ie rfl rfl
      simp (disch := first | assumption | omega) only [p_some, p_gd, p_br, p_bi, p_nm, p_mp, p_Sl, p_Sr, p_bis, p_gdt, q_IL, q_IR, q_LI, q_LR, q_RI, q_RL, q_KI, q_KL, q_KR, q_NI, q_NL, q_NR, q_nI, q_nL, q_nR, q_okI, q_okL, q_okR, q_Ie, q_In, q_Le, q_Ln, SM_I, SM_L, s_c0, s_cg0, s_cl0, s_cge, s_cle, r_le, r_lt, r_eq, r_md, r_2, r_3, r_lit, r_litL, r_m1, nI_add, nI_1, nI_clamp, nI_leI, nI_ltI, nI_eq, pk_sub, q_ix, nI_l, lN_add, lN_mul, r_m1n, r_m1n', r_m1lt, r_m1nlt, r_m1le, r_m1nle, Nat.not_lt_zero, Nat.reduceEqDiff, Nat.reduceLT, Nat.reduceLeDiff, true_and, and_true, true_implies, false_implies, not_true_eq_false, not_false_eq_true, implies_true, and_self, ne_eq, decide_true, decide_false, Bool.not_true, Bool.not_false, if_true, if_false, reduceIte, mk0, mk1, mk2, mk3, mk4, mk5, mk6, mk7, mk8, mk9, mk10, mk11, mk12, mk13, mk14, mk15, mk16, mk17, mk18, mk19, mk20, mk21, mk22, mn1, mn2, mn3, mn4, mn5, mn6, mn7, mn8, mn9, mn10, mn11, mn12, mn13, mn14, mn15, mn16, mn17, mn18, mn19, mn20, mn21, mn22, mr1, mr6, mr7, mr8, mr9, mr10, mr21, mr22, mr23, mr25, mr26, mr29, mr30, mr32, mr33, mr34, mr43, mr47, mr53, mr54, mr55, mr56]
      have F2 : m_fr (mNf n) h (z_sI (z_sI (z_sI h1 4 (2 * n) (nI 0)) 4 (2 * n + 1) (nI 0)) 0 42 (nI 0)) := (mNf.gf (mGF.go f1)).tr f2
      generalize z_sI (z_sI (z_sI h1 4 (2 * n) (nI 0)) 4 (2 * n + 1) (nI 0)) 0 42 (nI 0) = h2 at *
      have s2 := l2.1
      have v3 := m_isWord l2 (i := 3) (W := 1919905645) (by decide) (by decide) (by decide)
      have nm2 := m_isName l2
      have hB1 : z_I h1 2 1 = nI (bk 1) := (f1.I 2 1 (by unfold mGo; omega)).trans (hB 1 (by decide))
      unfold a_ntI at k0 k1
      by_cases c4 : a_kk (a_ne by8 L lim t) = 4
      · rw [bI_t (show a_kk (a_ne by8 L lim t) = 3 + 1 by omega)] at v3
        rw [if_pos c4] at k1
        simp (disch := first | assumption | omega) only [p_some, p_gd, p_br, p_bi, p_nm, p_mp, p_Sl, p_Sr, p_bis, p_gdt, Nat.not_lt_zero, Nat.reduceEqDiff, Nat.reduceLT, Nat.reduceLeDiff, true_and, and_true, true_implies, false_implies, not_true_eq_false, not_false_eq_true, implies_true, and_self, ne_eq, decide_true, decide_false, Bool.not_true, Bool.not_false, if_true, if_false, reduceIte, r_litL, v3, s10]
        refine m_goL l2 (by have := a_kk1 (t := a_ne by8 L lim t) (by omega); omega) (fun h3 f3 l3 => ?_)
        exact k1 h3 _ rfl (by omega) (F2.tr (mNf.gf (mGF.go f3))) ⟨l3, (f3.I 0 42 (by unfold mGo; omega)).trans j2, (f3.I 4 _ (by unfold mGo; omega)).trans j0, fun _ => (f3.I 4 _ (by unfold mGo; omega)).trans j1⟩
      · rw [bI_f (show ¬ a_kk (a_ne by8 L lim t) = 3 + 1 by omega)] at v3
        rw [if_neg c4] at k0 k1
        by_cases c1 : a_kk (a_ne by8 L lim t) = 1
        · have c2 := a_kk1 (t := a_ne by8 L lim t) (by omega)
          rw [bI_t c1] at nm2
          rw [if_pos c1] at k0 k1
          have fd := m_find (from0 := 8) (n := bk 1) (f := fun d => nm (8 + d)) l2 c2 (fun k hk => ⟨(F2.L 5 _ (by unfold mNf mGF; omega)).trans (M.2 k hk), (N.2 k hk).2⟩) (by omega)
          rw [a_fi_fx] at fd
          by_cases cF : a_fx (fun d => nm (8 + d)) (bk 1) (a_ne by8 L lim t).2.1 < bk 1
          · rw [if_pos cF] at fd k1
            generalize a_fx (fun d => nm (8 + d)) (bk 1) (a_ne by8 L lim t).2.1 = D at *
            have f4 : m_fr (mNf n) h2 (z_sI h2 4 (2 * n + 1) (nI (D + 1))) := m_fr.rf.sI (by unfold mNf; omega)
            have l4 : mL by8 L lim (z_sI h2 4 (2 * n + 1) (nI (D + 1))) (a_ne by8 L lim t) := l2.fr (C := fun o k => o ≠ 4) (m_fr.rf.sI (by omega)) (fun o k c => by unfold mKt at c; omega)
            have i1 : z_I (z_sI h2 4 (2 * n + 1) (nI (D + 1))) 4 (2 * n + 1) = nI (D + 1) := q_Ie rfl rfl
            have i0 : z_I (z_sI h2 4 (2 * n + 1) (nI (D + 1))) 4 (2 * n) = nI 0 := (q_In (by omega)).trans j0
            have i2 : z_I (z_sI h2 4 (2 * n + 1) (nI (D + 1))) 0 42 = nI 0 := (q_In (by omega)).trans j2
            simp (disch := first | assumption | omega) only [p_some, p_gd, p_br, p_bi, p_nm, p_mp, p_Sl, p_Sr, p_bis, p_gdt, q_IL, q_IR, q_LI, q_LR, q_RI, q_RL, q_KI, q_KL, q_KR, q_NI, q_NL, q_NR, q_nI, q_nL, q_nR, q_okI, q_okL, q_okR, q_Ie, q_In, q_Le, q_Ln, SM_I, SM_L, s_c0, s_cg0, s_cl0, s_cge, s_cle, r_le, r_lt, r_eq, r_md, r_2, r_3, r_lit, r_litL, r_m1, nI_add, nI_1, nI_clamp, nI_leI, nI_ltI, nI_eq, pk_sub, q_ix, nI_l, lN_add, lN_mul, r_m1n, r_m1n', r_m1lt, r_m1nlt, r_m1le, r_m1nle, Nat.not_lt_zero, Nat.reduceEqDiff, Nat.reduceLT, Nat.reduceLeDiff, true_and, and_true, true_implies, false_implies, not_true_eq_false, not_false_eq_true, implies_true, and_self, ne_eq, decide_true, decide_false, Bool.not_true, Bool.not_false, if_true, if_false, reduceIte, mk0, mk1, mk2, mk3, mk4, mk5, mk6, mk7, mk8, mk9, mk10, mk11, mk12, mk13, mk14, mk15, mk16, mk17, mk18, mk19, mk20, mk21, mk22, mn1, mn2, mn3, mn4, mn5, mn6, mn7, mn8, mn9, mn10, mn11, mn12, mn13, mn14, mn15, mn16, mn17, mn18, mn19, mn20, mn21, mn22, mr1, mr6, mr7, mr8, mr9, mr10, mr21, mr22, mr23, mr25, mr26, mr29, mr30, mr32, mr33, mr34, mr43, mr47, mr53, mr54, mr55, mr56, v3, nm2, s10, hB1, fd, Nat.zero_le]
            generalize z_sI h2 4 (2 * n + 1) (nI (D + 1)) = h4 at *
            refine m_goL l4 (by omega) (fun h3 f3 l3 => ?_)
            exact k1 h3 _ rfl (by omega) ((F2.tr f4).tr (mNf.gf (mGF.go f3))) ⟨l3, (f3.I 0 42 (by unfold mGo; omega)).trans i2, (f3.I 4 _ (by unfold mGo; omega)).trans i0, fun _ => (f3.I 4 _ (by unfold mGo; omega)).trans i1⟩
          · rw [if_neg cF] at fd k0
            simp (disch := first | assumption | omega) only [p_some, p_gd, p_br, p_bi, p_nm, p_mp, p_Sl, p_Sr, p_bis, p_gdt, q_IL, q_IR, q_LI, q_LR, q_RI, q_RL, q_KI, q_KL, q_KR, q_NI, q_NL, q_NR, q_nI, q_nL, q_nR, q_okI, q_okL, q_okR, q_Ie, q_In, q_Le, q_Ln, SM_I, SM_L, s_c0, s_cg0, s_cl0, s_cge, s_cle, r_le, r_lt, r_eq, r_md, r_2, r_3, r_lit, r_litL, r_m1, nI_add, nI_1, nI_clamp, nI_leI, nI_ltI, nI_eq, pk_sub, q_ix, nI_l, lN_add, lN_mul, r_m1n, r_m1n', r_m1lt, r_m1nlt, r_m1le, r_m1nle, Nat.not_lt_zero, Nat.reduceEqDiff, Nat.reduceLT, Nat.reduceLeDiff, true_and, and_true, true_implies, false_implies, not_true_eq_false, not_false_eq_true, implies_true, and_self, ne_eq, decide_true, decide_false, Bool.not_true, Bool.not_false, if_true, if_false, reduceIte, mk0, mk1, mk2, mk3, mk4, mk5, mk6, mk7, mk8, mk9, mk10, mk11, mk12, mk13, mk14, mk15, mk16, mk17, mk18, mk19, mk20, mk21, mk22, mn1, mn2, mn3, mn4, mn5, mn6, mn7, mn8, mn9, mn10, mn11, mn12, mn13, mn14, mn15, mn16, mn17, mn18, mn19, mn20, mn21, mn22, mr1, mr6, mr7, mr8, mr9, mr10, mr21, mr22, mr23, mr25, mr26, mr29, mr30, mr32, mr33, mr34, mr43, mr47, mr53, mr54, mr55, mr56, v3, nm2, s10, hB1, fd, r_m1nle]
            refine m_bad l2 (fun h3 f3 g3 => ?_)
            simp (disch := first | assumption | omega) only [p_some, p_gd, p_br, p_bi, p_nm, p_mp, p_Sl, p_Sr, p_bis, p_gdt, Nat.not_lt_zero, Nat.reduceEqDiff, Nat.reduceLT, Nat.reduceLeDiff, true_and, and_true, true_implies, false_implies, not_true_eq_false, not_false_eq_true, implies_true, and_self, ne_eq, decide_true, decide_false, Bool.not_true, Bool.not_false, if_true, if_false, reduceIte, s_yb0]
            exact k0 h3 _ rfl (F2.tr (mNf.gf f3)) g3
        · rw [bI_f c1] at nm2
          rw [if_neg c1] at k0
          simp (disch := first | assumption | omega) only [p_some, p_gd, p_br, p_bi, p_nm, p_mp, p_Sl, p_Sr, p_bis, p_gdt, Nat.not_lt_zero, Nat.reduceEqDiff, Nat.reduceLT, Nat.reduceLeDiff, true_and, and_true, true_implies, false_implies, not_true_eq_false, not_false_eq_true, implies_true, and_self, ne_eq, decide_true, decide_false, Bool.not_true, Bool.not_false, if_true, if_false, reduceIte, r_litL, v3, nm2, r_lit]
          refine m_bad l2 (fun h3 f3 g3 => ?_)
          simp (disch := first | assumption | omega) only [p_some, p_gd, p_br, p_bi, p_nm, p_mp, p_Sl, p_Sr, p_bis, p_gdt, Nat.not_lt_zero, Nat.reduceEqDiff, Nat.reduceLT, Nat.reduceLeDiff, true_and, and_true, true_implies, false_implies, not_true_eq_false, not_false_eq_true, implies_true, and_self, ne_eq, decide_true, decide_false, Bool.not_true, Bool.not_false, if_true, if_false, reduceIte, s_yb0]
          exact k0 h3 _ rfl (F2.tr (mNf.gf f3)) g3
  · rw [bI_f (show ¬ a_kk t = 9 + 1 by omega)] at w9
    rw [if_neg c10] at ek
    simp (disch := first | assumption | omega) only [p_some, p_gd, p_br, p_bi, p_nm, p_mp, p_Sl, p_Sr, p_bis, p_gdt, q_IL, q_IR, q_LI, q_LR, q_RI, q_RL, q_KI, q_KL, q_KR, q_NI, q_NL, q_NR, q_nI, q_nL, q_nR, q_okI, q_okL, q_okR, q_Ie, q_In, q_Le, q_Ln, SM_I, SM_L, s_c0, s_cg0, s_cl0, s_cge, s_cle, r_le, r_lt, r_eq, r_md, r_2, r_3, r_lit, r_litL, r_m1, nI_add, nI_1, nI_clamp, nI_leI, nI_ltI, nI_eq, pk_sub, q_ix, nI_l, lN_add, lN_mul, r_m1n, r_m1n', r_m1lt, r_m1nlt, r_m1le, r_m1nle, Nat.not_lt_zero, Nat.reduceEqDiff, Nat.reduceLT, Nat.reduceLeDiff, true_and, and_true, true_implies, false_implies, not_true_eq_false, not_false_eq_true, implies_true, and_self, ne_eq, decide_true, decide_false, Bool.not_true, Bool.not_false, if_true, if_false, reduceIte, mk0, mk1, mk2, mk3, mk4, mk5, mk6, mk7, mk8, mk9, mk10, mk11, mk12, mk13, mk14, mk15, mk16, mk17, mk18, mk19, mk20, mk21, mk22, mn1, mn2, mn3, mn4, mn5, mn6, mn7, mn8, mn9, mn10, mn11, mn12, mn13, mn14, mn15, mn16, mn17, mn18, mn19, mn20, mn21, mn22, mr1, mr6, mr7, mr8, mr9, mr10, mr21, mr22, mr23, mr25, mr26, mr29, mr30, mr32, mr33, mr34, mr43, mr47, mr53, mr54, mr55, mr56, w9, h41, pk_mul]
    refine ⟨fun c => ?_, fun c => ?_⟩
    · rw [if_pos c] at ek
      exact bad 1 ek
    · rw [if_neg c] at ek
      have act : ∀ v, (v = 2 ∨ v = 3) → (v = 2 → a_kk t = 13) → (v = 3 → a_kk t = 14) → p_W (fX12_nightLine_b159 0 (nI (2 * n)) h) Q := fun v hv hu hd => by
        have t2 : 2 ≤ t.1 := by have := a_kk1 (t := t) (by omega); omega
        unfold fX12_nightLine_b159
        simp (disch := first | assumption | omega) only [p_some, p_gd, p_br, p_bi, p_nm, p_mp, p_Sl, p_Sr, p_bis, p_gdt, q_IL, q_IR, q_LI, q_LR, q_RI, q_RL, q_KI, q_KL, q_KR, q_NI, q_NL, q_NR, q_nI, q_nL, q_nR, q_okI, q_okL, q_okR, q_Ie, q_In, q_Le, q_Ln, SM_I, SM_L, s_c0, s_cg0, s_cl0, s_cge, s_cle, r_le, r_lt, r_eq, r_md, r_2, r_3, r_lit, r_litL, r_m1, nI_add, nI_1, nI_clamp, nI_leI, nI_ltI, nI_eq, pk_sub, q_ix, nI_l, lN_add, lN_mul, r_m1n, r_m1n', r_m1lt, r_m1nlt, r_m1le, r_m1nle, Nat.not_lt_zero, Nat.reduceEqDiff, Nat.reduceLT, Nat.reduceLeDiff, true_and, and_true, true_implies, false_implies, not_true_eq_false, not_false_eq_true, implies_true, and_self, ne_eq, decide_true, decide_false, Bool.not_true, Bool.not_false, if_true, if_false, reduceIte, mk0, mk1, mk2, mk3, mk4, mk5, mk6, mk7, mk8, mk9, mk10, mk11, mk12, mk13, mk14, mk15, mk16, mk17, mk18, mk19, mk20, mk21, mk22, mn1, mn2, mn3, mn4, mn5, mn6, mn7, mn8, mn9, mn10, mn11, mn12, mn13, mn14, mn15, mn16, mn17, mn18, mn19, mn20, mn21, mn22, mr1, mr6, mr7, mr8, mr9, mr10, mr21, mr22, mr23, mr25, mr26, mr29, mr30, mr32, mr33, mr34, mr43, mr47, mr53, mr54, mr55, mr56, h41]
        refine ⟨fun c4 => ?_, fun c4 => ?_⟩
        · refine bad 4 ?_
          rw [ek]
          rcases hv with e | e
          · rw [if_pos (hu e), if_pos c4]
          · have := hd e
            rw [if_neg (by omega), if_pos this, if_pos c4]
        · rcases hv with e | e
          · rw [if_pos (hu e), if_neg c4] at ek
            rw [bI_t (show a_kk t = 12 + 1 by have := hu e; omega)] at w12
            simp (disch := first | assumption | omega) only [p_some, p_gd, p_br, p_bi, p_nm, p_mp, p_Sl, p_Sr, p_bis, p_gdt, Nat.not_lt_zero, Nat.reduceEqDiff, Nat.reduceLT, Nat.reduceLeDiff, true_and, and_true, true_implies, false_implies, not_true_eq_false, not_false_eq_true, implies_true, and_self, ne_eq, decide_true, decide_false, Bool.not_true, Bool.not_false, if_true, if_false, reduceIte, r_litL, w12, s10]
            exact m_nt194 l t2 (by omega) (Or.inl rfl) h42 (fun h1 f1 g1 => k1 h1 _ ek (by omega) f1 g1)
          · have kd := hd e
            rw [if_neg (by omega), if_pos kd, if_neg c4] at ek
            rw [bI_f (show ¬ a_kk t = 12 + 1 by omega)] at w12
            simp (disch := first | assumption | omega) only [p_some, p_gd, p_br, p_bi, p_nm, p_mp, p_Sl, p_Sr, p_bis, p_gdt, Nat.not_lt_zero, Nat.reduceEqDiff, Nat.reduceLT, Nat.reduceLeDiff, true_and, and_true, true_implies, false_implies, not_true_eq_false, not_false_eq_true, implies_true, and_self, ne_eq, decide_true, decide_false, Bool.not_true, Bool.not_false, if_true, if_false, reduceIte, r_litL, w12]
            exact m_nt194 l t2 (by omega) (Or.inr rfl) h42 (fun h1 f1 g1 => k1 h1 _ ek (by omega) f1 g1)
      by_cases c13 : a_kk t = 13
      · have a := act 2 (Or.inl rfl) (fun _ => c13) (fun q => by omega)
        rw [bI_t (show a_kk t = 12 + 1 by omega)] at w12
        simp (disch := first | assumption | omega) only [p_some, p_gd, p_br, p_bi, p_nm, p_mp, p_Sl, p_Sr, p_bis, p_gdt, Nat.not_lt_zero, Nat.reduceEqDiff, Nat.reduceLT, Nat.reduceLeDiff, true_and, and_true, true_implies, false_implies, not_true_eq_false, not_false_eq_true, implies_true, and_self, ne_eq, decide_true, decide_false, Bool.not_true, Bool.not_false, if_true, if_false, reduceIte, r_litL, w12, s10]
        exact a
      · by_cases c14 : a_kk t = 14
        · have a := act 3 (Or.inr rfl) (fun q => by omega) (fun _ => c14)
          rw [bI_f (show ¬ a_kk t = 12 + 1 by omega)] at w12
          rw [bI_t (show a_kk t = 13 + 1 by omega)] at w13
          simp (disch := first | assumption | omega) only [p_some, p_gd, p_br, p_bi, p_nm, p_mp, p_Sl, p_Sr, p_bis, p_gdt, Nat.not_lt_zero, Nat.reduceEqDiff, Nat.reduceLT, Nat.reduceLeDiff, true_and, and_true, true_implies, false_implies, not_true_eq_false, not_false_eq_true, implies_true, and_self, ne_eq, decide_true, decide_false, Bool.not_true, Bool.not_false, if_true, if_false, reduceIte, r_litL, w12, w13, s10]
          exact a
        · rw [if_neg c13, if_neg c14] at ek
          rw [bI_f (show ¬ a_kk t = 12 + 1 by omega)] at w12
          rw [bI_f (show ¬ a_kk t = 13 + 1 by omega)] at w13
          clear act
          by_cases c1 : a_kk t = 1
          · have c2 := a_kk1 (t := t) (by omega)
            rw [bI_t c1] at nmE
            rw [if_pos c1] at ek
            have fd := m_find (from0 := 0) (n := bk 0) (f := nm) l c2 (fun k hk => ⟨by rw [Nat.zero_add]; exact M.1 k hk, (N.1 k hk).2⟩) (by omega)
            rw [a_fi_fx] at fd
            by_cases cF : a_fx nm (bk 0) t.2.1 < bk 0
            · rw [if_pos cF] at fd ek
              generalize a_fx nm (bk 0) t.2.1 = F at *
              simp (disch := first | assumption | omega) only [p_some, p_gd, p_br, p_bi, p_nm, p_mp, p_Sl, p_Sr, p_bis, p_gdt, q_IL, q_IR, q_LI, q_LR, q_RI, q_RL, q_KI, q_KL, q_KR, q_NI, q_NL, q_NR, q_nI, q_nL, q_nR, q_okI, q_okL, q_okR, q_Ie, q_In, q_Le, q_Ln, SM_I, SM_L, s_c0, s_cg0, s_cl0, s_cge, s_cle, r_le, r_lt, r_eq, r_md, r_2, r_3, r_lit, r_litL, r_m1, nI_add, nI_1, nI_clamp, nI_leI, nI_ltI, nI_eq, pk_sub, q_ix, nI_l, lN_add, lN_mul, r_m1n, r_m1n', r_m1lt, r_m1nlt, r_m1le, r_m1nle, Nat.not_lt_zero, Nat.reduceEqDiff, Nat.reduceLT, Nat.reduceLeDiff, true_and, and_true, true_implies, false_implies, not_true_eq_false, not_false_eq_true, implies_true, and_self, ne_eq, decide_true, decide_false, Bool.not_true, Bool.not_false, if_true, if_false, reduceIte, mk0, mk1, mk2, mk3, mk4, mk5, mk6, mk7, mk8, mk9, mk10, mk11, mk12, mk13, mk14, mk15, mk16, mk17, mk18, mk19, mk20, mk21, mk22, mn1, mn2, mn3, mn4, mn5, mn6, mn7, mn8, mn9, mn10, mn11, mn12, mn13, mn14, mn15, mn16, mn17, mn18, mn19, mn20, mn21, mn22, mr1, mr6, mr7, mr8, mr9, mr10, mr21, mr22, mr23, mr25, mr26, mr29, mr30, mr32, mr33, mr34, mr43, mr47, mr53, mr54, mr55, mr56, w12, w13, nmE, s10, hB0, fd, Nat.zero_le, h41, h42]
              have b254 : (n = 40 ∨ asked = 12) → p_W (fX12_nightLine_b254 0 h) Q := fun q => by
                rw [if_pos q] at ek
                unfold fX12_nightLine_b254
                simp (disch := first | assumption | omega) only [p_some, p_gd, p_br, p_bi, p_nm, p_mp, p_Sl, p_Sr, p_bis, p_gdt, Nat.not_lt_zero, Nat.reduceEqDiff, Nat.reduceLT, Nat.reduceLeDiff, true_and, and_true, true_implies, false_implies, not_true_eq_false, not_false_eq_true, implies_true, and_self, ne_eq, decide_true, decide_false, Bool.not_true, Bool.not_false, if_true, if_false, reduceIte, mk0 s]
                exact bad 4 ek
              refine ⟨fun q => b254 (Or.inl q), fun q => ⟨fun q2 => b254 (Or.inr q2), fun q2 => ?_⟩⟩
              rw [if_neg (by omega)] at ek
              rw [ek] at k0 k1
              clear bad b254
              have f1 : m_fr (mNf n) h (z_sI h 0 42 (nI (asked + 1))) := m_fr.rf.sI (by unfold mNf; omega)
              have l1 : mL by8 L lim (z_sI h 0 42 (nI (asked + 1))) t := l.fr (C := fun o k => o ≠ 0 ∨ k ≠ 42) (m_fr.rf.sI (by omega)) (fun o k c => by unfold mKt at c; omega)
              have j2 : z_I (z_sI h 0 42 (nI (asked + 1))) 0 42 = nI (asked + 1) := q_Ie rfl rfl
              generalize z_sI h 0 42 (nI (asked + 1)) = h1 at *
              refine m_goL l1 (by omega) (fun h2 f2 l2 => ?_)
              have s2 := l2.1
              have F2 := f1.tr (mNf.gf (n := n) (mGF.go f2))
              have i2 := (f2.I 0 42 (by unfold mGo; omega)).trans j2
              have w10 := m_isWord l2 (i := 10) (W := 495873784179) (by decide) (by decide) (by decide)
              have w11 := m_isWord l2 (i := 11) (W := 470021465459) (by decide) (by decide) (by decide)
              by_cases d11 : a_kk (a_ne by8 L lim t) = 11
              · rw [bI_t (show a_kk (a_ne by8 L lim t) = 10 + 1 by omega)] at w10
                simp (disch := first | assumption | omega) only [p_some, p_gd, p_br, p_bi, p_nm, p_mp, p_Sl, p_Sr, p_bis, p_gdt, Nat.not_lt_zero, Nat.reduceEqDiff, Nat.reduceLT, Nat.reduceLeDiff, true_and, and_true, true_implies, false_implies, not_true_eq_false, not_false_eq_true, implies_true, and_self, ne_eq, decide_true, decide_false, Bool.not_true, Bool.not_false, if_true, if_false, reduceIte, mk0 s2, r_litL, r_lit, w10, s10]
                exact m_nt300 l2 (by omega) (by omega) (Or.inl d11) i2 (fun h3 w e f g => k1 h3 w e (by omega) (F2.tr f) g)
              · rw [bI_f (show ¬ a_kk (a_ne by8 L lim t) = 10 + 1 by omega)] at w10
                by_cases d12 : a_kk (a_ne by8 L lim t) = 12
                · rw [bI_t (show a_kk (a_ne by8 L lim t) = 11 + 1 by omega)] at w11
                  simp (disch := first | assumption | omega) only [p_some, p_gd, p_br, p_bi, p_nm, p_mp, p_Sl, p_Sr, p_bis, p_gdt, Nat.not_lt_zero, Nat.reduceEqDiff, Nat.reduceLT, Nat.reduceLeDiff, true_and, and_true, true_implies, false_implies, not_true_eq_false, not_false_eq_true, implies_true, and_self, ne_eq, decide_true, decide_false, Bool.not_true, Bool.not_false, if_true, if_false, reduceIte, mk0 s2, r_litL, r_lit, w10, w11, s10]
                  exact m_nt300 l2 (by omega) (by omega) (Or.inr d12) i2 (fun h3 w e f g => k1 h3 w e (by omega) (F2.tr f) g)
                · rw [bI_f (show ¬ a_kk (a_ne by8 L lim t) = 11 + 1 by omega)] at w11
                  simp (disch := first | assumption | omega) only [p_some, p_gd, p_br, p_bi, p_nm, p_mp, p_Sl, p_Sr, p_bis, p_gdt, Nat.not_lt_zero, Nat.reduceEqDiff, Nat.reduceLT, Nat.reduceLeDiff, true_and, and_true, true_implies, false_implies, not_true_eq_false, not_false_eq_true, implies_true, and_self, ne_eq, decide_true, decide_false, Bool.not_true, Bool.not_false, if_true, if_false, reduceIte, mk0 s2, r_litL, r_lit, w10, w11]
                  refine m_bad l2 (fun h3 f3 g3 => ?_)
                  simp (disch := first | assumption | omega) only [p_some, p_gd, p_br, p_bi, p_nm, p_mp, p_Sl, p_Sr, p_bis, p_gdt, Nat.not_lt_zero, Nat.reduceEqDiff, Nat.reduceLT, Nat.reduceLeDiff, true_and, and_true, true_implies, false_implies, not_true_eq_false, not_false_eq_true, implies_true, and_self, ne_eq, decide_true, decide_false, Bool.not_true, Bool.not_false, if_true, if_false, reduceIte, s_yb0]
                  exact k0 h3 _ (by unfold a_ntA; rw [if_neg d11, if_neg d12]) (F2.tr (mNf.gf f3)) g3
            · rw [if_neg cF] at fd ek
              simp (disch := first | assumption | omega) only [p_some, p_gd, p_br, p_bi, p_nm, p_mp, p_Sl, p_Sr, p_bis, p_gdt, q_IL, q_IR, q_LI, q_LR, q_RI, q_RL, q_KI, q_KL, q_KR, q_NI, q_NL, q_NR, q_nI, q_nL, q_nR, q_okI, q_okL, q_okR, q_Ie, q_In, q_Le, q_Ln, SM_I, SM_L, s_c0, s_cg0, s_cl0, s_cge, s_cle, r_le, r_lt, r_eq, r_md, r_2, r_3, r_lit, r_litL, r_m1, nI_add, nI_1, nI_clamp, nI_leI, nI_ltI, nI_eq, pk_sub, q_ix, nI_l, lN_add, lN_mul, r_m1n, r_m1n', r_m1lt, r_m1nlt, r_m1le, r_m1nle, Nat.not_lt_zero, Nat.reduceEqDiff, Nat.reduceLT, Nat.reduceLeDiff, true_and, and_true, true_implies, false_implies, not_true_eq_false, not_false_eq_true, implies_true, and_self, ne_eq, decide_true, decide_false, Bool.not_true, Bool.not_false, if_true, if_false, reduceIte, mk0, mk1, mk2, mk3, mk4, mk5, mk6, mk7, mk8, mk9, mk10, mk11, mk12, mk13, mk14, mk15, mk16, mk17, mk18, mk19, mk20, mk21, mk22, mn1, mn2, mn3, mn4, mn5, mn6, mn7, mn8, mn9, mn10, mn11, mn12, mn13, mn14, mn15, mn16, mn17, mn18, mn19, mn20, mn21, mn22, mr1, mr6, mr7, mr8, mr9, mr10, mr21, mr22, mr23, mr25, mr26, mr29, mr30, mr32, mr33, mr34, mr43, mr47, mr53, mr54, mr55, mr56, w12, w13, nmE, s10, hB0, fd, r_m1nle]
              exact bad 3 ek
          · rw [bI_f c1] at nmE
            rw [if_neg c1] at ek
            simp (disch := first | assumption | omega) only [p_some, p_gd, p_br, p_bi, p_nm, p_mp, p_Sl, p_Sr, p_bis, p_gdt, Nat.not_lt_zero, Nat.reduceEqDiff, Nat.reduceLT, Nat.reduceLeDiff, true_and, and_true, true_implies, false_implies, not_true_eq_false, not_false_eq_true, implies_true, and_self, ne_eq, decide_true, decide_false, Bool.not_true, Bool.not_false, if_true, if_false, reduceIte, r_litL, r_lit, w12, w13, nmE]
            exact bad 1 ek
