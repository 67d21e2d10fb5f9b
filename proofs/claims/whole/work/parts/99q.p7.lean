/-! share, the reference -/
theorem m_share {h : z_T} {bk ans : Nat → Nat} {n : Nat} {Q : Int64 × z_T → Prop} (s : SM h) (b : BOK bk) (hN : mNi h bk n ans) (x y : Int32)
    (k : ∀ v h', m_fr mKp h h' → mTh h' (a_share bk x y) v → Q (v, h')) : p_W (fX12_share 0 x y h) Q := by
  have h8 := b.1
  have hp := a_2p b
  have hL := a_lot_lt (bk := bk)
  have hv := a_lot_vl (bk := bk)
  have fk : ∀ o k, mKp o k → mLf o k := fun o k c => by unfold mKp at c; unfold mLf; omega
  have g := a_sg_le (bk := bk) (S := a_lot0 bk) (Nat.le_refl 8)
  have thr : ¬ (z_ix x (bk 0) = true ∧ z_ix y 2 = true ∧ ¬ a_lot0 bk = 0) → ∀ h', m_fr mKp h h' → Q (lN 0, z_sI h' 0 0 (nI 1)) := fun c h' f => by
    unfold a_share at k
    rw [if_neg c] at k
    exact k _ _ (f.tr m_fr.t0) (q_Ie rfl rfl)
  unfold a_share at k
  unfold fX12_share fX12_share_b23 fX12_share_b28
  simp (disch := first | assumption | omega) only [p_some, p_gd, p_br, p_bi, p_nm, p_mp, p_Sl, p_Sr, p_bis, p_gdt, q_IL, q_IR, q_LI, q_LR, q_RI, q_RL, q_KI, q_KL, q_KR, q_NI, q_NL, q_NR, q_nI, q_nL, q_nR, q_okI, q_okL, q_okR, q_Ie, q_In, q_Le, q_Ln, SM_I, SM_L, s_c0, s_cg0, s_cl0, s_cge, s_cle, r_le, r_lt, r_eq, r_md, r_2, r_3, r_lit, r_litL, r_m1, nI_add, nI_1, nI_clamp, nI_leI, nI_ltI, nI_eq, pk_sub, q_ix, nI_l, lN_add, lN_mul, r_m1n, r_m1n', r_m1lt, r_m1nlt, r_m1le, r_m1nle, Nat.not_lt_zero, Nat.reduceEqDiff, Nat.reduceLT, Nat.reduceLeDiff, true_and, and_true, true_implies, false_implies, not_true_eq_false, not_false_eq_true, implies_true, and_self, ne_eq, decide_true, decide_false, Bool.not_true, Bool.not_false, if_true, if_false, reduceIte, mk0, mk1, mk2, mk3, mk4, mk5, mk6, mk7, mk8, mk9, mk10, mk11, mk12, mk13, mk14, mk15, mk16, mk17, mk18, mk19, mk20, mk21, mk22, mn1, mn2, mn3, mn4, mn5, mn6, mn7, mn8, mn9, mn10, mn11, mn12, mn13, mn14, mn15, mn16, mn17, mn18, mn19, mn20, mn21, mn22, mr1, mr6, mr7, mr8, mr9, mr10, mr21, mr22, mr23, mr25, mr26, mr29, mr30, mr32, mr33, mr34, mr43, mr47, mr53, mr54, mr55, mr56, m_isPart, bI_0, m_isTest s b hN.1]
  refine ⟨fun c => ?_, fun c => ⟨fun c2 => ?_, fun c2 => ?_⟩⟩
  · simp (disch := first | assumption | omega) only [p_some, p_gd, p_br, p_bi, p_nm, p_mp, p_Sl, p_Sr, p_bis, p_gdt, q_IL, q_IR, q_LI, q_LR, q_RI, q_RL, q_KI, q_KL, q_KR, q_NI, q_NL, q_NR, q_nI, q_nL, q_nR, q_okI, q_okL, q_okR, q_Ie, q_In, q_Le, q_Ln, SM_I, SM_L, s_c0, s_cg0, s_cl0, s_cge, s_cle, r_le, r_lt, r_eq, r_md, r_2, r_3, r_lit, r_litL, r_m1, nI_add, nI_1, nI_clamp, nI_leI, nI_ltI, nI_eq, pk_sub, q_ix, nI_l, lN_add, lN_mul, r_m1n, r_m1n', r_m1lt, r_m1nlt, r_m1le, r_m1nle, Nat.not_lt_zero, Nat.reduceEqDiff, Nat.reduceLT, Nat.reduceLeDiff, true_and, and_true, true_implies, false_implies, not_true_eq_false, not_false_eq_true, implies_true, and_self, ne_eq, decide_true, decide_false, Bool.not_true, Bool.not_false, if_true, if_false, reduceIte, mk0, mk1, mk2, mk3, mk4, mk5, mk6, mk7, mk8, mk9, mk10, mk11, mk12, mk13, mk14, mk15, mk16, mk17, mk18, mk19, mk20, mk21, mk22, mn1, mn2, mn3, mn4, mn5, mn6, mn7, mn8, mn9, mn10, mn11, mn12, mn13, mn14, mn15, mn16, mn17, mn18, mn19, mn20, mn21, mn22, mr1, mr6, mr7, mr8, mr9, mr10, mr21, mr22, mr23, mr25, mr26, mr29, mr30, mr32, mr33, mr34, mr43, mr47, mr53, mr54, mr55, mr56, m_throws1 s]
    exact thr (fun q => c q.1) h m_fr.rf
  · simp (disch := first | assumption | omega) only [p_some, p_gd, p_br, p_bi, p_nm, p_mp, p_Sl, p_Sr, p_bis, p_gdt, q_IL, q_IR, q_LI, q_LR, q_RI, q_RL, q_KI, q_KL, q_KR, q_NI, q_NL, q_NR, q_nI, q_nL, q_nR, q_okI, q_okL, q_okR, q_Ie, q_In, q_Le, q_Ln, SM_I, SM_L, s_c0, s_cg0, s_cl0, s_cge, s_cle, r_le, r_lt, r_eq, r_md, r_2, r_3, r_lit, r_litL, r_m1, nI_add, nI_1, nI_clamp, nI_leI, nI_ltI, nI_eq, pk_sub, q_ix, nI_l, lN_add, lN_mul, r_m1n, r_m1n', r_m1lt, r_m1nlt, r_m1le, r_m1nle, Nat.not_lt_zero, Nat.reduceEqDiff, Nat.reduceLT, Nat.reduceLeDiff, true_and, and_true, true_implies, false_implies, not_true_eq_false, not_false_eq_true, implies_true, and_self, ne_eq, decide_true, decide_false, Bool.not_true, Bool.not_false, if_true, if_false, reduceIte, mk0, mk1, mk2, mk3, mk4, mk5, mk6, mk7, mk8, mk9, mk10, mk11, mk12, mk13, mk14, mk15, mk16, mk17, mk18, mk19, mk20, mk21, mk22, mn1, mn2, mn3, mn4, mn5, mn6, mn7, mn8, mn9, mn10, mn11, mn12, mn13, mn14, mn15, mn16, mn17, mn18, mn19, mn20, mn21, mn22, mr1, mr6, mr7, mr8, mr9, mr10, mr21, mr22, mr23, mr25, mr26, mr29, mr30, mr32, mr33, mr34, mr43, mr47, mr53, mr54, mr55, mr56, m_throws1 s]
    exact thr (fun q => c2 q.2.1) h m_fr.rf
  · obtain ⟨t, ht, et⟩ := z_ixn c (by omega)
    obtain ⟨w, hw, ew⟩ := z_ixn c2 (by omega)
    refine m_hasLot s b hN.1 (fun h1 f1 e0 => ?_) (fun h1 f1 e0 L => ?_)
    · have s1 := f1.s s
      simp (disch := first | assumption | omega) only [p_some, p_gd, p_br, p_bi, p_nm, p_mp, p_Sl, p_Sr, p_bis, p_gdt, q_IL, q_IR, q_LI, q_LR, q_RI, q_RL, q_KI, q_KL, q_KR, q_NI, q_NL, q_NR, q_nI, q_nL, q_nR, q_okI, q_okL, q_okR, q_Ie, q_In, q_Le, q_Ln, SM_I, SM_L, s_c0, s_cg0, s_cl0, s_cge, s_cle, r_le, r_lt, r_eq, r_md, r_2, r_3, r_lit, r_litL, r_m1, nI_add, nI_1, nI_clamp, nI_leI, nI_ltI, nI_eq, pk_sub, q_ix, nI_l, lN_add, lN_mul, r_m1n, r_m1n', r_m1lt, r_m1nlt, r_m1le, r_m1nle, Nat.not_lt_zero, Nat.reduceEqDiff, Nat.reduceLT, Nat.reduceLeDiff, true_and, and_true, true_implies, false_implies, not_true_eq_false, not_false_eq_true, implies_true, and_self, ne_eq, decide_true, decide_false, Bool.not_true, Bool.not_false, if_true, if_false, reduceIte, mk0, mk1, mk2, mk3, mk4, mk5, mk6, mk7, mk8, mk9, mk10, mk11, mk12, mk13, mk14, mk15, mk16, mk17, mk18, mk19, mk20, mk21, mk22, mn1, mn2, mn3, mn4, mn5, mn6, mn7, mn8, mn9, mn10, mn11, mn12, mn13, mn14, mn15, mn16, mn17, mn18, mn19, mn20, mn21, mn22, mr1, mr6, mr7, mr8, mr9, mr10, mr21, mr22, mr23, mr25, mr26, mr29, mr30, mr32, mr33, mr34, mr43, mr47, mr53, mr54, mr55, mr56, m_throws1 s1]
      exact thr (fun q => q.2.2 e0) h1 (f1.w fk)
    · have s1 := f1.s s
      have s2 : SM (z_sI h1 0 0 (nI 0)) := s1
      have f2 : m_fr mKp h (z_sI h1 0 0 (nI 0)) := (f1.w fk).tr m_fr.t0
      have B2 : mB h1 bk := fun k hk => (f1.I 2 k (by unfold mLf; omega)).trans (hN.1 k hk)
      have l40 := L.1
      have l39 := L.2.2
      have th := q_Ie (h := h1) (o := 0) (k := 0) (v := nI 0) (o' := 0) (k' := 0) rfl rfl
      have hpos := a_sgpos (hv e0)
      have hvl := (hv e0).2 t
      have hr := b.m9 (t := t) (by omega)
      rw [if_pos ⟨Classical.not_not.mp c, Classical.not_not.mp c2, e0⟩] at k
      rw [if_neg e0] at l39
      subst et ew
      unfold a_side at k
      rw [nI_clamp (by omega), nI_clamp (by omega)] at k
      have kk := fun v => k v _ f2
      clear k thr
      generalize a_lot0 bk = S at *
      generalize hs : a_sg bk S 8 = sg at *
      have e9 : 9 * sg / 9 = sg := Nat.mul_div_cancel_left _ (by decide)
      simp (disch := first | assumption | omega) only [p_some, p_gd, p_br, p_bi, p_nm, p_mp, p_Sl, p_Sr, p_bis, p_gdt, q_IL, q_IR, q_LI, q_LR, q_RI, q_RL, q_KI, q_KL, q_KR, q_NI, q_NL, q_NR, q_nI, q_nL, q_nR, q_okI, q_okL, q_okR, q_Ie, q_In, q_Le, q_Ln, SM_I, SM_L, s_c0, s_cg0, s_cl0, s_cge, s_cle, r_le, r_lt, r_eq, r_md, r_2, r_3, r_lit, r_litL, r_m1, nI_add, nI_1, nI_clamp, nI_leI, nI_ltI, nI_eq, pk_sub, q_ix, nI_l, lN_add, lN_mul, r_m1n, r_m1n', r_m1lt, r_m1nlt, r_m1le, r_m1nle, Nat.not_lt_zero, Nat.reduceEqDiff, Nat.reduceLT, Nat.reduceLeDiff, true_and, and_true, true_implies, false_implies, not_true_eq_false, not_false_eq_true, implies_true, and_self, ne_eq, decide_true, decide_false, Bool.not_true, Bool.not_false, if_true, if_false, reduceIte, mk0, mk1, mk2, mk3, mk4, mk5, mk6, mk7, mk8, mk9, mk10, mk11, mk12, mk13, mk14, mk15, mk16, mk17, mk18, mk19, mk20, mk21, mk22, mn1, mn2, mn3, mn4, mn5, mn6, mn7, mn8, mn9, mn10, mn11, mn12, mn13, mn14, mn15, mn16, mn17, mn18, mn19, mn20, mn21, mn22, mr1, mr6, mr7, mr8, mr9, mr10, mr21, mr22, mr23, mr25, mr26, mr29, mr30, mr32, mr33, mr34, mr43, mr47, mr53, mr54, mr55, mr56, m_throws0 s1, l40, m_bitOf, bI_0]
      refine ⟨fun c3 => ?_, fun c3 => ?_⟩
      · rw [if_neg c3] at kk
        unfold fX12_share_b68
        rw [p_gd]
        refine ⟨mk0 s2, ?_⟩
        rw [p_gd]
        refine ⟨by decide, ?_⟩
        simp (disch := first | assumption | omega) only [p_some, p_gd, p_br, p_bi, p_nm, p_mp, p_Sl, p_Sr, p_bis, p_gdt, q_IL, q_IR, q_LI, q_LR, q_RI, q_RL, q_KI, q_KL, q_KR, q_NI, q_NL, q_NR, q_nI, q_nL, q_nR, q_okI, q_okL, q_okR, q_Ie, q_In, q_Le, q_Ln, SM_I, SM_L, s_c0, s_cg0, s_cl0, s_cge, s_cle, r_le, r_lt, r_eq, r_md, r_2, r_3, r_lit, r_litL, r_m1, nI_add, nI_1, nI_clamp, nI_leI, nI_ltI, nI_eq, pk_sub, q_ix, nI_l, lN_add, lN_mul, r_m1n, r_m1n', r_m1lt, r_m1nlt, r_m1le, r_m1nle, Nat.not_lt_zero, Nat.reduceEqDiff, Nat.reduceLT, Nat.reduceLeDiff, true_and, and_true, true_implies, false_implies, not_true_eq_false, not_false_eq_true, implies_true, and_self, ne_eq, decide_true, decide_false, Bool.not_true, Bool.not_false, if_true, if_false, reduceIte, mk0, mk1, mk2, mk3, mk4, mk5, mk6, mk7, mk8, mk9, mk10, mk11, mk12, mk13, mk14, mk15, mk16, mk17, mk18, mk19, mk20, mk21, mk22, mn1, mn2, mn3, mn4, mn5, mn6, mn7, mn8, mn9, mn10, mn11, mn12, mn13, mn14, mn15, mn16, mn17, mn18, mn19, mn20, mn21, mn22, mr1, mr6, mr7, mr8, mr9, mr10, mr21, mr22, mr23, mr25, mr26, mr29, mr30, mr32, mr33, mr34, mr43, mr47, mr53, mr54, mr55, mr56, l39, r_div, e9, m_part]
        exact kk _ ⟨th, rfl⟩
      · have hc3 := Classical.not_not.mp c3
        have hr0 := hvl hc3
        have hd : ¬ 9 - bk (16 + t) = 0 := hr0 |> Nat.pos_iff_ne_zero.mp
        have ec : a_c bk t = 2520 / (9 - bk (16 + t)) := rfl
        have hdl : 2520 / (9 - bk (16 + t)) ≤ 2520 := Nat.div_le_self _ _
        rw [if_pos hc3, ec] at kk
        unfold fX12_share_b68
        simp (disch := first | assumption | omega) only [p_some, p_gd, p_br, p_bi, p_nm, p_mp, p_Sl, p_Sr, p_bis, p_gdt, q_IL, q_IR, q_LI, q_LR, q_RI, q_RL, q_KI, q_KL, q_KR, q_NI, q_NL, q_NR, q_nI, q_nL, q_nR, q_okI, q_okL, q_okR, q_Ie, q_In, q_Le, q_Ln, SM_I, SM_L, s_c0, s_cg0, s_cl0, s_cge, s_cle, r_le, r_lt, r_eq, r_md, r_2, r_3, r_lit, r_litL, r_m1, nI_add, nI_1, nI_clamp, nI_leI, nI_ltI, nI_eq, pk_sub, q_ix, nI_l, lN_add, lN_mul, r_m1n, r_m1n', r_m1lt, r_m1nlt, r_m1le, r_m1nle, Nat.not_lt_zero, Nat.reduceEqDiff, Nat.reduceLT, Nat.reduceLeDiff, true_and, and_true, true_implies, false_implies, not_true_eq_false, not_false_eq_true, implies_true, and_self, ne_eq, decide_true, decide_false, Bool.not_true, Bool.not_false, if_true, if_false, reduceIte, mk0, mk1, mk2, mk3, mk4, mk5, mk6, mk7, mk8, mk9, mk10, mk11, mk12, mk13, mk14, mk15, mk16, mk17, mk18, mk19, mk20, mk21, mk22, mn1, mn2, mn3, mn4, mn5, mn6, mn7, mn8, mn9, mn10, mn11, mn12, mn13, mn14, mn15, mn16, mn17, mn18, mn19, mn20, mn21, mn22, mr1, mr6, mr7, mr8, mr9, mr10, mr21, mr22, mr23, mr25, mr26, mr29, mr30, mr32, mr33, mr34, mr43, mr47, mr53, mr54, mr55, mr56, B2, pk_div, hd]
        generalize 2520 / (9 - bk (16 + t)) = dv at *
        simp (disch := first | assumption | omega) only [p_some, p_gd, p_br, p_bi, p_nm, p_mp, p_Sl, p_Sr, p_bis, p_gdt, q_IL, q_IR, q_LI, q_LR, q_RI, q_RL, q_KI, q_KL, q_KR, q_NI, q_NL, q_NR, q_nI, q_nL, q_nR, q_okI, q_okL, q_okR, q_Ie, q_In, q_Le, q_Ln, SM_I, SM_L, s_c0, s_cg0, s_cl0, s_cge, s_cle, r_le, r_lt, r_eq, r_md, r_2, r_3, r_lit, r_litL, r_m1, nI_add, nI_1, nI_clamp, nI_leI, nI_ltI, nI_eq, pk_sub, q_ix, nI_l, lN_add, lN_mul, r_m1n, r_m1n', r_m1lt, r_m1nlt, r_m1le, r_m1nle, Nat.not_lt_zero, Nat.reduceEqDiff, Nat.reduceLT, Nat.reduceLeDiff, true_and, and_true, true_implies, false_implies, not_true_eq_false, not_false_eq_true, implies_true, and_self, ne_eq, decide_true, decide_false, Bool.not_true, Bool.not_false, if_true, if_false, reduceIte, mk0, mk1, mk2, mk3, mk4, mk5, mk6, mk7, mk8, mk9, mk10, mk11, mk12, mk13, mk14, mk15, mk16, mk17, mk18, mk19, mk20, mk21, mk22, mn1, mn2, mn3, mn4, mn5, mn6, mn7, mn8, mn9, mn10, mn11, mn12, mn13, mn14, mn15, mn16, mn17, mn18, mn19, mn20, mn21, mn22, mr1, mr6, mr7, mr8, mr9, mr10, mr21, mr22, mr23, mr25, mr26, mr29, mr30, mr32, mr33, mr34, mr43, mr47, mr53, mr54, mr55, mr56, l39, r_div, e9, m_part]
        exact kk _ ⟨th, rfl⟩
