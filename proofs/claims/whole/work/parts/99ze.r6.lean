/-! write, both sides -/
theorem a_wl_le : ∀ n, n ≤ 4 → a_wl n ≤ 273 := by decide
theorem x_opWrite {h : z_T} {bo n : Nat} {bk ans nm : Nat → Nat} {Q : Int32 × z_T → Prop} (W : xNow h bo bk ans n) (b : BOK bk) (hM : NMO bk nm) (N : xNm h bo bk nm) (x : Int32) (k0 : ¬ (z_ix x 5 = true ∧ bk 0 ≤ 6) → Q (m1, h))
    (k1 : ∀ h' m, x = nI m → m ≤ 4 → bk 0 ≤ 6 → x_fr (fun o k => (o < 68 ∨ 79 ≤ o) ∧ xCt o k) h h' → xT h' (a_wt bk nm m 0) → Q (nI (a_wt bk nm m 0).length, h')) : p_W (fX11_write 0 x h) Q := by
  obtain ⟨s, NN, hb⟩ := W
  have B := NN.2.2.1
  unfold fX11_write
  simp (disch := first | assumption | omega) only [p_some, p_gd, p_br, p_bi, p_nm, p_mp, p_Sl, p_Sr, p_bis, p_gdt, q_IL, q_IR, q_LI, q_LR, q_RI, q_RL, q_KI, q_KL, q_KR, q_NI, q_NL, q_NR, q_nI, q_nL, q_nR, q_okI, q_okL, q_okR, q_Ie, q_In, q_Le, q_Ln, SM_I, SM_L, s_c0, s_cg0, s_cl0, s_cge, s_cle, r_le, r_lt, r_eq, r_md, r_2, r_3, r_lit, r_litL, r_m1, nI_add, nI_1, nI_clamp, nI_leI, nI_ltI, nI_eq, pk_sub, q_ix, nI_l, lN_add, lN_mul, r_m1n, r_m1n', r_m1lt, r_m1nlt, r_m1le, r_m1nle, Nat.not_lt_zero, Nat.reduceEqDiff, Nat.reduceLT, Nat.reduceLeDiff, true_and, and_true, true_implies, false_implies, not_true_eq_false, not_false_eq_true, implies_true, and_self, ne_eq, decide_true, decide_false, Bool.not_true, Bool.not_false, if_true, if_false, reduceIte, xb_0, xb_1, xb_2, xb_3, xb_4, xb_5, xb_6, xb_7, xb_8, xb_9, xb_10, xb_11, xb_12, xb_13, xb_14, xb_15, xb_16, xb_17, xb_18, xb_19, xb_20, xb_21, xo_0, xo_1, xo_2, xo_3, xo_4, xo_5, xo_6, xo_7, xo_8, xo_9, xk0 s, xr0_3 s, xk14 s, xr14_0 s, xo_0 NN.1, NN.2.1, x_isFor b B, bI_0]
  refine ⟨fun c => k0 c, fun c => ?_⟩
  have c' := Classical.not_not.mp c
  obtain ⟨m, hm, e⟩ := z_ixn (n := 5) (fun q => q c'.1) (by omega)
  have kk := fun h' => k1 h' m e (by omega) c'.2
  clear k0 k1
  subst e
  simp (disch := first | assumption | omega) only [p_some, p_gd, p_br, p_bi, p_nm, p_mp, p_Sl, p_Sr, p_bis, p_gdt, q_IL, q_IR, q_LI, q_LR, q_RI, q_RL, q_KI, q_KL, q_KR, q_NI, q_NL, q_NR, q_nI, q_nL, q_nR, q_okI, q_okL, q_okR, q_Ie, q_In, q_Le, q_Ln, SM_I, SM_L, s_c0, s_cg0, s_cl0, s_cge, s_cle, r_le, r_lt, r_eq, r_md, r_2, r_3, r_lit, r_litL, r_m1, nI_add, nI_1, nI_clamp, nI_leI, nI_ltI, nI_eq, pk_sub, q_ix, nI_l, lN_add, lN_mul, r_m1n, r_m1n', r_m1lt, r_m1nlt, r_m1le, r_m1nle, Nat.not_lt_zero, Nat.reduceEqDiff, Nat.reduceLT, Nat.reduceLeDiff, true_and, and_true, true_implies, false_implies, not_true_eq_false, not_false_eq_true, implies_true, and_self, ne_eq, decide_true, decide_false, Bool.not_true, Bool.not_false, if_true, if_false, reduceIte, xb_0, xb_1, xb_2, xb_3, xb_4, xb_5, xb_6, xb_7, xb_8, xb_9, xb_10, xb_11, xb_12, xb_13, xb_14, xb_15, xb_16, xb_17, xb_18, xb_19, xb_20, xb_21, xo_0, xo_1, xo_2, xo_3, xo_4, xo_5, xo_6, xo_7, xo_8, xo_9, xr0_7 s, xk68 s]
  refine x_open s b B hb (by omega) c'.2 (fun h1 f1 P1 K1 kn => ?_)
  have s1 := f1.s s
  have h0 := s.1
  have h01 := s1.1
  simp (disch := first | assumption | omega) only [p_some, p_gd, p_br, p_bi, p_nm, p_mp, p_Sl, p_Sr, p_bis, p_gdt, q_IL, q_IR, q_LI, q_LR, q_RI, q_RL, q_KI, q_KL, q_KR, q_NI, q_NL, q_NR, q_nI, q_nL, q_nR, q_okI, q_okL, q_okR, q_Ie, q_In, q_Le, q_Ln, SM_I, SM_L, s_c0, s_cg0, s_cl0, s_cge, s_cle, r_le, r_lt, r_eq, r_md, r_2, r_3, r_lit, r_litL, r_m1, nI_add, nI_1, nI_clamp, nI_leI, nI_ltI, nI_eq, pk_sub, q_ix, nI_l, lN_add, lN_mul, r_m1n, r_m1n', r_m1lt, r_m1nlt, r_m1le, r_m1nle, Nat.not_lt_zero, Nat.reduceEqDiff, Nat.reduceLT, Nat.reduceLeDiff, true_and, and_true, true_implies, false_implies, not_true_eq_false, not_false_eq_true, implies_true, and_self, ne_eq, decide_true, decide_false, Bool.not_true, Bool.not_false, if_true, if_false, reduceIte, xb_0, xb_1, xb_2, xb_3, xb_4, xb_5, xb_6, xb_7, xb_8, xb_9, xb_10, xb_11, xb_12, xb_13, xb_14, xb_15, xb_16, xb_17, xb_18, xb_19, xb_20, xb_21, xo_0, xo_1, xo_2, xo_3, xo_4, xo_5, xo_6, xo_7, xo_8, xo_9, xk0 s1, xr0_1 s1, xk11 s1, xr0_7 s1, xk68 s1]
  have f2 : x_fr xCt h1 (z_sI h1 11 1 (nI 0)) := x_fr.rf.sI (fun _ => by unfold xCt; omega)
  have X2 : xT (z_sI h1 11 1 (nI 0)) [] := ⟨q_Ie rfl rfl, fun i hi => absurd hi (Nat.not_lt_zero _)⟩
  have s2 : SX (z_sI h1 11 1 (nI 0)) := s1
  have P2 := P1.fr s1 f2 (by unfold xCt; omega) (fun j k hj => by unfold xCt; omega)
  have K2 := K1.fr s1 f2 (fun o k _ _ => by unfold xCt; omega)
  have kn2 : ¬ z_I (z_sI h1 11 1 (nI 0)) 78 0 = nI 0 := kn
  have N2 : xNm (z_sI h1 11 1 (nI 0)) bo bk nm := ⟨fun t ht => (f1.L (bo + 2) t (z_ok_lt (xb_4 B.1)) (by omega)).trans (N.1 t ht), fun t ht => (f1.L (bo + 5) t (z_ok_lt (xb_13 B.1)) (by omega)).trans (N.2 t ht)⟩
  generalize z_sI h1 11 1 (nI 0) = h2 at f2 X2 s2 P2 K2 kn2 N2 ⊢
  have wl := a_wl_le m (by omega)
  have way := fun Q' k' => x_way (n := m) b (by omega) c'.2 hM hb 6 m (by omega) h2 0 [] Q' (by rw [a_aq_0]; omega) (by omega) s2 P2 N2 K2 kn2 X2 (by rw [List.length_nil]; omega) k'
  rw [a_aq_0] at way
  unfold fX5_writeTo
  simp (disch := first | assumption | omega) only [p_some, p_gd, p_br, p_bi, p_nm, p_mp, p_Sl, p_Sr, p_bis, p_gdt, Nat.not_lt_zero, Nat.reduceEqDiff, Nat.reduceLT, Nat.reduceLeDiff, true_and, and_true, true_implies, false_implies, not_true_eq_false, not_false_eq_true, implies_true, and_self, ne_eq, decide_true, decide_false, Bool.not_true, Bool.not_false, if_true, if_false, reduceIte, xk68 s2, xk0 s2, xr0_7 s2, r_lit]
  refine way _ (fun h3 f3 X3 => ?_)
  have s3 := f3.s s2
  rw [List.nil_append] at X3
  simp (disch := first | assumption | omega) only [p_some, p_gd, p_br, p_bi, p_nm, p_mp, p_Sl, p_Sr, p_bis, p_gdt, Nat.not_lt_zero, Nat.reduceEqDiff, Nat.reduceLT, Nat.reduceLeDiff, true_and, and_true, true_implies, false_implies, not_true_eq_false, not_false_eq_true, implies_true, and_self, ne_eq, decide_true, decide_false, Bool.not_true, Bool.not_false, if_true, if_false, reduceIte, xk0 s3, xr0_1 s3, xk11 s3, X3.1]
  exact kk h3 ((f1.w (fun o k _ c => c.1)).tr ((f2.tr f3).w (fun o k _ c => c.2))) X3
theorem m_write {h : z_T} {bk ans nm : Nat → Nat} {n : Nat} {Q : Int32 × z_T → Prop} (s : SM h) (b : BOK bk) (hN : mNi h bk n ans) (hM : NMO bk nm) (N : mNm h bk nm) (x : Int32) (k0 : ∀ h', ¬ (z_ix x 5 = true ∧ bk 0 ≤ 6) → m_fr mKp h h' → Q (m1, h'))
    (k1 : ∀ h' m, x = nI m → m ≤ 4 → bk 0 ≤ 6 → m_fr (fun o k => mKp o k ∧ mCt o k) h h' → mT h' (a_wt bk nm m 0) → Q (nI (a_wt bk nm m 0).length, h')) : p_W (fX12_write 0 x h) Q := by
  have s0 : SM (z_sI h 0 0 (nI 0)) := s
  have hB0 : mB (z_sI h 0 0 (nI 0)) bk := hN.t0.1
  unfold fX12_write
  simp (disch := first | assumption | omega) only [p_some, p_gd, p_br, p_bi, p_nm, p_mp, p_Sl, p_Sr, p_bis, p_gdt, q_IL, q_IR, q_LI, q_LR, q_RI, q_RL, q_KI, q_KL, q_KR, q_NI, q_NL, q_NR, q_nI, q_nL, q_nR, q_okI, q_okL, q_okR, q_Ie, q_In, q_Le, q_Ln, SM_I, SM_L, s_c0, s_cg0, s_cl0, s_cge, s_cle, r_le, r_lt, r_eq, r_md, r_2, r_3, r_lit, r_litL, r_m1, nI_add, nI_1, nI_clamp, nI_leI, nI_ltI, nI_eq, pk_sub, q_ix, nI_l, lN_add, lN_mul, r_m1n, r_m1n', r_m1lt, r_m1nlt, r_m1le, r_m1nle, Nat.not_lt_zero, Nat.reduceEqDiff, Nat.reduceLT, Nat.reduceLeDiff, true_and, and_true, true_implies, false_implies, not_true_eq_false, not_false_eq_true, implies_true, and_self, ne_eq, decide_true, decide_false, Bool.not_true, Bool.not_false, if_true, if_false, reduceIte, mk0, mk1, mk2, mk3, mk4, mk5, mk6, mk7, mk8, mk9, mk10, mk11, mk12, mk13, mk14, mk15, mk16, mk17, mk18, mk19, mk20, mk21, mk22, mn1, mn2, mn3, mn4, mn5, mn6, mn7, mn8, mn9, mn10, mn11, mn12, mn13, mn14, mn15, mn16, mn17, mn18, mn19, mn20, mn21, mn22, mr1, mr6, mr7, mr8, mr9, mr10, mr21, mr22, mr23, mr25, mr26, mr29, mr30, mr32, mr33, mr34, mr43, mr47, mr53, mr54, mr55, mr56, bI_0, m_areCosts s0 b hB0]
  refine ⟨fun c => k0 _ c m_fr.t0, fun c => ?_⟩
  have c' := Classical.not_not.mp c
  obtain ⟨m, hm, e⟩ := z_ixn (n := 5) (fun q => q c'.1) (by omega)
  have kk := fun h' => k1 h' m e (by omega) c'.2
  clear k0 k1
  subst e
  refine m_costsBy s0 b hB0 (by omega) c'.2 (fun h1 f1 K => ?_)
  have s1 := f1.s s0
  simp (disch := first | assumption | omega) only [p_some, p_gd, p_br, p_bi, p_nm, p_mp, p_Sl, p_Sr, p_bis, p_gdt, q_IL, q_IR, q_LI, q_LR, q_RI, q_RL, q_KI, q_KL, q_KR, q_NI, q_NL, q_NR, q_nI, q_nL, q_nR, q_okI, q_okL, q_okR, q_Ie, q_In, q_Le, q_Ln, SM_I, SM_L, s_c0, s_cg0, s_cl0, s_cge, s_cle, r_le, r_lt, r_eq, r_md, r_2, r_3, r_lit, r_litL, r_m1, nI_add, nI_1, nI_clamp, nI_leI, nI_ltI, nI_eq, pk_sub, q_ix, nI_l, lN_add, lN_mul, r_m1n, r_m1n', r_m1lt, r_m1nlt, r_m1le, r_m1nle, Nat.not_lt_zero, Nat.reduceEqDiff, Nat.reduceLT, Nat.reduceLeDiff, true_and, and_true, true_implies, false_implies, not_true_eq_false, not_false_eq_true, implies_true, and_self, ne_eq, decide_true, decide_false, Bool.not_true, Bool.not_false, if_true, if_false, reduceIte, mk0, mk1, mk2, mk3, mk4, mk5, mk6, mk7, mk8, mk9, mk10, mk11, mk12, mk13, mk14, mk15, mk16, mk17, mk18, mk19, mk20, mk21, mk22, mn1, mn2, mn3, mn4, mn5, mn6, mn7, mn8, mn9, mn10, mn11, mn12, mn13, mn14, mn15, mn16, mn17, mn18, mn19, mn20, mn21, mn22, mr1, mr6, mr7, mr8, mr9, mr10, mr21, mr22, mr23, mr25, mr26, mr29, mr30, mr32, mr33, mr34, mr43, mr47, mr53, mr54, mr55, mr56]
  have f2 : m_fr (fun o k => (o ≠ 0 ∨ k ≠ 31) ∧ o ≠ 13) h1 (z_sI (z_sI h1 0 31 (nI 0)) 13 0 (nI 0)) := (m_fr.rf.sI (by omega)).sI (by omega)
  have X2 : mT (z_sI (z_sI h1 0 31 (nI 0)) 13 0 (nI 0)) [] := ⟨(q_In (by omega)).trans (q_Ie rfl rfl), fun i hi => absurd hi (Nat.not_lt_zero _)⟩
  have i0 : z_I (z_sI (z_sI h1 0 31 (nI 0)) 13 0 (nI 0)) 13 0 = nI 0 := q_Ie rfl rfl
  generalize z_sI (z_sI h1 0 31 (nI 0)) 13 0 (nI 0) = h2 at f2 X2 i0 ⊢
  have s2 := f2.s s1
  have fA : m_fr (fun o k => mKp o k ∧ mCt o k) h h2 := (m_fr.t0.w (fun o k c => c.1)).tr ((f1.w (fun o k c => by have := c.1; unfold mKp at this; unfold mCf; omega)).tr (f2.w (fun o k c => by have c1 := c.1; have c2 := c.2; unfold mKp at c1; unfold mCt at c2; omega)))
  have hB2 : mB h2 bk := fun k hk => (f2.I 2 k (by omega)).trans ((f1.I 2 k (by unfold mCf; omega)).trans (hB0 k hk))
  have N2 : mNm h2 bk nm := ⟨fun t ht => (f2.L 5 t (by omega)).trans ((f1.L 5 t (by unfold mCf; omega)).trans (N.1 t ht)), fun t ht => (f2.L 5 (8 + t) (by omega)).trans ((f1.L 5 (8 + t) (by unfold mCf; omega)).trans (N.2 t ht))⟩
  have K2 : mKn h2 bk m 0 729 := fun y hy h1 h3 => by
    obtain ⟨a1, a2⟩ := K y hy h1 h3
    exact ⟨(f2.L 10 y (by omega)).trans a1, (f2.I 11 y (by omega)).trans a2⟩
  have wl := a_wl_le m (by omega)
  unfold fX12_write_b34
  have due := m_due s2 b hB2 (show m ≤ 4 by omega) c'.2 N2 hM K2 m h2 0 0 [] Q (by rw [a_aq_0]; omega) (by omega) (by omega) m_fr.rf i0 X2 (by rw [List.length_nil]; omega) (fun h3 f3 X3 => ?_)
  · exact due
  · have s3 := f3.s s2
    have X3' : mT h3 (a_wt bk nm m 0) := X3
    refine p_unP (fun P hP => ?_)
    unfold fX12_write_b34_i
    dsimp only
    rw [p_brT (show nI 0 ≤ 0 by decide)]
    simp (disch := first | assumption | omega) only [p_some, p_gd, p_br, p_bi, p_nm, p_mp, p_Sl, p_Sr, p_bis, p_gdt, Nat.not_lt_zero, Nat.reduceEqDiff, Nat.reduceLT, Nat.reduceLeDiff, true_and, and_true, true_implies, false_implies, not_true_eq_false, not_false_eq_true, implies_true, and_self, ne_eq, decide_true, decide_false, Bool.not_true, Bool.not_false, if_true, if_false, reduceIte, mk0 s3, X3'.1]
    exact kk h3 (fA.tr (f3.w (fun o k c => by have c1 := c.1; have c2 := c.2; unfold mKp at c1; unfold mCt at c2; unfold mCw; omega))) X3'
