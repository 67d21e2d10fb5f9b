/-! write of the reference: its stack of what is due -/
def mCw (j o k : Nat) : Prop := (o ≠ 0 ∨ (k ≠ 27 ∧ k ≠ 28 ∧ k ≠ 31)) ∧ o ≠ 12 ∧ (o ≠ 13 ∨ k < j)
theorem a_bl_ne {T : List Nat} (h : T ≠ []) : a_bl T = T ++ [32] := if_neg h
theorem m_isUpCheap {h : z_T} {bk : Nat → Nat} {A B : Nat} (s : SM h) (b : BOK bk) (hB : mB h bk) (l27 : z_L h 0 27 = lN A) (l28 : z_L h 0 28 = lN B) (hA : A ≤ 10628820) (hB2 : B ≤ 63772920) : fX12_isUpCheap 0 h = some (if bk 5 * A < bk 6 * B then nI 0 else nI 1) := by
  have v5 : bk 5 * A ≤ 99 * 10628820 := Nat.mul_le_mul b.2.2.2.2.2.1 hA
  have v6 : bk 6 * B ≤ 99 * 63772920 := Nat.mul_le_mul b.2.2.2.2.2.2.1 hB2
  have h5 := b.2.2.2.2.2.1
  have h6 := b.2.2.2.2.2.2.1
  have hB5 := hB 5 (by decide)
  have hB6 := hB 6 (by decide)
  refine p_of ?_
  unfold fX12_isUpCheap
  simp (disch := first | assumption | omega) only [p_some, p_gd, p_br, p_bi, p_nm, p_mp, p_Sl, p_Sr, p_bis, p_gdt, q_IL, q_IR, q_LI, q_LR, q_RI, q_RL, q_KI, q_KL, q_KR, q_NI, q_NL, q_NR, q_nI, q_nL, q_nR, q_okI, q_okL, q_okR, q_Ie, q_In, q_Le, q_Ln, SM_I, SM_L, s_c0, s_cg0, s_cl0, s_cge, s_cle, r_le, r_lt, r_eq, r_md, r_2, r_3, r_lit, r_litL, r_m1, nI_add, nI_1, nI_clamp, nI_leI, nI_ltI, nI_eq, pk_sub, q_ix, nI_l, lN_add, lN_mul, r_m1n, r_m1n', r_m1lt, r_m1nlt, r_m1le, r_m1nle, Nat.not_lt_zero, Nat.reduceEqDiff, Nat.reduceLT, Nat.reduceLeDiff, true_and, and_true, true_implies, false_implies, not_true_eq_false, not_false_eq_true, implies_true, and_self, ne_eq, decide_true, decide_false, Bool.not_true, Bool.not_false, if_true, if_false, reduceIte, mk0, mk1, mk2, mk3, mk4, mk5, mk6, mk7, mk8, mk9, mk10, mk11, mk12, mk13, mk14, mk15, mk16, mk17, mk18, mk19, mk20, mk21, mk22, mn1, mn2, mn3, mn4, mn5, mn6, mn7, mn8, mn9, mn10, mn11, mn12, mn13, mn14, mn15, mn16, mn17, mn18, mn19, mn20, mn21, mn22, mr1, mr6, mr7, mr8, mr9, mr10, mr21, mr22, mr23, mr25, mr26, mr29, mr30, mr32, mr33, mr34, mr43, mr47, mr53, mr54, mr55, mr56, hB5, hB6, l27, l28]
  refine ⟨fun c => ?_, fun c => ?_⟩
  · rw [if_pos c]
  · rw [if_neg c]
theorem a_ew1 : ∀ c, c < 128 → 0 < c → a_ew (fun i => c / 256 ^ i % 256) 7 = [c] := by decide +kernel
theorem a_ewd1 : ∀ c, c < 128 → ∀ i, i < 7 → c / 256 ^ i % 256 < 128 := by decide +kernel
theorem m_sgn {h : z_T} {j c : Nat} {T : List Nat} {v : Int32} {Q : Int32 × z_T → Prop} (s : SM h) (hj : j < 64) (hv : ¬ 0 ≤ v) (hw : (-v).toInt64 = lN c) (h0 : 0 < c) (hc : c < 128) (e : z_I h 13 j = v) (X : mT h T) (hne : T ≠ []) (hL : T.length + 8 ≤ 400)
    (k : ∀ h', m_fr mCt h h' → mT h' (T ++ [32, c]) → p_W (y_lp (fun q : Int32 × z_T => fX12_write_b34_i 0 q.1 q.2) (nI j, h')) Q) : p_W (y_lp (fun q : Int32 × z_T => fX12_write_b34_i 0 q.1 q.2) (nI (j + 1), h)) Q := by
  refine p_unP (fun P hP => ?_)
  unfold fX12_write_b34_i
  dsimp only
  rw [p_brF (show ¬ nI (j + 1) ≤ 0 by rw [show (0 : Int32) = nI 0 from rfl, nI_leI (by omega) (by omega)]; omega)]
  simp (disch := first | assumption | omega) only [p_some, p_gd, p_br, p_bi, p_nm, p_mp, p_Sl, p_Sr, p_bis, p_gdt, q_IL, q_IR, q_LI, q_LR, q_RI, q_RL, q_KI, q_KL, q_KR, q_NI, q_NL, q_NR, q_nI, q_nL, q_nR, q_okI, q_okL, q_okR, q_Ie, q_In, q_Le, q_Ln, SM_I, SM_L, s_c0, s_cg0, s_cl0, s_cge, s_cle, r_le, r_lt, r_eq, r_md, r_2, r_3, r_lit, r_litL, r_m1, nI_add, nI_1, nI_clamp, nI_leI, nI_ltI, nI_eq, pk_sub, q_ix, nI_l, lN_add, lN_mul, r_m1n, r_m1n', r_m1lt, r_m1nlt, r_m1le, r_m1nle, Nat.not_lt_zero, Nat.reduceEqDiff, Nat.reduceLT, Nat.reduceLeDiff, true_and, and_true, true_implies, false_implies, not_true_eq_false, not_false_eq_true, implies_true, and_self, ne_eq, decide_true, decide_false, Bool.not_true, Bool.not_false, if_true, if_false, reduceIte, mk0, mk1, mk2, mk3, mk4, mk5, mk6, mk7, mk8, mk9, mk10, mk11, mk12, mk13, mk14, mk15, mk16, mk17, mk18, mk19, mk20, mk21, mk22, mn1, mn2, mn3, mn4, mn5, mn6, mn7, mn8, mn9, mn10, mn11, mn12, mn13, mn14, mn15, mn16, mn17, mn18, mn19, mn20, mn21, mn22, mr1, mr6, mr7, mr8, mr9, mr10, mr21, mr22, mr23, mr25, mr26, mr29, mr30, mr32, mr33, mr34, mr43, mr47, mr53, mr54, mr55, mr56, s_decm, Nat.add_sub_cancel, e]
  refine ⟨fun q => absurd q hv, fun _ => ?_⟩
  rw [hw]
  refine m_putWord s X hL (by omega) (a_ewd1 c hc) (fun h1 f1 X1 => ?_)
  rw [a_ew1 c hc h0] at X1
  rw [a_bl_ne hne, List.append_assoc] at X1
  exact hP _ (k h1 f1 X1)
theorem m_due {h0 : z_T} {n : Nat} {bk nm : Nat → Nat} (s0 : SM h0) (b : BOK bk) (hB0 : mB h0 bk) (hn : n ≤ 4) (hb0 : bk 0 ≤ 6) (N : mNm h0 bk nm) (hM : NMO bk nm) (K : mKn h0 bk n 0 729) : ∀ r, ∀ (h : z_T) (x j : Nat) (T : List Nat) (Q : Int32 × z_T → Prop), a_aq x 6 + r = n → x < 729 → j + 4 * r + 1 ≤ 64 → m_fr (mCw 0) h0 h → z_I h 13 j = nI x → mT h T → T.length + a_wl r + 20 ≤ 400 → (∀ h', m_fr (mCw j) h h' → mT h' (a_bl T ++ a_wt bk nm r x) → p_W (y_lp (fun q : Int32 × z_T => fX12_write_b34_i 0 q.1 q.2) (nI j, h')) Q) → p_W (y_lp (fun q : Int32 × z_T => fX12_write_b34_i 0 q.1 q.2) (nI (j + 1), h)) Q := by
  have leafG : ∀ (r : Nat) (h : z_T) (x j : Nat) (T : List Nat) (Q : Int32 × z_T → Prop), x < 729 → j + 1 ≤ 64 → m_fr (mCw 0) h0 h → z_I h 13 j = nI x → z_I h 11 x = m1 → mT h T → T.length + 20 ≤ 400 → (∀ h', m_fr (mCw j) h h' → mT h' (a_bl T ++ a_lw bk x) → p_W (y_lp (fun q : Int32 × z_T => fX12_write_b34_i 0 q.1 q.2) (nI j, h')) Q) → p_W (y_lp (fun q : Int32 × z_T => fX12_write_b34_i 0 q.1 q.2) (nI (j + 1), h)) Q := fun r h x j T Q hx hj F e ec X hL k => by
    have s := F.s s0
    have hB : mB h bk := fun k hk => (F.I 2 k (by unfold mCw; omega)).trans (hB0 k hk)
    refine p_unP (fun P hP => ?_)
    unfold fX12_write_b34_i
    dsimp only
    rw [p_brF (show ¬ nI (j + 1) ≤ 0 by rw [show (0 : Int32) = nI 0 from rfl, nI_leI (by omega) (by omega)]; omega)]
    simp (disch := first | assumption | omega) only [p_some, p_gd, p_br, p_bi, p_nm, p_mp, p_Sl, p_Sr, p_bis, p_gdt, q_IL, q_IR, q_LI, q_LR, q_RI, q_RL, q_KI, q_KL, q_KR, q_NI, q_NL, q_NR, q_nI, q_nL, q_nR, q_okI, q_okL, q_okR, q_Ie, q_In, q_Le, q_Ln, SM_I, SM_L, s_c0, s_cg0, s_cl0, s_cge, s_cle, r_le, r_lt, r_eq, r_md, r_2, r_3, r_lit, r_litL, r_m1, nI_add, nI_1, nI_clamp, nI_leI, nI_ltI, nI_eq, pk_sub, q_ix, nI_l, lN_add, lN_mul, r_m1n, r_m1n', r_m1lt, r_m1nlt, r_m1le, r_m1nle, Nat.not_lt_zero, Nat.reduceEqDiff, Nat.reduceLT, Nat.reduceLeDiff, true_and, and_true, true_implies, false_implies, not_true_eq_false, not_false_eq_true, implies_true, and_self, ne_eq, decide_true, decide_false, Bool.not_true, Bool.not_false, if_true, if_false, reduceIte, mk0, mk1, mk2, mk3, mk4, mk5, mk6, mk7, mk8, mk9, mk10, mk11, mk12, mk13, mk14, mk15, mk16, mk17, mk18, mk19, mk20, mk21, mk22, mn1, mn2, mn3, mn4, mn5, mn6, mn7, mn8, mn9, mn10, mn11, mn12, mn13, mn14, mn15, mn16, mn17, mn18, mn19, mn20, mn21, mn22, mr1, mr6, mr7, mr8, mr9, mr10, mr21, mr22, mr23, mr25, mr26, mr29, mr30, mr32, mr33, mr34, mr43, mr47, mr53, mr54, mr55, mr56, s_decm, Nat.add_sub_cancel, e, Nat.zero_le, ec]
    refine m_weighs s b hB hx (fun h1 f1 g27 g28 => ?_)
    have s1 := f1.s s
    have hB1 : mB h1 bk := fun k hk => (f1.I 2 k (by unfold mWf; omega)).trans (hB k hk)
    have up := m_isUpCheap s1 b hB1 g27 g28 (a_q_le b (by decide)) (a_q1_le b)
    have X1 : mT h1 T := ⟨(f1.I 0 31 (by unfold mWf; omega)).trans X.1, fun i hi => (f1.I 12 i (by unfold mWf; omega)).trans (X.2 i hi)⟩
    have f1' : m_fr (mCw j) h h1 := f1.w (fun o k c => by unfold mCw at c; unfold mWf; omega)
    unfold a_lw at k
    by_cases c : bk 5 * a_q bk x 0 < bk 6 * a_q1 bk x 6
    · rw [if_pos c] at up k
      simp (disch := first | assumption | omega) only [p_some, p_gd, p_br, p_bi, p_nm, p_mp, p_Sl, p_Sr, p_bis, p_gdt, q_IL, q_IR, q_LI, q_LR, q_RI, q_RL, q_KI, q_KL, q_KR, q_NI, q_NL, q_NR, q_nI, q_nL, q_nR, q_okI, q_okL, q_okR, q_Ie, q_In, q_Le, q_Ln, SM_I, SM_L, s_c0, s_cg0, s_cl0, s_cge, s_cle, r_le, r_lt, r_eq, r_md, r_2, r_3, r_lit, r_litL, r_m1, nI_add, nI_1, nI_clamp, nI_leI, nI_ltI, nI_eq, pk_sub, q_ix, nI_l, lN_add, lN_mul, r_m1n, r_m1n', r_m1lt, r_m1nlt, r_m1le, r_m1nle, Nat.not_lt_zero, Nat.reduceEqDiff, Nat.reduceLT, Nat.reduceLeDiff, true_and, and_true, true_implies, false_implies, not_true_eq_false, not_false_eq_true, implies_true, and_self, ne_eq, decide_true, decide_false, Bool.not_true, Bool.not_false, if_true, if_false, reduceIte, mk0, mk1, mk2, mk3, mk4, mk5, mk6, mk7, mk8, mk9, mk10, mk11, mk12, mk13, mk14, mk15, mk16, mk17, mk18, mk19, mk20, mk21, mk22, mn1, mn2, mn3, mn4, mn5, mn6, mn7, mn8, mn9, mn10, mn11, mn12, mn13, mn14, mn15, mn16, mn17, mn18, mn19, mn20, mn21, mn22, mr1, mr6, mr7, mr8, mr9, mr10, mr21, mr22, mr23, mr25, mr26, mr29, mr30, mr32, mr33, mr34, mr43, mr47, mr53, mr54, mr55, mr56, up]
      unfold fX12_write_b98
      simp (disch := first | assumption | omega) only [p_some, p_gd, p_br, p_bi, p_nm, p_mp, p_Sl, p_Sr, p_bis, p_gdt, q_IL, q_IR, q_LI, q_LR, q_RI, q_RL, q_KI, q_KL, q_KR, q_NI, q_NL, q_NR, q_nI, q_nL, q_nR, q_okI, q_okL, q_okR, q_Ie, q_In, q_Le, q_Ln, SM_I, SM_L, s_c0, s_cg0, s_cl0, s_cge, s_cle, r_le, r_lt, r_eq, r_md, r_2, r_3, r_lit, r_litL, r_m1, nI_add, nI_1, nI_clamp, nI_leI, nI_ltI, nI_eq, pk_sub, q_ix, nI_l, lN_add, lN_mul, r_m1n, r_m1n', r_m1lt, r_m1nlt, r_m1le, r_m1nle, Nat.not_lt_zero, Nat.reduceEqDiff, Nat.reduceLT, Nat.reduceLeDiff, true_and, and_true, true_implies, false_implies, not_true_eq_false, not_false_eq_true, implies_true, and_self, ne_eq, decide_true, decide_false, Bool.not_true, Bool.not_false, if_true, if_false, reduceIte, mk0, mk1, mk2, mk3, mk4, mk5, mk6, mk7, mk8, mk9, mk10, mk11, mk12, mk13, mk14, mk15, mk16, mk17, mk18, mk19, mk20, mk21, mk22, mn1, mn2, mn3, mn4, mn5, mn6, mn7, mn8, mn9, mn10, mn11, mn12, mn13, mn14, mn15, mn16, mn17, mn18, mn19, mn20, mn21, mn22, mr1, mr6, mr7, mr8, mr9, mr10, mr21, mr22, mr23, mr25, mr26, mr29, mr30, mr32, mr33, mr34, mr43, mr47, mr53, mr54, mr55, mr56]
      refine m_putWord s1 X1 (by omega) (by omega) (by decide +kernel) (fun h2 f2 X2 => ?_)
      exact hP _ (k h2 (f1'.tr (f2.w (fun o k c => by unfold mCw at c; unfold mCt; omega))) X2)
    · rw [if_neg c] at up k
      simp (disch := first | assumption | omega) only [p_some, p_gd, p_br, p_bi, p_nm, p_mp, p_Sl, p_Sr, p_bis, p_gdt, q_IL, q_IR, q_LI, q_LR, q_RI, q_RL, q_KI, q_KL, q_KR, q_NI, q_NL, q_NR, q_nI, q_nL, q_nR, q_okI, q_okL, q_okR, q_Ie, q_In, q_Le, q_Ln, SM_I, SM_L, s_c0, s_cg0, s_cl0, s_cge, s_cle, r_le, r_lt, r_eq, r_md, r_2, r_3, r_lit, r_litL, r_m1, nI_add, nI_1, nI_clamp, nI_leI, nI_ltI, nI_eq, pk_sub, q_ix, nI_l, lN_add, lN_mul, r_m1n, r_m1n', r_m1lt, r_m1nlt, r_m1le, r_m1nle, Nat.not_lt_zero, Nat.reduceEqDiff, Nat.reduceLT, Nat.reduceLeDiff, true_and, and_true, true_implies, false_implies, not_true_eq_false, not_false_eq_true, implies_true, and_self, ne_eq, decide_true, decide_false, Bool.not_true, Bool.not_false, if_true, if_false, reduceIte, mk0, mk1, mk2, mk3, mk4, mk5, mk6, mk7, mk8, mk9, mk10, mk11, mk12, mk13, mk14, mk15, mk16, mk17, mk18, mk19, mk20, mk21, mk22, mn1, mn2, mn3, mn4, mn5, mn6, mn7, mn8, mn9, mn10, mn11, mn12, mn13, mn14, mn15, mn16, mn17, mn18, mn19, mn20, mn21, mn22, mr1, mr6, mr7, mr8, mr9, mr10, mr21, mr22, mr23, mr25, mr26, mr29, mr30, mr32, mr33, mr34, mr43, mr47, mr53, mr54, mr55, mr56, up, show ¬ (1 : Nat) = 0 by decide]
      unfold fX12_write_b98
      simp (disch := first | assumption | omega) only [p_some, p_gd, p_br, p_bi, p_nm, p_mp, p_Sl, p_Sr, p_bis, p_gdt, q_IL, q_IR, q_LI, q_LR, q_RI, q_RL, q_KI, q_KL, q_KR, q_NI, q_NL, q_NR, q_nI, q_nL, q_nR, q_okI, q_okL, q_okR, q_Ie, q_In, q_Le, q_Ln, SM_I, SM_L, s_c0, s_cg0, s_cl0, s_cge, s_cle, r_le, r_lt, r_eq, r_md, r_2, r_3, r_lit, r_litL, r_m1, nI_add, nI_1, nI_clamp, nI_leI, nI_ltI, nI_eq, pk_sub, q_ix, nI_l, lN_add, lN_mul, r_m1n, r_m1n', r_m1lt, r_m1nlt, r_m1le, r_m1nle, Nat.not_lt_zero, Nat.reduceEqDiff, Nat.reduceLT, Nat.reduceLeDiff, true_and, and_true, true_implies, false_implies, not_true_eq_false, not_false_eq_true, implies_true, and_self, ne_eq, decide_true, decide_false, Bool.not_true, Bool.not_false, if_true, if_false, reduceIte, mk0, mk1, mk2, mk3, mk4, mk5, mk6, mk7, mk8, mk9, mk10, mk11, mk12, mk13, mk14, mk15, mk16, mk17, mk18, mk19, mk20, mk21, mk22, mn1, mn2, mn3, mn4, mn5, mn6, mn7, mn8, mn9, mn10, mn11, mn12, mn13, mn14, mn15, mn16, mn17, mn18, mn19, mn20, mn21, mn22, mr1, mr6, mr7, mr8, mr9, mr10, mr21, mr22, mr23, mr25, mr26, mr29, mr30, mr32, mr33, mr34, mr43, mr47, mr53, mr54, mr55, mr56]
      refine m_putWord s1 X1 (by omega) (by omega) (by decide +kernel) (fun h2 f2 X2 => ?_)
      exact hP _ (k h2 (f1'.tr (f2.w (fun o k c => by unfold mCw at c; unfold mCt; omega))) X2)
  intro r
  induction r with
  | zero =>
    intro h x j T Q har hx hj F e X hL k
    have K0 := (K x hx (by omega) (by omega)).2
    rw [show n - a_aq x 6 = 0 by omega] at K0
    have K1 : z_I h 11 x = m1 := (F.I 11 x (by unfold mCw; omega)).trans K0
    exact leafG 0 h x j T Q hx (by omega) F e K1 X (by have := a_wl3 0; omega) k
  | succ r ih =>
    intro h x j T Q har hx hj F e X hL k
    have w3 := a_wl3 r
    have K0 := (K x hx (by omega) (by omega)).2
    rw [show n - a_aq x 6 = r + 1 by omega] at K0
    have K1 := (F.I 11 x (by unfold mCw; omega)).trans K0
    rw [a_wl] at hL
    by_cases c6 : (a_V bk (r + 1) x).2 = 6
    · rw [c6] at K1
      rw [a_wt, if_pos c6] at k
      exact leafG 0 h x j T Q hx (by omega) F e K1 X (by omega) k
    · obtain ⟨v1, v2⟩ := (a_V_6 (bk := bk) (r := r + 1) (x := x)).resolve_left c6
      rw [a_wt, if_neg c6] at k
      rw [a_cI_n c6] at K1
      generalize (a_V bk (r + 1) x).2 = t at *
      obtain ⟨g1, g2, g3⟩ := a_go x hx t (by omega) v2
      have p30 : 0 < 3 ^ t := Nat.pow_pos (by decide)
      have p3 : 3 ^ t ≤ 243 := Nat.le_trans (Nat.pow_le_pow_right (by decide) (show t ≤ 5 by omega)) (by decide)
      have mp := m_power (a := 3) (n := t) (by decide) (by omega)
      have hnm := hM.1 t v1
      have hnl : (a_nt (nm t)).length ≤ 7 := a_ew_len
      have hne := a_nt_ne hnm.1 hnm.2
      have hw := a_wt_len (bk := bk) (nm := nm) r (x + 3 ^ t)
      have s := F.s s0
      have eN := (F.L 5 t (by unfold mCw; omega)).trans (N.1 t v1)
      have c7 := a_c8_lt 7 (nm t)
      have d7 : ∀ i, i < 7 → a_c8 7 (nm t) / 256 ^ i % 256 < 128 := fun i hi => by
        rw [a_c8_dg 7 _ i hi]
        exact a_cv_lt (Nat.mod_lt _ (by decide))
      have e8 := a_nt_8 (N := nm t)
      refine p_unP (fun P' hP => ?_)
      unfold fX12_write_b34_i
      dsimp only
      rw [p_brF (show ¬ nI (j + 1) ≤ 0 by rw [show (0 : Int32) = nI 0 from rfl, nI_leI (by omega) (by omega)]; omega)]
      generalize 3 ^ t = P at *
      simp (disch := first | assumption | omega) only [p_some, p_gd, p_br, p_bi, p_nm, p_mp, p_Sl, p_Sr, p_bis, p_gdt, q_IL, q_IR, q_LI, q_LR, q_RI, q_RL, q_KI, q_KL, q_KR, q_NI, q_NL, q_NR, q_nI, q_nL, q_nR, q_okI, q_okL, q_okR, q_Ie, q_In, q_Le, q_Ln, SM_I, SM_L, s_c0, s_cg0, s_cl0, s_cge, s_cle, r_le, r_lt, r_eq, r_md, r_2, r_3, r_lit, r_litL, r_m1, nI_add, nI_1, nI_clamp, nI_leI, nI_ltI, nI_eq, pk_sub, q_ix, nI_l, lN_add, lN_mul, r_m1n, r_m1n', r_m1lt, r_m1nlt, r_m1le, r_m1nle, Nat.not_lt_zero, Nat.reduceEqDiff, Nat.reduceLT, Nat.reduceLeDiff, true_and, and_true, true_implies, false_implies, not_true_eq_false, not_false_eq_true, implies_true, and_self, ne_eq, decide_true, decide_false, Bool.not_true, Bool.not_false, if_true, if_false, reduceIte, mk0, mk1, mk2, mk3, mk4, mk5, mk6, mk7, mk8, mk9, mk10, mk11, mk12, mk13, mk14, mk15, mk16, mk17, mk18, mk19, mk20, mk21, mk22, mn1, mn2, mn3, mn4, mn5, mn6, mn7, mn8, mn9, mn10, mn11, mn12, mn13, mn14, mn15, mn16, mn17, mn18, mn19, mn20, mn21, mn22, mr1, mr6, mr7, mr8, mr9, mr10, mr21, mr22, mr23, mr25, mr26, mr29, mr30, mr32, mr33, mr34, mr43, mr47, mr53, mr54, mr55, mr56, s_decm, Nat.add_sub_cancel, e, Nat.zero_le, K1, mp, eN, show (lN P).toInt32 = nI P from Int64.toInt32_ofNat']
      refine m_putWord s X (by omega) c7 d7 (fun h1 f1 X1 => ?_)
      rw [← e8] at X1
      have s1 := f1.s s
      have lb : (a_bl T).length ≤ T.length + 1 := by
        unfold a_bl
        split
        · rw [List.length_nil]; omega
        · rw [a_len1]; omega
      simp (disch := first | assumption | omega) only [p_some, p_gd, p_br, p_bi, p_nm, p_mp, p_Sl, p_Sr, p_bis, p_gdt, q_IL, q_IR, q_LI, q_LR, q_RI, q_RL, q_KI, q_KL, q_KR, q_NI, q_NL, q_NR, q_nI, q_nL, q_nR, q_okI, q_okL, q_okR, q_Ie, q_In, q_Le, q_Ln, SM_I, SM_L, s_c0, s_cg0, s_cl0, s_cge, s_cle, r_le, r_lt, r_eq, r_md, r_2, r_3, r_lit, r_litL, r_m1, nI_add, nI_1, nI_clamp, nI_leI, nI_ltI, nI_eq, pk_sub, q_ix, nI_l, lN_add, lN_mul, r_m1n, r_m1n', r_m1lt, r_m1nlt, r_m1le, r_m1nle, Nat.not_lt_zero, Nat.reduceEqDiff, Nat.reduceLT, Nat.reduceLeDiff, true_and, and_true, true_implies, false_implies, not_true_eq_false, not_false_eq_true, implies_true, and_self, ne_eq, decide_true, decide_false, Bool.not_true, Bool.not_false, if_true, if_false, reduceIte, mk0, mk1, mk2, mk3, mk4, mk5, mk6, mk7, mk8, mk9, mk10, mk11, mk12, mk13, mk14, mk15, mk16, mk17, mk18, mk19, mk20, mk21, mk22, mn1, mn2, mn3, mn4, mn5, mn6, mn7, mn8, mn9, mn10, mn11, mn12, mn13, mn14, mn15, mn16, mn17, mn18, mn19, mn20, mn21, mn22, mr1, mr6, mr7, mr8, mr9, mr10, mr21, mr22, mr23, mr25, mr26, mr29, mr30, mr32, mr33, mr34, mr43, mr47, mr53, mr54, mr55, mr56, pk_mul]
      have f2 : m_fr (mCw j) h (z_sI (z_sI (z_sI (z_sI (z_sI h1 13 j (-nI 41)) 13 (j + 1) (nI (x + 2 * P))) 13 (j + 2) (-nI 59)) 13 (j + 3) (nI (x + P))) 13 (j + 4) (-nI 40)) := (((((f1.w (fun o k c => by unfold mCw at c; unfold mCt; omega)).sI (by unfold mCw; omega)).sI (by unfold mCw; omega)).sI (by unfold mCw; omega)).sI (by unfold mCw; omega)).sI (by unfold mCw; omega)
      have i4 : z_I (z_sI (z_sI (z_sI (z_sI (z_sI h1 13 j (-nI 41)) 13 (j + 1) (nI (x + 2 * P))) 13 (j + 2) (-nI 59)) 13 (j + 3) (nI (x + P))) 13 (j + 4) (-nI 40)) 13 (j + 4) = -nI 40 := q_Ie rfl rfl
      have i3 : z_I (z_sI (z_sI (z_sI (z_sI (z_sI h1 13 j (-nI 41)) 13 (j + 1) (nI (x + 2 * P))) 13 (j + 2) (-nI 59)) 13 (j + 3) (nI (x + P))) 13 (j + 4) (-nI 40)) 13 (j + 3) = nI (x + P) := (q_In (by omega)).trans (q_Ie rfl rfl)
      have i2 : z_I (z_sI (z_sI (z_sI (z_sI (z_sI h1 13 j (-nI 41)) 13 (j + 1) (nI (x + 2 * P))) 13 (j + 2) (-nI 59)) 13 (j + 3) (nI (x + P))) 13 (j + 4) (-nI 40)) 13 (j + 2) = -nI 59 := (q_In (by omega)).trans ((q_In (by omega)).trans (q_Ie rfl rfl))
      have i1 : z_I (z_sI (z_sI (z_sI (z_sI (z_sI h1 13 j (-nI 41)) 13 (j + 1) (nI (x + 2 * P))) 13 (j + 2) (-nI 59)) 13 (j + 3) (nI (x + P))) 13 (j + 4) (-nI 40)) 13 (j + 1) = nI (x + 2 * P) := (q_In (by omega)).trans ((q_In (by omega)).trans ((q_In (by omega)).trans (q_Ie rfl rfl)))
      have i0 : z_I (z_sI (z_sI (z_sI (z_sI (z_sI h1 13 j (-nI 41)) 13 (j + 1) (nI (x + 2 * P))) 13 (j + 2) (-nI 59)) 13 (j + 3) (nI (x + P))) 13 (j + 4) (-nI 40)) 13 j = -nI 41 := (q_In (by omega)).trans ((q_In (by omega)).trans ((q_In (by omega)).trans ((q_In (by omega)).trans (q_Ie rfl rfl))))
      have X2 : mT (z_sI (z_sI (z_sI (z_sI (z_sI h1 13 j (-nI 41)) 13 (j + 1) (nI (x + 2 * P))) 13 (j + 2) (-nI 59)) 13 (j + 3) (nI (x + P))) 13 (j + 4) (-nI 40)) (a_bl T ++ a_nt (nm t)) := X1
      generalize z_sI (z_sI (z_sI (z_sI (z_sI h1 13 j (-nI 41)) 13 (j + 1) (nI (x + 2 * P))) 13 (j + 2) (-nI 59)) 13 (j + 3) (nI (x + P))) 13 (j + 4) (-nI 40) = h2 at f2 i4 i3 i2 i1 i0 X2 ⊢
      have s2 := f2.s s
      have w0 : ∀ o k, mCw 0 o k → mCw j o k := fun o k c => by unfold mCw at c ⊢; omega
      have l2 : (a_bl T ++ a_nt (nm t)).length = (a_bl T).length + (a_nt (nm t)).length := List.length_append
      have n2 : a_bl T ++ a_nt (nm t) ≠ [] := fun q => hne (List.append_eq_nil_iff.mp q).2
      have wC : ∀ i, ∀ o k, mCw i o k → mCt o k := fun i o k c => by unfold mCw at c; unfold mCt; omega
      refine hP _ ?_
      refine m_sgn (c := 40) s2 (by omega) (by decide) (by decide) (by decide) (by decide) i4 X2 n2 (by omega) (fun h3 f3 X3 => ?_)
      have s3 := f3.s s2
      have F3 : m_fr (mCw j) h h3 := f2.tr (f3.w (wC j))
      have l3 : (a_bl T ++ a_nt (nm t) ++ [32, 40]).length = (a_bl T).length + (a_nt (nm t)).length + 2 := by rw [List.length_append, l2]; rfl
      have n3 : a_bl T ++ a_nt (nm t) ++ [32, 40] ≠ [] := fun q => n2 (List.append_eq_nil_iff.mp q).1
      refine ih h3 (x + P) (j + 3) _ Q (by omega) (by omega) (by omega) (F.tr (F3.w w0)) ((f3.I 13 (j + 3) (by unfold mCt; omega)).trans i3) X3 (by omega) (fun h4 f4 X4 => ?_)
      have F4 : m_fr (mCw j) h h4 := F3.tr (f4.w (fun o k c => by unfold mCw at c ⊢; omega))
      have s4 := F4.s s
      rw [a_bl_ne n3] at X4
      have l4 : (a_bl T ++ a_nt (nm t) ++ [32, 40] ++ [32] ++ a_wt bk nm r (x + P)).length = (a_bl T).length + (a_nt (nm t)).length + 3 + (a_wt bk nm r (x + P)).length := by rw [List.length_append, List.length_append, l3]; rfl
      have n4 : a_bl T ++ a_nt (nm t) ++ [32, 40] ++ [32] ++ a_wt bk nm r (x + P) ≠ [] := fun q => n3 (List.append_eq_nil_iff.mp (List.append_eq_nil_iff.mp q).1).1
      have X4' : mT h4 (a_bl T ++ a_nt (nm t) ++ [32, 40] ++ [32] ++ a_wt bk nm r (x + P)) := X4
      refine m_sgn (c := 59) s4 (by omega) (by decide) (by decide) (by decide) (by decide) ((f4.I 13 (j + 2) (by unfold mCw; omega)).trans ((f3.I 13 (j + 2) (by unfold mCt; omega)).trans i2)) X4' n4 (by omega) (fun h5 f5 X5 => ?_)
      have F5 : m_fr (mCw j) h h5 := F4.tr (f5.w (wC j))
      have hw2 := a_wt_len (bk := bk) (nm := nm) r (x + 2 * P)
      have l5 : (a_bl T ++ a_nt (nm t) ++ [32, 40] ++ [32] ++ a_wt bk nm r (x + P) ++ [32, 59]).length = (a_bl T).length + (a_nt (nm t)).length + 5 + (a_wt bk nm r (x + P)).length := by
        rw [List.length_append, l4]
        show _ + 2 = _
        omega
      have n5 : a_bl T ++ a_nt (nm t) ++ [32, 40] ++ [32] ++ a_wt bk nm r (x + P) ++ [32, 59] ≠ [] := fun q => n4 (List.append_eq_nil_iff.mp q).1
      refine ih h5 (x + 2 * P) (j + 1) _ Q (by omega) (by omega) (by omega) (F.tr (F5.w w0)) ((f5.I 13 (j + 1) (by unfold mCt; omega)).trans ((f4.I 13 (j + 1) (by unfold mCw; omega)).trans ((f3.I 13 (j + 1) (by unfold mCt; omega)).trans i1))) X5 (by omega) (fun h6 f6 X6 => ?_)
      have F6 : m_fr (mCw j) h h6 := F5.tr (f6.w (fun o k c => by unfold mCw at c ⊢; omega))
      have s6 := F6.s s
      rw [a_bl_ne n5] at X6
      have X6' : mT h6 (a_bl T ++ a_nt (nm t) ++ [32, 40] ++ [32] ++ a_wt bk nm r (x + P) ++ [32, 59] ++ [32] ++ a_wt bk nm r (x + 2 * P)) := X6
      have l6 : (a_bl T ++ a_nt (nm t) ++ [32, 40] ++ [32] ++ a_wt bk nm r (x + P) ++ [32, 59] ++ [32] ++ a_wt bk nm r (x + 2 * P)).length = (a_bl T).length + (a_nt (nm t)).length + 6 + (a_wt bk nm r (x + P)).length + (a_wt bk nm r (x + 2 * P)).length := by
        rw [List.length_append, List.length_append, l5]
        show _ + 1 + _ = _
        omega
      have n6 : a_bl T ++ a_nt (nm t) ++ [32, 40] ++ [32] ++ a_wt bk nm r (x + P) ++ [32, 59] ++ [32] ++ a_wt bk nm r (x + 2 * P) ≠ [] := fun q => n5 (List.append_eq_nil_iff.mp (List.append_eq_nil_iff.mp q).1).1
      refine m_sgn (c := 41) s6 (by omega) (by decide) (by decide) (by decide) (by decide) ((f6.I 13 j (by unfold mCw; omega)).trans ((f5.I 13 j (by unfold mCt; omega)).trans ((f4.I 13 j (by unfold mCw; omega)).trans ((f3.I 13 j (by unfold mCt; omega)).trans i0)))) X6' n6 (by omega) (fun h7 f7 X7 => ?_)
      refine k h7 (F6.tr (f7.w (wC j))) ?_
      simp only [List.append_assoc, List.cons_append, List.nil_append] at X7 ⊢
      exact X7
