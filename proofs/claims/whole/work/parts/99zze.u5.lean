/-! tree of the reference, the call -/
theorem mC0.tf {o k : Nat} (c : mC0 o k) : mTf 0 o k := by
  obtain ⟨c1, c2⟩ := c
  unfold mKp at c1
  unfold mTf mGF
  omega
theorem m_openL {h : z_T} {L lim : Nat} {by8 : Nat → Nat} {TB : Nat → Int32} {Q : z_T → Prop} (s : SM h) (hr : mRs h) (T : mTp h L TB) (hT : ∀ i, i < L → TB i = a_sb (by8 i)) (hb : BY L by8) (hl : lim ≤ 900) (k : ∀ h1, SM h1 → m_fr (fun o k => mKp o k ∧ (o ≠ 0 ∨ k ≠ 2)) h h1 → z_I h1 0 2 = nI 0 → (∀ h2 Q', m_fr (fun o k => o ≠ 0 ∨ (k ≠ 15 ∧ k ≠ 19 ∧ k ≠ 20 ∧ k ≠ 35 ∧ k ≠ 36 ∧ k ≠ 37 ∧ 41 ≠ k ∧ k ≠ 42 ∧ (k < 48 ∨ k = 53 ∨ k = 54))) h1 h2 → z_I h2 0 15 = nI 0 → (∀ h3, m_fr mGo h2 h3 → mL by8 L lim h3 (a_lex by8 L lim 0) → Q' h3) → p_W (fX12_go 0 h2) Q') → Q h1) : p_W (fX12_taken 0 (nI lim) (z_sI h 0 0 (nI 0))) Q := by
  have s0 : SM (z_sI h 0 0 (nI 0)) := s
  have T0 : mTp (z_sI h 0 0 (nI 0)) L TB := ⟨(q_In (by omega)).trans T.1, fun i hi => (q_In (by omega)).trans (T.2 i hi)⟩
  have F0 : m_fr mKp h (z_sI h 0 0 (nI 0)) := m_fr.t0
  generalize z_sI h 0 0 (nI 0) = h0 at *
  refine m_taken s0 T0 hT hb hl (fun h1 f1 T1 p1 l1 => ?_)
  have s1 := f1.s s0
  have F1 : m_fr (fun o k => mKp o k ∧ (o ≠ 0 ∨ k ≠ 2)) h h1 := (F0.w (fun o k c => c.1)).tr (f1.w (fun o k c => by have c1 := c.1; unfold mKp at c1; have c2 := c.2; omega))
  refine k h1 s1 F1 l1 (fun h2 Q' f2 i15 k2 => ?_)
  have s2 := f2.s s1
  have T2 : mTape h2 L lim by8 := ⟨(f2.I 0 3 (by omega)).trans T1.1, (f2.I 0 5 (by omega)).trans T1.2.1, fun i hi => (f2.I 1 i (by omega)).trans (T1.2.2 i hi)⟩
  have hr2 : mRs h2 := fun k hk => (f2.L 6 k (by omega)).trans ((F1.L 6 k (by unfold mKp; omega)).trans (hr k hk))
  refine m_go s2 T2 hb hl (Nat.zero_le L) ((f2.I 0 4 (by omega)).trans p1) (fun h3 f3 t3 => ?_)
  exact k2 h3 f3 ⟨f3.s s2, T2.fr f3, t3, a_lex_E, hb, hl, fun k hk => (f3.L 6 k (by unfold mGo; omega)).trans (hr2 k hk), (f3.I 0 15 (by unfold mGo; omega)).trans i15⟩
theorem m_tree {h : z_T} {L n : Nat} {by8 bk ans nm : Nat → Nat} {TB : Nat → Int32} {Q : Int32 × z_T → Prop} (s : SM h) (b : BOK bk) (hN : mNi h bk n ans) (N : NMO bk nm) (hM : mNm h bk nm) (hr : mRs h) (T : mTp h L TB) (hT : ∀ i, i < L → TB i = a_sb (by8 i)) (hb : BY L by8)
    (k0 : ∀ h' e, a_tree by8 L nm (bk 0) = .inl e → m_fr mC0 h h' → z_I h' 0 2 = nI 0 → z_I h' 0 15 = nI e.1 → Q (m1 - nI e.2, h')) (k1 : ∀ h' nd cnt pos m, a_tree by8 L nm (bk 0) = .inr (nd, cnt) → m_fr (fun o k => mC0 o k ∧ (o ≠ 2 ∨ k < 49 ∨ 176 ≤ k)) h h' → z_I h' 0 2 = nI 0 → z_I h' 0 15 = nI 0 → z_I h' 2 49 = nI m → 0 < m → m ≤ 31 → MT (fun k => z_I h' 2 (52 + k)) nd pos m → (∀ q, nd q ≤ 10) → Q (nI cnt, h')) : p_W (fX12_tree 0 h) Q := by
  have hB := hN.1
  unfold fX12_tree
  simp (disch := first | assumption | omega) only [p_some, p_gd, p_br, p_bi, p_nm, p_mp, p_Sl, p_Sr, p_bis, p_gdt, Nat.not_lt_zero, Nat.reduceEqDiff, Nat.reduceLT, Nat.reduceLeDiff, true_and, and_true, true_implies, false_implies, not_true_eq_false, not_false_eq_true, implies_true, and_self, ne_eq, decide_true, decide_false, Bool.not_true, Bool.not_false, if_true, if_false, reduceIte, mk0 s, r_lit]
  refine m_openL s hr T hT hb (show 400 ≤ 900 by omega) (fun h1 s1 F1 i2 go => ?_)
  simp (disch := first | assumption | omega) only [p_some, p_gd, p_br, p_bi, p_nm, p_mp, p_Sl, p_Sr, p_bis, p_gdt, Nat.not_lt_zero, Nat.reduceEqDiff, Nat.reduceLT, Nat.reduceLeDiff, true_and, and_true, true_implies, false_implies, not_true_eq_false, not_false_eq_true, implies_true, and_self, ne_eq, decide_true, decide_false, Bool.not_true, Bool.not_false, if_true, if_false, reduceIte, mk0 s1, q_okI]
  have f2 : m_fr (fun o k => o ≠ 0 ∨ (k ≠ 15 ∧ k ≠ 35 ∧ k ≠ 36 ∧ k ≠ 37)) h1 (z_sI (z_sI (z_sI (z_sI h1 0 15 (nI 0)) 0 35 (nI 0)) 0 36 (nI 0)) 0 37 (nI 0)) := (((m_fr.rf.sI (by omega)).sI (by omega)).sI (by omega)).sI (by omega)
  have i15 : z_I (z_sI (z_sI (z_sI (z_sI h1 0 15 (nI 0)) 0 35 (nI 0)) 0 36 (nI 0)) 0 37 (nI 0)) 0 15 = nI 0 := by rw [q_In (by omega), q_In (by omega), q_In (by omega), q_Ie rfl rfl]
  have i35 : z_I (z_sI (z_sI (z_sI (z_sI h1 0 15 (nI 0)) 0 35 (nI 0)) 0 36 (nI 0)) 0 37 (nI 0)) 0 35 = nI 0 := by rw [q_In (by omega), q_In (by omega), q_Ie rfl rfl]
  have i36 : z_I (z_sI (z_sI (z_sI (z_sI h1 0 15 (nI 0)) 0 35 (nI 0)) 0 36 (nI 0)) 0 37 (nI 0)) 0 36 = nI 0 := by rw [q_In (by omega), q_Ie rfl rfl]
  have i37 : z_I (z_sI (z_sI (z_sI (z_sI h1 0 15 (nI 0)) 0 35 (nI 0)) 0 36 (nI 0)) 0 37 (nI 0)) 0 37 = nI 0 := q_Ie rfl rfl
  generalize z_sI (z_sI (z_sI (z_sI h1 0 15 (nI 0)) 0 35 (nI 0)) 0 36 (nI 0)) 0 37 (nI 0) = h2 at *
  refine go h2 _ (f2.w (fun o k c => by omega)) i15 (fun h3 f3 l3 => ?_)
  have s3 := l3.1
  have F3 : m_fr mC0 h h3 := (F1.w (fun o k c => ⟨c.1, by have := c.2; omega⟩)).tr ((f2.w (fun o k c => by obtain ⟨c1, c2⟩ := c; unfold mKp at c1; omega)).tr (f3.w (fun o k c => by obtain ⟨c1, c2⟩ := c; unfold mKp at c1; unfold mGo; omega)))
  have j2 : z_I h3 0 2 = nI 0 := (f3.I 0 2 (by unfold mGo; omega)).trans ((f2.I 0 2 (by omega)).trans i2)
  have hB3 : mB h3 bk := fun k hk => (F3.I 2 k (by unfold mC0 mKp; omega)).trans (hB k hk)
  have hM3 : mNm h3 bk nm := ⟨fun k hk => (F3.L 5 k (by have := b.1; unfold mC0 mKp; omega)).trans (hM.1 k hk), fun k hk => (F3.L 5 _ (by have := b.2.1; unfold mC0 mKp; omega)).trans (hM.2 k hk)⟩
  have S3 : mTS h3 (fun _ => 0) (fun _ => 0) (fun _ => 0) 0 0 0 := ⟨(f3.I 0 35 (by unfold mGo; omega)).trans i35, (f3.I 0 36 (by unfold mGo; omega)).trans i36, (f3.I 0 37 (by unfold mGo; omega)).trans i37, MT.nil, fun j hj => absurd hj (Nat.not_lt_zero _), fun q => Nat.zero_le _⟩
  simp (disch := first | assumption | omega) only [p_some, p_gd, p_br, p_bi, p_nm, p_mp, p_Sl, p_Sr, p_bis, p_gdt, Nat.not_lt_zero, Nat.reduceEqDiff, Nat.reduceLT, Nat.reduceLeDiff, true_and, and_true, true_implies, false_implies, not_true_eq_false, not_false_eq_true, implies_true, and_self, ne_eq, decide_true, decide_false, Bool.not_true, Bool.not_false, if_true, if_false, reduceIte, mk0 s3]
  refine m_readTree b N l3 hB3 hM3 S3 (fun h4 e q f g => ?_) (fun h4 nd cnt pos m q f g S4 hm => ?_)
  · have s4 := f.s s3
    simp (disch := first | assumption | omega) only [p_some, p_gd, p_br, p_bi, p_nm, p_mp, p_Sl, p_Sr, p_bis, p_gdt, Nat.not_lt_zero, Nat.reduceEqDiff, Nat.reduceLT, Nat.reduceLeDiff, true_and, and_true, true_implies, false_implies, not_true_eq_false, not_false_eq_true, implies_true, and_self, ne_eq, decide_true, decide_false, Bool.not_true, Bool.not_false, if_true, if_false, reduceIte, mk0 s4, g.2, r_m1]
    exact k0 h4 e q (F3.tr (f.w (fun o k c => c.tf))) ((f.I 0 2 (by unfold mTf mGF; omega)).trans j2) g.1
  · have s4 := f.s s3
    have F4 : m_fr mC0 h h4 := F3.tr (f.w (fun o k c => c.tf))
    have j24 := (f.I 0 2 (by unfold mTf mGF; omega)).trans j2
    have m31 := S4.2.2.2.1.le
    simp (disch := first | assumption | omega) only [p_some, p_gd, p_br, p_bi, p_nm, p_mp, p_Sl, p_Sr, p_bis, p_gdt, q_IL, q_IR, q_LI, q_LR, q_RI, q_RL, q_KI, q_KL, q_KR, q_NI, q_NL, q_NR, q_nI, q_nL, q_nR, q_okI, q_okL, q_okR, q_Ie, q_In, q_Le, q_Ln, SM_I, SM_L, s_c0, s_cg0, s_cl0, s_cge, s_cle, r_le, r_lt, r_eq, r_md, r_2, r_3, r_lit, r_litL, r_m1, nI_add, nI_1, nI_clamp, nI_leI, nI_ltI, nI_eq, pk_sub, q_ix, nI_l, lN_add, lN_mul, r_m1n, r_m1n', r_m1lt, r_m1nlt, r_m1le, r_m1nle, Nat.not_lt_zero, Nat.reduceEqDiff, Nat.reduceLT, Nat.reduceLeDiff, true_and, and_true, true_implies, false_implies, not_true_eq_false, not_false_eq_true, implies_true, and_self, ne_eq, decide_true, decide_false, Bool.not_true, Bool.not_false, if_true, if_false, reduceIte, mk0, mk1, mk2, mk3, mk4, mk5, mk6, mk7, mk8, mk9, mk10, mk11, mk12, mk13, mk14, mk15, mk16, mk17, mk18, mk19, mk20, mk21, mk22, mn1, mn2, mn3, mn4, mn5, mn6, mn7, mn8, mn9, mn10, mn11, mn12, mn13, mn14, mn15, mn16, mn17, mn18, mn19, mn20, mn21, mn22, mr1, mr6, mr7, mr8, mr9, mr10, mr21, mr22, mr23, mr25, mr26, mr29, mr30, mr32, mr33, mr34, mr43, mr47, mr53, mr54, mr55, mr56, show (nI 1 = nI 0) = False from by decide, S4.1, S4.2.2.1]
    unfold fX12_tree_b74
    refine p_for (4 * m) (fun j w => w.1 = nI j ∧ m_fr (fun o k => o ≠ 2 ∨ k < 49 ∨ 176 ≤ k) h4 w.2 ∧ z_I w.2 2 49 = nI m ∧ ∀ i, i < j → z_I w.2 2 (52 + i) = z_I h4 14 i) ?_ ?_ 0 (by omega) ⟨rfl, (m_fr.rf.sI (by omega)).sI (by omega), (q_In (by omega)).trans (q_Ie rfl rfl), fun i hi => absurd hi (Nat.not_lt_zero _)⟩
    · rintro j ⟨x, h5⟩ hj ⟨e1, f5, g5, c5⟩
      dsimp only at e1 f5 g5 c5
      subst e1
      have s5 := f5.s s4
      have k35 := (f5.I 0 35 (by omega)).trans S4.1
      have k14 := f5.I 14 j (by omega)
      unfold fX12_tree_b74_i
      simp (disch := first | assumption | omega) only [p_some, p_gd, p_br, p_bi, p_nm, p_mp, p_Sl, p_Sr, p_bis, p_gdt, q_IL, q_IR, q_LI, q_LR, q_RI, q_RL, q_KI, q_KL, q_KR, q_NI, q_NL, q_NR, q_nI, q_nL, q_nR, q_okI, q_okL, q_okR, q_Ie, q_In, q_Le, q_Ln, SM_I, SM_L, s_c0, s_cg0, s_cl0, s_cge, s_cle, r_le, r_lt, r_eq, r_md, r_2, r_3, r_lit, r_litL, r_m1, nI_add, nI_1, nI_clamp, nI_leI, nI_ltI, nI_eq, pk_sub, q_ix, nI_l, lN_add, lN_mul, r_m1n, r_m1n', r_m1lt, r_m1nlt, r_m1le, r_m1nle, Nat.not_lt_zero, Nat.reduceEqDiff, Nat.reduceLT, Nat.reduceLeDiff, true_and, and_true, true_implies, false_implies, not_true_eq_false, not_false_eq_true, implies_true, and_self, ne_eq, decide_true, decide_false, Bool.not_true, Bool.not_false, if_true, if_false, reduceIte, mk0, mk1, mk2, mk3, mk4, mk5, mk6, mk7, mk8, mk9, mk10, mk11, mk12, mk13, mk14, mk15, mk16, mk17, mk18, mk19, mk20, mk21, mk22, mn1, mn2, mn3, mn4, mn5, mn6, mn7, mn8, mn9, mn10, mn11, mn12, mn13, mn14, mn15, mn16, mn17, mn18, mn19, mn20, mn21, mn22, mr1, mr6, mr7, mr8, mr9, mr10, mr21, mr22, mr23, mr25, mr26, mr29, mr30, mr32, mr33, mr34, mr43, mr47, mr53, mr54, mr55, mr56, k35, pk_mul, show ¬ 4 * m ≤ j by omega, k14]
      refine ⟨f5.sI (by omega), g5, fun i hi => ?_⟩
      by_cases e : i = j
      · rw [q_Ie rfl (by omega), e]
      · rw [q_In (by omega)]; exact c5 i (by omega)
    · rintro ⟨x, h5⟩ ⟨e1, f5, g5, c5⟩
      dsimp only at e1 f5 g5 c5
      subst e1
      have s5 := f5.s s4
      have k35 := (f5.I 0 35 (by omega)).trans S4.1
      have k37 := (f5.I 0 37 (by omega)).trans S4.2.2.1
      unfold fX12_tree_b74_i
      simp (disch := first | assumption | omega) only [p_some, p_gd, p_br, p_bi, p_nm, p_mp, p_Sl, p_Sr, p_bis, p_gdt, q_IL, q_IR, q_LI, q_LR, q_RI, q_RL, q_KI, q_KL, q_KR, q_NI, q_NL, q_NR, q_nI, q_nL, q_nR, q_okI, q_okL, q_okR, q_Ie, q_In, q_Le, q_Ln, SM_I, SM_L, s_c0, s_cg0, s_cl0, s_cge, s_cle, r_le, r_lt, r_eq, r_md, r_2, r_3, r_lit, r_litL, r_m1, nI_add, nI_1, nI_clamp, nI_leI, nI_ltI, nI_eq, pk_sub, q_ix, nI_l, lN_add, lN_mul, r_m1n, r_m1n', r_m1lt, r_m1nlt, r_m1le, r_m1nle, Nat.not_lt_zero, Nat.reduceEqDiff, Nat.reduceLT, Nat.reduceLeDiff, true_and, and_true, true_implies, false_implies, not_true_eq_false, not_false_eq_true, implies_true, and_self, ne_eq, decide_true, decide_false, Bool.not_true, Bool.not_false, if_true, if_false, reduceIte, mk0, mk1, mk2, mk3, mk4, mk5, mk6, mk7, mk8, mk9, mk10, mk11, mk12, mk13, mk14, mk15, mk16, mk17, mk18, mk19, mk20, mk21, mk22, mn1, mn2, mn3, mn4, mn5, mn6, mn7, mn8, mn9, mn10, mn11, mn12, mn13, mn14, mn15, mn16, mn17, mn18, mn19, mn20, mn21, mn22, mr1, mr6, mr7, mr8, mr9, mr10, mr21, mr22, mr23, mr25, mr26, mr29, mr30, mr32, mr33, mr34, mr43, mr47, mr53, mr54, mr55, mr56, k35, pk_mul, Nat.le_refl, k37]
      exact k1 h5 nd cnt pos m q ((F4.w (fun o k c => c.1)).tr (f5.w (fun o k c => c.2))) ((f5.I 0 2 (by omega)).trans j24) ((f5.I 0 15 (by omega)).trans g) g5 hm (by omega) (S4.2.2.2.1.cg (fun k hk => c5 k hk)) S4.2.2.2.2.2
