/-! book of the reference -/
def mC0 (o k : Nat) : Prop := mKp o k ∧ (o ≠ 0 ∨ (k ≠ 2 ∧ k ≠ 15))
def mC1 (o k : Nat) : Prop := mC0 o k ∧ (o ≠ 0 ∨ k ≠ 24) ∧ o ≠ 2 ∧ o ≠ 5
theorem mC0.bf {o k : Nat} (c : mC0 o k) : mBf o k ∧ (o ≠ 0 ∨ k ≠ 19) := by
  obtain ⟨c1, c2⟩ := c
  unfold mKp at c1
  unfold mBf mGF
  omega
theorem m_bkLoop {by8 : Nat → Nat} {L : Nat} {Q : Int32 × z_T → Prop} : ∀ m (h : z_T) bk nm told lines t, m + lines = 480 → LNK L lines t → BKS bk nm told → mL by8 L 900 h t → mBr h bk nm told → z_I h 0 19 = nI lines →
    (∀ h' e, a_lines (a_ne by8 L 900) m bk nm told lines t = .inl e → m_fr (fun o k => mBf o k ∧ (o ≠ 0 ∨ k ≠ 19)) h h' → mF h' e → Q (m1 - nI e.2, h')) →
    (∀ h' bk' nm' n, a_lines (a_ne by8 L 900) m bk nm told lines t = .inr (bk', nm', n) → m_fr (fun o k => (mBf o k ∧ (o ≠ 0 ∨ k ≠ 19)) ∧ (o ≠ 0 ∨ k ≠ 24) ∧ o ≠ 2 ∧ (o ≠ 5 ∨ 14 ≤ k)) h h' → z_I h' 0 15 = nI 0 → mBk2 h' bk' nm' → Q (nI n, h')) →
    p_W (y_lp (fun q => fX12_book_b35_i 0 q) h) Q := by
  intro m
  induction m with
  | zero =>
    intro h bk nm told lines t hm kk B l
    obtain ⟨e, e1, e2, e3⟩ := kk
    have := l.2.2.2.2.1.1
    omega
  | succ m ih =>
    intro h bk nm told lines t hm kk B l R hl k0 k1
    have s := l.1
    have tk := l.2.2.1.k
    refine p_unP (fun P hP => ?_)
    rw [a_lines] at k0 k1
    unfold fX12_book_b35_i
    by_cases c0 : t.1 = 0
    · rw [if_pos c0] at k1
      have g0 := tk.2.2.2.2.2.2.2.2.1 c0
      simp (disch := first | assumption | omega) only [p_some, p_gd, p_br, p_bi, p_nm, p_mp, p_Sl, p_Sr, p_bis, p_gdt, Nat.not_lt_zero, Nat.reduceEqDiff, Nat.reduceLT, Nat.reduceLeDiff, true_and, and_true, true_implies, false_implies, not_true_eq_false, not_false_eq_true, implies_true, and_self, ne_eq, decide_true, decide_false, Bool.not_true, Bool.not_false, if_true, if_false, reduceIte, mk0 s, r_lit, g0]
      refine m_copies s B.1 R hl (fun h' f bb => ?_)
      exact k1 h' bk nm lines rfl (f.w (fun o k c => c.2)) ((f.I 0 15 (by omega)).trans l.2.2.2.2.2.2.2) bb
    · rw [if_neg c0] at k0 k1
      have g0 := tk.2.2.2.2.2.2.2.2.2 c0
      simp (disch := first | assumption | omega) only [p_some, p_gd, p_br, p_bi, p_nm, p_mp, p_Sl, p_Sr, p_bis, p_gdt, Nat.not_lt_zero, Nat.reduceEqDiff, Nat.reduceLT, Nat.reduceLeDiff, true_and, and_true, true_implies, false_implies, not_true_eq_false, not_false_eq_true, implies_true, and_self, ne_eq, decide_true, decide_false, Bool.not_true, Bool.not_false, if_true, if_false, reduceIte, mk0 s, r_lit, g0]
      have b58 : ∀ h1 e, mF h1 e → SM h1 → m_fr (fun o k => mBf o k ∧ (o ≠ 0 ∨ k ≠ 19)) h h1 → (a_bd (a_line (a_ne by8 L 900) bk nm told t) fun w => if w.2.1 = 59 then a_lines (a_ne by8 L 900) m w.1.1 w.1.2.1 w.1.2.2 (lines + 1) (a_ne by8 L 900 w.2) else .inl (1, w.2.2.2.1)) = .inl e → p_W (fX12_book_b58 0 h1) Q := fun h1 e g s1 f q => by
        unfold fX12_book_b58
        simp (disch := first | assumption | omega) only [p_some, p_gd, p_br, p_bi, p_nm, p_mp, p_Sl, p_Sr, p_bis, p_gdt, Nat.not_lt_zero, Nat.reduceEqDiff, Nat.reduceLT, Nat.reduceLeDiff, true_and, and_true, true_implies, false_implies, not_true_eq_false, not_false_eq_true, implies_true, and_self, ne_eq, decide_true, decide_false, Bool.not_true, Bool.not_false, if_true, if_false, reduceIte, mk0 s1, r_lit, g.2]
        rw [show -nI 1 = m1 from rfl]
        exact k0 h1 e q f g
      refine m_line l B R (fun h1 e q f g => ?_) (fun h1 w q c59 f g => ?_) (fun h1 w q f g => ?_)
      · simp (disch := first | assumption | omega) only [p_some, p_gd, p_br, p_bi, p_nm, p_mp, p_Sl, p_Sr, p_bis, p_gdt, Nat.not_lt_zero, Nat.reduceEqDiff, Nat.reduceLT, Nat.reduceLeDiff, true_and, and_true, true_implies, false_implies, not_true_eq_false, not_false_eq_true, implies_true, and_self, ne_eq, decide_true, decide_false, Bool.not_true, Bool.not_false, if_true, if_false, reduceIte, r_lit]
        exact b58 h1 e g (f.s s) (f.w (fun o k c => c.1)) (by rw [q, a_bdl])
      · simp (disch := first | assumption | omega) only [p_some, p_gd, p_br, p_bi, p_nm, p_mp, p_Sl, p_Sr, p_bis, p_gdt, Nat.not_lt_zero, Nat.reduceEqDiff, Nat.reduceLT, Nat.reduceLeDiff, true_and, and_true, true_implies, false_implies, not_true_eq_false, not_false_eq_true, implies_true, and_self, ne_eq, decide_true, decide_false, Bool.not_true, Bool.not_false, if_true, if_false, reduceIte, r_lit]
        exact b58 h1 _ g (f.s s) (f.w (fun o k c => c.1)) (by rw [q, a_bdr, if_neg c59])
      · obtain ⟨l1, R1⟩ := g
        have s1 := l1.1
        have B1 := a_line_ok B q
        simp (disch := first | assumption | omega) only [p_some, p_gd, p_br, p_bi, p_nm, p_mp, p_Sl, p_Sr, p_bis, p_gdt, Nat.not_lt_zero, Nat.reduceEqDiff, Nat.reduceLT, Nat.reduceLeDiff, true_and, and_true, true_implies, false_implies, not_true_eq_false, not_false_eq_true, implies_true, and_self, ne_eq, decide_true, decide_false, Bool.not_true, Bool.not_false, if_true, if_false, reduceIte, r_lit, show (nI 1 = nI 0) = False from by decide, mk0 s1]
        refine m_sign (c := 59) l1 (by decide) (fun h2 c59 f2 g2 => ?_) (fun h2 c59 f2 l2 => ?_)
        · simp (disch := first | assumption | omega) only [p_some, p_gd, p_br, p_bi, p_nm, p_mp, p_Sl, p_Sr, p_bis, p_gdt, Nat.not_lt_zero, Nat.reduceEqDiff, Nat.reduceLT, Nat.reduceLeDiff, true_and, and_true, true_implies, false_implies, not_true_eq_false, not_false_eq_true, implies_true, and_self, ne_eq, decide_true, decide_false, Bool.not_true, Bool.not_false, if_true, if_false, reduceIte, r_lit]
          exact b58 h2 _ g2 (f2.s s1) ((f.tr (mBf.gf f2)).w (fun o k c => c.1)) (by rw [q, a_bdr, if_neg c59])
        · have s2 := l2.1
          have F2 : m_fr (fun o k => mBf o k ∧ (o ≠ 0 ∨ k ≠ 19)) h h2 := (f.tr (mBf.gf f2)).w (fun o k c => c.1)
          have k2 := kk.go q (by omega) l1.2.2.2.1.1
          rw [q, a_bdr, if_pos c59] at k0 k1
          have e19 : z_I h2 0 19 = nI lines := by
            have a := f2.I 0 19 (by unfold mGF; omega)
            rw [a]
            exact (f.I 0 19 (by unfold mBf mGF; omega)).trans hl
          have R2 := R1.fr f2
          have F3 : m_fr (fun o k => mBf o k ∧ (o ≠ 0 ∨ k ≠ 19)) h (z_sI h2 0 19 (nI (lines + 1))) := F2.sI (by omega)
          have l3 : mL by8 L 900 (z_sI h2 0 19 (nI (lines + 1))) (a_ne by8 L 900 w.2) := l2.fr (C := fun o k => o ≠ 0 ∨ k ≠ 19) (m_fr.rf.sI (by omega)) (fun o k c => by unfold mKt at c; omega)
          have R3 : mBr (z_sI h2 0 19 (nI (lines + 1))) w.1.1 w.1.2.1 w.1.2.2 := ⟨fun j hj => (q_In (by omega)).trans (R2.1 j hj), R2.2.1, R2.2.2.1, (q_In (by omega)).trans R2.2.2.2⟩
          simp (disch := first | assumption | omega) only [p_some, p_gd, p_br, p_bi, p_nm, p_mp, p_Sl, p_Sr, p_bis, p_gdt, Nat.not_lt_zero, Nat.reduceEqDiff, Nat.reduceLT, Nat.reduceLeDiff, true_and, and_true, true_implies, false_implies, not_true_eq_false, not_false_eq_true, implies_true, and_self, ne_eq, decide_true, decide_false, Bool.not_true, Bool.not_false, if_true, if_false, reduceIte, mk0 s2, e19, nI_add, r_lit, show (nI 1 = nI 0) = False from by decide]
          refine hP _ ?_
          exact ih _ _ _ _ _ _ (by omega) k2 B1 l3 R3 (q_Ie rfl rfl) (fun h4 e q4 f4 g4 => k0 h4 e q4 (F3.tr f4) g4) (fun h4 bk' nm' n' q4 f4 g4 bb => k1 h4 bk' nm' n' q4 ((F3.w (fun o k c => c.1)).tr f4) g4 bb)
theorem mF15 {h : z_T} {e : Nat × Nat} (f : mF h e) : z_I h 0 15 = nI e.1 := f.1
theorem m_book {h : z_T} {L : Nat} {by8 : Nat → Nat} {TB : Nat → Int32} {Q : Int32 × z_T → Prop} (s : SM h) (T : mTp h L TB) (hT : ∀ i, i < L → TB i = a_sb (by8 i)) (hb : BY L by8) (hr : mRs h)
    (k0 : ∀ h' e, a_book by8 L = .inl e → m_fr mC0 h h' → z_I h' 0 2 = nI 0 → z_I h' 0 15 = nI e.1 → Q (m1 - nI e.2, h')) (k1 : ∀ h' bk nm n, a_book by8 L = .inr (bk, nm, n) → m_fr mC1 h h' → z_I h' 0 2 = nI 0 → z_I h' 0 15 = nI 0 → mBk2 h' bk nm → Q (nI n, h')) : p_W (fX12_book 0 h) Q := by
  unfold fX12_book
  simp (disch := first | assumption | omega) only [p_some, p_gd, p_br, p_bi, p_nm, p_mp, p_Sl, p_Sr, p_bis, p_gdt, Nat.not_lt_zero, Nat.reduceEqDiff, Nat.reduceLT, Nat.reduceLeDiff, true_and, and_true, true_implies, false_implies, not_true_eq_false, not_false_eq_true, implies_true, and_self, ne_eq, decide_true, decide_false, Bool.not_true, Bool.not_false, if_true, if_false, reduceIte, mk0 s, r_lit]
  have s0 : SM (z_sI h 0 0 (nI 0)) := s
  have T0 : mTp (z_sI h 0 0 (nI 0)) L TB := ⟨(q_In (by omega)).trans T.1, fun i hi => (q_In (by omega)).trans (T.2 i hi)⟩
  have F0 : m_fr mKp h (z_sI h 0 0 (nI 0)) := m_fr.t0
  generalize z_sI h 0 0 (nI 0) = h0 at *
  refine m_taken s0 T0 hT hb (Nat.le_refl 900) (fun h1 f1 T1 p1 l1 => ?_)
  have s1 := f1.s s0
  simp (disch := first | assumption | omega) only [p_some, p_gd, p_br, p_bi, p_nm, p_mp, p_Sl, p_Sr, p_bis, p_gdt, q_IL, q_IR, q_LI, q_LR, q_RI, q_RL, q_KI, q_KL, q_KR, q_NI, q_NL, q_NR, q_nI, q_nL, q_nR, q_okI, q_okL, q_okR, q_Ie, q_In, q_Le, q_Ln, SM_I, SM_L, s_c0, s_cg0, s_cl0, s_cge, s_cle, r_le, r_lt, r_eq, r_md, r_2, r_3, r_lit, r_litL, r_m1, nI_add, nI_1, nI_clamp, nI_leI, nI_ltI, nI_eq, pk_sub, q_ix, nI_l, lN_add, lN_mul, r_m1n, r_m1n', r_m1lt, r_m1nlt, r_m1le, r_m1nle, Nat.not_lt_zero, Nat.reduceEqDiff, Nat.reduceLT, Nat.reduceLeDiff, true_and, and_true, true_implies, false_implies, not_true_eq_false, not_false_eq_true, implies_true, and_self, ne_eq, decide_true, decide_false, Bool.not_true, Bool.not_false, if_true, if_false, reduceIte, mk0, mk1, mk2, mk3, mk4, mk5, mk6, mk7, mk8, mk9, mk10, mk11, mk12, mk13, mk14, mk15, mk16, mk17, mk18, mk19, mk20, mk21, mk22, mn1, mn2, mn3, mn4, mn5, mn6, mn7, mn8, mn9, mn10, mn11, mn12, mn13, mn14, mn15, mn16, mn17, mn18, mn19, mn20, mn21, mn22, mr1, mr6, mr7, mr8, mr9, mr10, mr21, mr22, mr23, mr25, mr26, mr29, mr30, mr32, mr33, mr34, mr43, mr47, mr53, mr54, mr55, mr56]
  have f2 : m_fr (fun o k => o ≠ 0 ∨ (k ≠ 15 ∧ k ≠ 19 ∧ k ≠ 20)) h1 (z_sI (z_sI (z_sI h1 0 15 (nI 0)) 0 19 (nI 0)) 0 20 (nI 0)) := ((m_fr.rf.sI (by omega)).sI (by omega)).sI (by omega)
  have i15 : z_I (z_sI (z_sI (z_sI h1 0 15 (nI 0)) 0 19 (nI 0)) 0 20 (nI 0)) 0 15 = nI 0 := (q_In (by omega)).trans ((q_In (by omega)).trans (q_Ie rfl rfl))
  have i19 : z_I (z_sI (z_sI (z_sI h1 0 15 (nI 0)) 0 19 (nI 0)) 0 20 (nI 0)) 0 19 = nI 0 := (q_In (by omega)).trans (q_Ie rfl rfl)
  have i20 : z_I (z_sI (z_sI (z_sI h1 0 15 (nI 0)) 0 19 (nI 0)) 0 20 (nI 0)) 0 20 = nI 0 := q_Ie rfl rfl
  generalize z_sI (z_sI (z_sI h1 0 15 (nI 0)) 0 19 (nI 0)) 0 20 (nI 0) = h2 at *
  have s2 := f2.s s1
  refine m_clears s2 (fun h3 f3 B3 => ?_)
  have s3 := f3.s s2
  have T3 : mTape h3 L 900 by8 := ⟨(f3.I 0 3 (by omega)).trans ((f2.I 0 3 (by omega)).trans T1.1), (f3.I 0 5 (by omega)).trans ((f2.I 0 5 (by omega)).trans T1.2.1), fun i hi => (f3.I 1 i (by omega)).trans ((f2.I 1 i (by omega)).trans (T1.2.2 i hi))⟩
  have FA : m_fr mC0 h h3 := (F0.w (fun o k c => c.1)).tr ((f1.w (fun o k c => by have c1 := c.1; unfold mKp at c1; have c2 := c.2; omega)).tr ((f2.w (fun o k c => by have c1 := c.1; unfold mKp at c1; have c2 := c.2; omega)).tr (f3.w (fun o k c => by have c1 := c.1; unfold mKp at c1; omega))))
  have hr3 : mRs h3 := fun k hk => (FA.L 6 k (by unfold mC0 mKp; omega)).trans (hr k hk)
  simp (disch := first | assumption | omega) only [p_some, p_gd, p_br, p_bi, p_nm, p_mp, p_Sl, p_Sr, p_bis, p_gdt, q_IL, q_IR, q_LI, q_LR, q_RI, q_RL, q_KI, q_KL, q_KR, q_NI, q_NL, q_NR, q_nI, q_nL, q_nR, q_okI, q_okL, q_okR, q_Ie, q_In, q_Le, q_Ln, SM_I, SM_L, s_c0, s_cg0, s_cl0, s_cge, s_cle, r_le, r_lt, r_eq, r_md, r_2, r_3, r_lit, r_litL, r_m1, nI_add, nI_1, nI_clamp, nI_leI, nI_ltI, nI_eq, pk_sub, q_ix, nI_l, lN_add, lN_mul, r_m1n, r_m1n', r_m1lt, r_m1nlt, r_m1le, r_m1nle, Nat.not_lt_zero, Nat.reduceEqDiff, Nat.reduceLT, Nat.reduceLeDiff, true_and, and_true, true_implies, false_implies, not_true_eq_false, not_false_eq_true, implies_true, and_self, ne_eq, decide_true, decide_false, Bool.not_true, Bool.not_false, if_true, if_false, reduceIte, mk0, mk1, mk2, mk3, mk4, mk5, mk6, mk7, mk8, mk9, mk10, mk11, mk12, mk13, mk14, mk15, mk16, mk17, mk18, mk19, mk20, mk21, mk22, mn1, mn2, mn3, mn4, mn5, mn6, mn7, mn8, mn9, mn10, mn11, mn12, mn13, mn14, mn15, mn16, mn17, mn18, mn19, mn20, mn21, mn22, mr1, mr6, mr7, mr8, mr9, mr10, mr21, mr22, mr23, mr25, mr26, mr29, mr30, mr32, mr33, mr34, mr43, mr47, mr53, mr54, mr55, mr56]
  refine m_go s3 T3 hb (Nat.le_refl 900) (Nat.zero_le L) ((f3.I 0 4 (by omega)).trans ((f2.I 0 4 (by omega)).trans p1)) (fun h4 f4 t4 => ?_)
  have l4 : mL by8 L 900 h4 (a_lex by8 L 900 0) := ⟨f4.s s3, T3.fr f4, t4, a_lex_E, hb, Nat.le_refl 900, fun k hk => (f4.L 6 k (by unfold mGo; omega)).trans (hr3 k hk), (f4.I 0 15 (by unfold mGo; omega)).trans ((f3.I 0 15 (by omega)).trans i15)⟩
  have FB : m_fr mC0 h h4 := FA.tr (f4.w (fun o k c => by have c1 := c.1; unfold mKp at c1; have c2 := c.2; unfold mGo; omega))
  have e2 : z_I h4 0 2 = nI 0 := (f4.I 0 2 (by unfold mGo; omega)).trans ((f3.I 0 2 (by omega)).trans ((f2.I 0 2 (by omega)).trans l1))
  unfold fX12_book_b35
  unfold a_book at k0 k1
  refine m_bkLoop 480 h4 a_bk0 (fun _ => 0) 0 0 _ (by omega) ⟨0, Nat.zero_le _, Nat.le_refl _, fun q => Nat.lt_of_le_of_lt (Nat.zero_le _) (a_lex_lt q)⟩ BKS0 l4 ⟨fun k hk => (f4.I 3 k (by unfold mGo; omega)).trans (B3 k hk), fun t ht => absurd ht (Nat.not_lt_zero _), fun t ht => absurd ht (Nat.not_lt_zero _), (f4.I 0 20 (by unfold mGo; omega)).trans ((f3.I 0 20 (by omega)).trans i20)⟩ ((f4.I 0 19 (by unfold mGo; omega)).trans ((f3.I 0 19 (by omega)).trans i19)) (fun h5 e q f g => ?_) (fun h5 bk nm n q f g bb => ?_)
  · exact k0 h5 e q (FB.tr (f.w (fun o k c => c.bf))) ((f.I 0 2 (by unfold mBf mGF; omega)).trans e2) g.1
  · exact k1 h5 bk nm n q ((FB.w (fun o k c => c.1)).tr (f.w (fun o k c => ⟨c.1.bf, c.2.1, c.2.2.1, Or.inl c.2.2.2⟩))) ((f.I 0 2 (by unfold mBf mGF; omega)).trans e2) g bb
