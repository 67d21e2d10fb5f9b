/-! nights of the reference, the call -/
def a_ntr (by8 : Nat → Nat) (L : Nat) (bk nm : Nat → Nat) : (Nat × Nat) ⊕ (Nat × (Nat → Nat) × (Nat → Nat)) := a_nts (a_ne by8 L 400) bk nm 41 0 0 (fun _ => 0) (fun _ => 0) (a_lex by8 L 400 0)
/-- what was found: the line, why, the state at the end -/
def a_ntj (bk : Nat → Nat) (w : Nat × (Nat → Nat) × (Nat → Nat)) : Option Nat × Nat × a_JS := a_jl bk w.2.1 w.2.2 w.1 0 (0, 0, (fun _ => 0), 0, 0)
theorem WL0 {bk : Nat → Nat} : WL bk (fun _ => 0) (fun _ => 0) 0 0 := ⟨by omega, rfl, by omega, fun q => absurd q (by omega), fun i hi => absurd hi (by omega)⟩
theorem a_ntr_ok {by8 bk nm : Nat → Nat} {L : Nat} {w : Nat × (Nat → Nat) × (Nat → Nat)} (q : a_ntr by8 L bk nm = .inr w) : ∃ asked, WL bk w.2.1 w.2.2 w.1 asked := a_nts_ok (fun _ _ _ _ e hn => a_ntL_40 e hn) 41 0 0 _ _ _ w WL0 q
theorem m_b81 {h : z_T} {Q : Int32 × z_T → Prop} (s : SM h) (k : ∀ h', m_fr (fun o k => o ≠ 17 ∧ (o ≠ 0 ∨ k ≠ 44)) h h' → z_I h' 0 44 = nI 1 → (∀ j, j < 3 → z_I h' 17 j = nI 0) → p_W (fX12_nights_b108 0 m1 (nI 0) h') Q) : p_W (fX12_nights_b81 0 (nI 0) h) Q := by
  unfold fX12_nights_b81
  refine p_for 3 (fun i w => w.1 = nI i ∧ m_fr (fun o _ => o ≠ 17) h w.2 ∧ ∀ j, j < i → z_I w.2 17 j = nI 0) ?_ ?_ 0 (by omega) ⟨rfl, m_fr.rf, fun j hj => absurd hj (by omega)⟩
  · rintro i ⟨y, h1⟩ hi ⟨e1, f, g⟩
    dsimp only at e1 f g
    subst e1
    have s1 := f.s s
    unfold fX12_nights_b81_i
    simp (disch := first | assumption | omega) only [p_some, p_gd, p_br, p_bi, p_nm, p_mp, p_Sl, p_Sr, p_bis, p_gdt, q_IL, q_IR, q_LI, q_LR, q_RI, q_RL, q_KI, q_KL, q_KR, q_NI, q_NL, q_NR, q_nI, q_nL, q_nR, q_okI, q_okL, q_okR, q_Ie, q_In, q_Le, q_Ln, SM_I, SM_L, s_c0, s_cg0, s_cl0, s_cge, s_cle, r_le, r_lt, r_eq, r_md, r_2, r_3, r_lit, r_litL, r_m1, nI_add, nI_1, nI_clamp, nI_leI, nI_ltI, nI_eq, pk_sub, q_ix, nI_l, lN_add, lN_mul, r_m1n, r_m1n', r_m1lt, r_m1nlt, r_m1le, r_m1nle, Nat.not_lt_zero, Nat.reduceEqDiff, Nat.reduceLT, Nat.reduceLeDiff, true_and, and_true, true_implies, false_implies, not_true_eq_false, not_false_eq_true, implies_true, and_self, ne_eq, decide_true, decide_false, Bool.not_true, Bool.not_false, if_true, if_false, reduceIte, mk0, mk1, mk2, mk3, mk4, mk5, mk6, mk7, mk8, mk9, mk10, mk11, mk12, mk13, mk14, mk15, mk16, mk17, mk18, mk19, mk20, mk21, mk22, mn1, mn2, mn3, mn4, mn5, mn6, mn7, mn8, mn9, mn10, mn11, mn12, mn13, mn14, mn15, mn16, mn17, mn18, mn19, mn20, mn21, mn22, mr1, mr6, mr7, mr8, mr9, mr10, mr21, mr22, mr23, mr25, mr26, mr29, mr30, mr32, mr33, mr34, mr43, mr47, mr53, mr54, mr55, mr56, show ¬ 3 ≤ i by omega]
    refine ⟨f.sI (by omega), fun j hj => ?_⟩
    by_cases c : j = i
    · rw [q_Ie rfl c]
    · rw [q_In (by omega)]; exact g j (by omega)
  · rintro ⟨y, h1⟩ ⟨e1, f, g⟩
    dsimp only at e1 f g
    subst e1
    have s1 := f.s s
    unfold fX12_nights_b81_i
    have kk := k (z_sI h1 0 44 (nI 1)) ((f.w (fun o k c => c.1)).sI (by omega)) (q_Ie rfl rfl) (fun j hj => (q_In (by omega)).trans (g j hj))
    simp (disch := first | assumption | omega) only [p_some, p_gd, p_br, p_bi, p_nm, p_mp, p_Sl, p_Sr, p_bis, p_gdt, q_IL, q_IR, q_LI, q_LR, q_RI, q_RL, q_KI, q_KL, q_KR, q_NI, q_NL, q_NR, q_nI, q_nL, q_nR, q_okI, q_okL, q_okR, q_Ie, q_In, q_Le, q_Ln, SM_I, SM_L, s_c0, s_cg0, s_cl0, s_cge, s_cle, r_le, r_lt, r_eq, r_md, r_2, r_3, r_lit, r_litL, r_m1, nI_add, nI_1, nI_clamp, nI_leI, nI_ltI, nI_eq, pk_sub, q_ix, nI_l, lN_add, lN_mul, r_m1n, r_m1n', r_m1lt, r_m1nlt, r_m1le, r_m1nle, Nat.not_lt_zero, Nat.reduceEqDiff, Nat.reduceLT, Nat.reduceLeDiff, true_and, and_true, true_implies, false_implies, not_true_eq_false, not_false_eq_true, implies_true, and_self, ne_eq, decide_true, decide_false, Bool.not_true, Bool.not_false, if_true, if_false, reduceIte, mk0, mk1, mk2, mk3, mk4, mk5, mk6, mk7, mk8, mk9, mk10, mk11, mk12, mk13, mk14, mk15, mk16, mk17, mk18, mk19, mk20, mk21, mk22, mn1, mn2, mn3, mn4, mn5, mn6, mn7, mn8, mn9, mn10, mn11, mn12, mn13, mn14, mn15, mn16, mn17, mn18, mn19, mn20, mn21, mn22, mr1, mr6, mr7, mr8, mr9, mr10, mr21, mr22, mr23, mr25, mr26, mr29, mr30, mr32, mr33, mr34, mr43, mr47, mr53, mr54, mr55, mr56, Nat.le_refl]
    exact kk
def mD1 (o k : Nat) : Prop := mC0 o k ∧ (o ≠ 0 ∨ k ≠ 44) ∧ o ≠ 17 ∧ (o ≠ 2 ∨ k < 36 ∨ 49 ≤ k)
theorem m_nights {h : z_T} {L n : Nat} {by8 bk ans nm : Nat → Nat} {TB : Nat → Int32} {Q : Int32 × z_T → Prop} (s : SM h) (b : BOK bk) (hN : mNi h bk n ans) (N : NMO bk nm) (hM : mNm h bk nm) (hr : mRs h) (T : mTp h L TB) (hT : ∀ i, i < L → TB i = a_sb (by8 i)) (hb : BY L by8)
    (k0 : ∀ h' e, a_ntr by8 L bk nm = .inl e → m_fr mC0 h h' → z_I h' 0 2 = nI 0 → z_I h' 0 15 = nI e.1 → Q (-nI 2 - nI e.2, h')) (k1 : ∀ h' w, a_ntr by8 L bk nm = .inr w → m_fr mD1 h h' → z_I h' 0 2 = nI 0 → z_I h' 0 15 = nI 0 → z_I h' 0 44 = nI 1 → z_I h' 17 0 = nI (a_ntj bk w).2.1 → z_I h' 17 1 = nI (a_ntj bk w).2.2.2.2.2.1 → z_I h' 17 2 = nI (a_ntj bk w).2.2.2.2.2.2 → (∀ i, i < 13 → z_I h' 2 (36 + i) = z_I h 2 (36 + i)) → Q (a_jI (a_ntj bk w).1, h')) : p_W (fX12_nights 0 h) Q := by
  have hB := hN.1
  unfold fX12_nights
  simp (disch := first | assumption | omega) only [p_some, p_gd, p_br, p_bi, p_nm, p_mp, p_Sl, p_Sr, p_bis, p_gdt, Nat.not_lt_zero, Nat.reduceEqDiff, Nat.reduceLT, Nat.reduceLeDiff, true_and, and_true, true_implies, false_implies, not_true_eq_false, not_false_eq_true, implies_true, and_self, ne_eq, decide_true, decide_false, Bool.not_true, Bool.not_false, if_true, if_false, reduceIte, mk0 s, r_lit]
  refine m_openL s hr T hT hb (show 400 ≤ 900 by omega) (fun h1 s1 F1 i2 go => ?_)
  simp (disch := first | assumption | omega) only [p_some, p_gd, p_br, p_bi, p_nm, p_mp, p_Sl, p_Sr, p_bis, p_gdt, Nat.not_lt_zero, Nat.reduceEqDiff, Nat.reduceLT, Nat.reduceLeDiff, true_and, and_true, true_implies, false_implies, not_true_eq_false, not_false_eq_true, implies_true, and_self, ne_eq, decide_true, decide_false, Bool.not_true, Bool.not_false, if_true, if_false, reduceIte, mk0 s1, q_okI]
  have f2 : m_fr (fun o k => o ≠ 0 ∨ (k ≠ 15 ∧ k ≠ 41 ∧ k ≠ 42)) h1 (z_sI (z_sI (z_sI h1 0 15 (nI 0)) 0 41 (nI 0)) 0 42 (nI 0)) := ((m_fr.rf.sI (by omega)).sI (by omega)).sI (by omega)
  have i15 : z_I (z_sI (z_sI (z_sI h1 0 15 (nI 0)) 0 41 (nI 0)) 0 42 (nI 0)) 0 15 = nI 0 := by rw [q_In (by omega), q_In (by omega), q_Ie rfl rfl]
  have i41 : z_I (z_sI (z_sI (z_sI h1 0 15 (nI 0)) 0 41 (nI 0)) 0 42 (nI 0)) 0 41 = nI 0 := by rw [q_In (by omega), q_Ie rfl rfl]
  have i42 : z_I (z_sI (z_sI (z_sI h1 0 15 (nI 0)) 0 41 (nI 0)) 0 42 (nI 0)) 0 42 = nI 0 := q_Ie rfl rfl
  generalize z_sI (z_sI (z_sI h1 0 15 (nI 0)) 0 41 (nI 0)) 0 42 (nI 0) = h2 at *
  refine go h2 _ (f2.w (fun o k c => by omega)) i15 (fun h3 f3 l3 => ?_)
  have s3 := l3.1
  have F3 : m_fr mC0 h h3 := (F1.w (fun o k c => ⟨c.1, by have := c.2; omega⟩)).tr ((f2.w (fun o k c => by obtain ⟨c1, c2⟩ := c; unfold mKp at c1; omega)).tr (f3.w (fun o k c => by obtain ⟨c1, c2⟩ := c; unfold mKp at c1; unfold mGo; omega)))
  have j2 : z_I h3 0 2 = nI 0 := (f3.I 0 2 (by unfold mGo; omega)).trans ((f2.I 0 2 (by omega)).trans i2)
  have hB3 : mB h3 bk := fun k hk => (F3.I 2 k (by unfold mC0 mKp; omega)).trans (hB k hk)
  have hM3 : mNm h3 bk nm := ⟨fun k hk => (F3.L 5 k (by have := b.1; unfold mC0 mKp; omega)).trans (hM.1 k hk), fun k hk => (F3.L 5 _ (by have := b.2.1; unfold mC0 mKp; omega)).trans (hM.2 k hk)⟩
  have ng : ∀ a c, m_fr mNg a c → m_fr mC0 a c := fun a c f => f.w (fun o k c => by obtain ⟨c1, c2⟩ := c; unfold mKp at c1; unfold mNg mGF; omega)
  unfold fX12_nights_b31
  refine m_ntLoop b N 41 h3 0 0 _ _ _ (by omega) WL0 l3 hB3 hM3 ((f3.I 0 41 (by unfold mGo; omega)).trans i41) ((f3.I 0 42 (by unfold mGo; omega)).trans i42) (fun i hi => absurd hi (by omega)) (fun h4 e q f g => ?_) (fun h4 w q f g15 g41 g => ?_)
  · exact k0 h4 e q (F3.tr (ng _ _ f)) ((f.I 0 2 (by unfold mNg mGF; omega)).trans j2) g.1
  · obtain ⟨asked, W⟩ := a_ntr_ok q
    have F4 : m_fr mC0 h h4 := F3.tr (ng _ _ f)
    have s4 := f.s s3
    refine p_mono (m_tries s4) (fun h5 ⟨f5, g5⟩ => ?_)
    have s5 := f5.s s4
    refine m_b81 s5 (fun h6 f6 y44 y17 => ?_)
    have s6 := f6.s s5
    have F46 : m_fr (fun o k => o ≠ 9 ∧ o ≠ 17 ∧ (o ≠ 0 ∨ k ≠ 44)) h4 h6 := (f5.w (fun o k c => c.1)).tr (f6.w (fun o k c => c.2))
    have hB6 : mB h6 bk := fun k hk => (F46.I 2 k (by omega)).trans ((F4.I 2 k (by unfold mC0 mKp; omega)).trans (hB k hk))
    have g6 : mRd h6 w.2.1 w.2.2 w.1 := fun i hi => ⟨(F46.I 4 _ (by omega)).trans (g i hi).1, fun z => (F46.I 4 _ (by omega)).trans ((g i hi).2 z)⟩
    unfold fX12_nights_b108
    refine m_jgLoop b W w.1 h6 0 (0, 0, (fun _ => 0), 0, 0) (by omega) ⟨Nat.zero_le _, Nat.zero_le _, fun q => absurd rfl q⟩ s6 hB6 g6 ((F46.I 0 41 (by omega)).trans g41) (y17 0 (by omega)) (y17 1 (by omega)) (y17 2 (by omega)) (fun q => absurd rfl q) (fun h7 f7 a0 a1 a2 => ?_)
    have s7 := f7.s s6
    unfold fX12_nights_b165
    simp (disch := first | assumption | omega) only [p_some, p_gd, p_br, p_bi, p_nm, p_mp, p_Sl, p_Sr, p_bis, p_gdt, Nat.not_lt_zero, Nat.reduceEqDiff, Nat.reduceLT, Nat.reduceLeDiff, true_and, and_true, true_implies, false_implies, not_true_eq_false, not_false_eq_true, implies_true, and_self, ne_eq, decide_true, decide_false, Bool.not_true, Bool.not_false, if_true, if_false, reduceIte, mk0 s7]
    refine p_mono (m_back s7) (fun h8 ⟨f8, g8⟩ => ?_)
    have F8 : m_fr mD1 h h8 := (F4.w (fun o k c => c.1)).tr ((F46.w (fun o k c => by obtain ⟨⟨c1, c2⟩, c3, c4, c5⟩ := c; unfold mKp at c1; omega)).tr ((f7.w (fun o k c => by obtain ⟨⟨c1, c2⟩, c3, c4, c5⟩ := c; unfold mKp at c1; unfold mJg mJf; omega)).tr (f8.w (fun o k c => c.2.2.2))))
    have kp : ∀ k, k < 46 → k ≠ 44 → k ≠ 45 → z_I h8 0 k = z_I h4 0 k := fun k k1 k2 k3 => (f8.I 0 k (by omega)).trans ((f7.I 0 k (by unfold mJg mJf; omega)).trans (F46.I 0 k (by omega)))
    refine k1 h8 w q F8 ((kp 2 (by omega) (by omega) (by omega)).trans ((f.I 0 2 (by unfold mNg mGF; omega)).trans j2)) ((kp 15 (by omega) (by omega) (by omega)).trans g15) ((f8.I 0 44 (by omega)).trans ((f7.I 0 44 (by unfold mJg mJf; omega)).trans y44)) ((f8.I 17 0 (by omega)).trans a0) ((f8.I 17 1 (by omega)).trans a1) ((f8.I 17 2 (by omega)).trans a2) (fun i hi => ?_)
    rw [g8 i hi, f7.I 9 i (by unfold mJg mJf; omega), f6.I 9 i (by omega), g5 i hi, F4.I 2 (36 + i) (by unfold mC0 mKp; omega)]
