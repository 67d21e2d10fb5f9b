/-! the reference reads a line of a book -/
def mBr (h : z_T) (bk nm : Nat → Nat) (told : Nat) : Prop := (∀ k, k < 36 → z_I h 3 k = nI (bk k)) ∧ (∀ t, t < bk 0 → z_L h 5 (14 + t) = lN (a_c8 7 (nm t))) ∧ (∀ d, d < bk 1 → z_L h 5 (22 + d) = lN (a_c8 7 (nm (8 + d)))) ∧ z_I h 0 20 = nI told
def mBf (o k : Nat) : Prop := mGF o k ∧ (o ≠ 0 ∨ k ≠ 20) ∧ o ≠ 3 ∧ (o ≠ 5 ∨ k < 14)
theorem mBf.gf {h h' : z_T} (f : m_fr mGF h h') : m_fr mBf h h' := f.w (fun o k c => c.1)
theorem mBr.fr {h h' : z_T} {bk nm : Nat → Nat} {told : Nat} (R : mBr h bk nm told) (f : m_fr mGF h h') : mBr h' bk nm told := ⟨fun k hk => (f.I 3 k (by unfold mGF; omega)).trans (R.1 k hk), fun t ht => (f.L 5 _ (by unfold mGF; omega)).trans (R.2.1 t ht), fun t ht => (f.L 5 _ (by unfold mGF; omega)).trans (R.2.2.1 t ht), (f.I 0 20 (by unfold mGF; omega)).trans R.2.2.2⟩
theorem m_takesB {by8 : Nat → Nat} {L lim : Nat} {h : z_T} {t : Nat × Nat × Nat × Nat} {lo hi : Nat} {Q : Int32 × z_T → Prop} (l : mL by8 L lim h t) (h1 : lo < 1000) (h2 : hi < 1000) (k0 : ∀ h' e, a_nb lo hi t = .inl e → m_fr mGF h h' → mF h' e → Q (nI 0, h')) (k1 : ∀ h', a_nb lo hi t = .inr t.2.1 → t.2.1 ≤ hi → m_fr mGF h h' → mL by8 L lim h' (a_ne by8 L lim t) → z_I h' 0 18 = nI t.2.1 → Q (nI 1, h')) : p_W (fX12_takes 0 (nI lo) (nI hi) h) Q := by
  unfold a_nb at k0 k1
  refine m_takes l h1 h2 (fun h' F c f g => ?_) (fun h' c c1 c2 f l1 g => ?_)
  · rcases c with ⟨c, rfl⟩ | ⟨c, c2, rfl⟩
    · exact k0 h' _ (by rw [if_neg c]) f g
    · exact k0 h' _ (by rw [if_pos c, if_neg c2]) f g
  · exact k1 h' (by rw [if_pos c, if_pos ⟨c1, c2⟩]) c2 f l1 g
theorem m_fresh {by8 : Nat → Nat} {L lim : Nat} {h : z_T} {t : Nat × Nat × Nat × Nat} {bk nm : Nat → Nat} {told to : Nat} {Q : Int32 × z_T → Prop} (l : mL by8 L lim h t) (b : BOK bk) (N : NMO bk nm) (R : mBr h bk nm told) (ht : 14 ≤ to ∧ to < 28)
    (k0 : ∀ h' e, a_nw bk nm t = .inl e → m_fr mGF h h' → mF h' e → Q (nI 0, h')) (k1 : ∀ h', a_nw bk nm t = .inr t.2.1 → t.1 = 2 → m_fr (fun o k => mGF o k ∧ (o ≠ 5 ∨ k ≠ to)) h h' → z_L h' 5 to = lN (a_c8 7 t.2.1) → mL by8 L lim h' (a_ne by8 L lim t) → Q (nI 1, h')) : p_W (fX12_fresh 0 (nI to) h) Q := by
  have s := l.1
  have h8 := b.1
  have h6 := b.2.1
  have nmE := m_isName l
  have hB0 := R.1 0 (by decide)
  have hB1 := R.1 1 (by decide)
  unfold a_nw at k0 k1
  have bad3 : a_kk t = 1 → (a_fx nm (bk 0) t.2.1 < bk 0 ∨ a_fx (fun d => nm (8 + d)) (bk 1) t.2.1 < bk 1) → p_W (fX12_fresh_b43 0 h) Q := fun ck cf => by
    unfold fX12_fresh_b43
    simp (disch := first | assumption | omega) only [p_some, p_gd, p_br, p_bi, p_nm, p_mp, p_Sl, p_Sr, p_bis, p_gdt, Nat.not_lt_zero, Nat.reduceEqDiff, Nat.reduceLT, Nat.reduceLeDiff, true_and, and_true, true_implies, false_implies, not_true_eq_false, not_false_eq_true, implies_true, and_self, ne_eq, decide_true, decide_false, Bool.not_true, Bool.not_false, if_true, if_false, reduceIte, mk0 s, r_lit]
    refine m_bad l (fun h1 f1 g1 => ?_)
    simp (disch := first | assumption | omega) only [p_some, p_gd, p_br, p_bi, p_nm, p_mp, p_Sl, p_Sr, p_bis, p_gdt, Nat.not_lt_zero, Nat.reduceEqDiff, Nat.reduceLT, Nat.reduceLeDiff, true_and, and_true, true_implies, false_implies, not_true_eq_false, not_false_eq_true, implies_true, and_self, ne_eq, decide_true, decide_false, Bool.not_true, Bool.not_false, if_true, if_false, reduceIte, s_yb0]
    exact k0 h1 _ (by rw [if_pos ck, if_pos cf]) f1 g1
  unfold fX12_fresh
  by_cases ck : a_kk t = 1
  · have c2 := a_kk1 (t := t) (by omega)
    obtain ⟨-, gw, -, -⟩ := l.2.2.1.k.2.1 c2
    have fd0 := m_find (from0 := 14) (n := bk 0) (f := nm) l c2 (fun k hk => ⟨R.2.1 k hk, (N.1 k hk).2⟩) (by omega)
    have fd1 := m_find (from0 := 22) (n := bk 1) (f := fun d => nm (8 + d)) l c2 (fun k hk => ⟨R.2.2.1 k hk, (N.2 k hk).2⟩) (by omega)
    rw [a_fi_fx] at fd0 fd1
    rw [bI_t ck] at nmE
    by_cases cT : a_fx nm (bk 0) t.2.1 < bk 0
    · rw [if_pos cT] at fd0
      have := bad3 ck (Or.inl cT)
      generalize a_fx nm (bk 0) t.2.1 = F at *
      simp (disch := first | assumption | omega) only [p_some, p_gd, p_br, p_bi, p_nm, p_mp, p_Sl, p_Sr, p_bis, p_gdt, q_IL, q_IR, q_LI, q_LR, q_RI, q_RL, q_KI, q_KL, q_KR, q_NI, q_NL, q_NR, q_nI, q_nL, q_nR, q_okI, q_okL, q_okR, q_Ie, q_In, q_Le, q_Ln, SM_I, SM_L, s_c0, s_cg0, s_cl0, s_cge, s_cle, r_le, r_lt, r_eq, r_md, r_2, r_3, r_lit, r_litL, r_m1, nI_add, nI_1, nI_clamp, nI_leI, nI_ltI, nI_eq, pk_sub, q_ix, nI_l, lN_add, lN_mul, r_m1n, r_m1n', r_m1lt, r_m1nlt, r_m1le, r_m1nle, Nat.not_lt_zero, Nat.reduceEqDiff, Nat.reduceLT, Nat.reduceLeDiff, true_and, and_true, true_implies, false_implies, not_true_eq_false, not_false_eq_true, implies_true, and_self, ne_eq, decide_true, decide_false, Bool.not_true, Bool.not_false, if_true, if_false, reduceIte, mk0, mk1, mk2, mk3, mk4, mk5, mk6, mk7, mk8, mk9, mk10, mk11, mk12, mk13, mk14, mk15, mk16, mk17, mk18, mk19, mk20, mk21, mk22, mn1, mn2, mn3, mn4, mn5, mn6, mn7, mn8, mn9, mn10, mn11, mn12, mn13, mn14, mn15, mn16, mn17, mn18, mn19, mn20, mn21, mn22, mr1, mr6, mr7, mr8, mr9, mr10, mr21, mr22, mr23, mr25, mr26, mr29, mr30, mr32, mr33, mr34, mr43, mr47, mr53, mr54, mr55, mr56, nmE, hB0, fd0, Nat.zero_le]
      exact this
    · rw [if_neg cT] at fd0
      by_cases cD : a_fx (fun d => nm (8 + d)) (bk 1) t.2.1 < bk 1
      · rw [if_pos cD] at fd1
        have := bad3 ck (Or.inr cD)
        generalize a_fx (fun d => nm (8 + d)) (bk 1) t.2.1 = F at *
        simp (disch := first | assumption | omega) only [p_some, p_gd, p_br, p_bi, p_nm, p_mp, p_Sl, p_Sr, p_bis, p_gdt, q_IL, q_IR, q_LI, q_LR, q_RI, q_RL, q_KI, q_KL, q_KR, q_NI, q_NL, q_NR, q_nI, q_nL, q_nR, q_okI, q_okL, q_okR, q_Ie, q_In, q_Le, q_Ln, SM_I, SM_L, s_c0, s_cg0, s_cl0, s_cge, s_cle, r_le, r_lt, r_eq, r_md, r_2, r_3, r_lit, r_litL, r_m1, nI_add, nI_1, nI_clamp, nI_leI, nI_ltI, nI_eq, pk_sub, q_ix, nI_l, lN_add, lN_mul, r_m1n, r_m1n', r_m1lt, r_m1nlt, r_m1le, r_m1nle, Nat.not_lt_zero, Nat.reduceEqDiff, Nat.reduceLT, Nat.reduceLeDiff, true_and, and_true, true_implies, false_implies, not_true_eq_false, not_false_eq_true, implies_true, and_self, ne_eq, decide_true, decide_false, Bool.not_true, Bool.not_false, if_true, if_false, reduceIte, mk0, mk1, mk2, mk3, mk4, mk5, mk6, mk7, mk8, mk9, mk10, mk11, mk12, mk13, mk14, mk15, mk16, mk17, mk18, mk19, mk20, mk21, mk22, mn1, mn2, mn3, mn4, mn5, mn6, mn7, mn8, mn9, mn10, mn11, mn12, mn13, mn14, mn15, mn16, mn17, mn18, mn19, mn20, mn21, mn22, mr1, mr6, mr7, mr8, mr9, mr10, mr21, mr22, mr23, mr25, mr26, mr29, mr30, mr32, mr33, mr34, mr43, mr47, mr53, mr54, mr55, mr56, nmE, hB0, fd0, hB1, fd1]
        exact this
      · rw [if_neg cD] at fd1
        have kk := fun h' => k1 h' (by rw [if_pos ck, if_neg (fun q => q.elim cT cD)]) c2
        clear k0 k1 bad3
        have f0 : m_fr (fun o k => mGF o k ∧ (o ≠ 5 ∨ k ≠ to)) h (z_sL h 5 to (lN (a_c8 7 t.2.1))) := m_fr.rf.sL (by omega)
        have l0 : mL by8 L lim (z_sL h 5 to (lN (a_c8 7 t.2.1))) t := l.fr (C := fun o k => o ≠ 5) (m_fr.rf.sL (by omega)) (fun o k c => by unfold mKt at c; omega)
        have i0 : z_L (z_sL h 5 to (lN (a_c8 7 t.2.1))) 5 to = lN (a_c8 7 t.2.1) := q_Le rfl rfl
        simp (disch := first | assumption | omega) only [p_some, p_gd, p_br, p_bi, p_nm, p_mp, p_Sl, p_Sr, p_bis, p_gdt, q_IL, q_IR, q_LI, q_LR, q_RI, q_RL, q_KI, q_KL, q_KR, q_NI, q_NL, q_NR, q_nI, q_nL, q_nR, q_okI, q_okL, q_okR, q_Ie, q_In, q_Le, q_Ln, SM_I, SM_L, s_c0, s_cg0, s_cl0, s_cge, s_cle, r_le, r_lt, r_eq, r_md, r_2, r_3, r_lit, r_litL, r_m1, nI_add, nI_1, nI_clamp, nI_leI, nI_ltI, nI_eq, pk_sub, q_ix, nI_l, lN_add, lN_mul, r_m1n, r_m1n', r_m1lt, r_m1nlt, r_m1le, r_m1nle, Nat.not_lt_zero, Nat.reduceEqDiff, Nat.reduceLT, Nat.reduceLeDiff, true_and, and_true, true_implies, false_implies, not_true_eq_false, not_false_eq_true, implies_true, and_self, ne_eq, decide_true, decide_false, Bool.not_true, Bool.not_false, if_true, if_false, reduceIte, mk0, mk1, mk2, mk3, mk4, mk5, mk6, mk7, mk8, mk9, mk10, mk11, mk12, mk13, mk14, mk15, mk16, mk17, mk18, mk19, mk20, mk21, mk22, mn1, mn2, mn3, mn4, mn5, mn6, mn7, mn8, mn9, mn10, mn11, mn12, mn13, mn14, mn15, mn16, mn17, mn18, mn19, mn20, mn21, mn22, mr1, mr6, mr7, mr8, mr9, mr10, mr21, mr22, mr23, mr25, mr26, mr29, mr30, mr32, mr33, mr34, mr43, mr47, mr53, mr54, mr55, mr56, nmE, hB0, fd0, hB1, fd1, gw]
        generalize z_sL h 5 to (lN (a_c8 7 t.2.1)) = h0 at *
        refine m_goL l0 (by omega) (fun h1 f1 l1 => ?_)
        exact kk h1 (f0.tr (f1.w (fun o k c => by have := c.1; unfold mGF at this; unfold mGo; omega))) ((f1.L 5 to (by unfold mGo; omega)).trans i0) l1
  · rw [bI_f ck] at nmE
    simp (disch := first | assumption | omega) only [p_some, p_gd, p_br, p_bi, p_nm, p_mp, p_Sl, p_Sr, p_bis, p_gdt, q_IL, q_IR, q_LI, q_LR, q_RI, q_RL, q_KI, q_KL, q_KR, q_NI, q_NL, q_NR, q_nI, q_nL, q_nR, q_okI, q_okL, q_okR, q_Ie, q_In, q_Le, q_Ln, SM_I, SM_L, s_c0, s_cg0, s_cl0, s_cge, s_cle, r_le, r_lt, r_eq, r_md, r_2, r_3, r_lit, r_litL, r_m1, nI_add, nI_1, nI_clamp, nI_leI, nI_ltI, nI_eq, pk_sub, q_ix, nI_l, lN_add, lN_mul, r_m1n, r_m1n', r_m1lt, r_m1nlt, r_m1le, r_m1nle, Nat.not_lt_zero, Nat.reduceEqDiff, Nat.reduceLT, Nat.reduceLeDiff, true_and, and_true, true_implies, false_implies, not_true_eq_false, not_false_eq_true, implies_true, and_self, ne_eq, decide_true, decide_false, Bool.not_true, Bool.not_false, if_true, if_false, reduceIte, mk0, mk1, mk2, mk3, mk4, mk5, mk6, mk7, mk8, mk9, mk10, mk11, mk12, mk13, mk14, mk15, mk16, mk17, mk18, mk19, mk20, mk21, mk22, mn1, mn2, mn3, mn4, mn5, mn6, mn7, mn8, mn9, mn10, mn11, mn12, mn13, mn14, mn15, mn16, mn17, mn18, mn19, mn20, mn21, mn22, mr1, mr6, mr7, mr8, mr9, mr10, mr21, mr22, mr23, mr25, mr26, mr29, mr30, mr32, mr33, mr34, mr43, mr47, mr53, mr54, mr55, mr56, nmE]
    refine m_bad l (fun h1 f1 g1 => ?_)
    simp (disch := first | assumption | omega) only [p_some, p_gd, p_br, p_bi, p_nm, p_mp, p_Sl, p_Sr, p_bis, p_gdt, Nat.not_lt_zero, Nat.reduceEqDiff, Nat.reduceLT, Nat.reduceLeDiff, true_and, and_true, true_implies, false_implies, not_true_eq_false, not_false_eq_true, implies_true, and_self, ne_eq, decide_true, decide_false, Bool.not_true, Bool.not_false, if_true, if_false, reduceIte, s_yb0]
    exact k0 h1 _ (by rw [if_neg ck]) f1 g1
theorem m_onceOf {by8 : Nat → Nat} {L lim : Nat} {h : z_T} {t : Nat × Nat × Nat × Nat} (l : mL by8 L lim h t) : fX12_onceOf 0 h = some (if 4 ≤ a_kk t ∧ a_kk t ≤ 9 then nI (a_kk t - 4) else m1) := by
  have s := l.1
  have w3 := m_isWord l (i := 3) (W := 1919905645) (by decide) (by decide) (by decide)
  have w4 := m_isWord l (i := 4) (W := 499985311076) (by decide) (by decide) (by decide)
  have w5 := m_isWord l (i := 5) (W := 1937076837) (by decide) (by decide) (by decide)
  have w6 := m_isWord l (i := 6) (W := 1818326117) (by decide) (by decide) (by decide)
  have w7 := m_isWord l (i := 7) (W := 513021013607) (by decide) (by decide) (by decide)
  have w8 := m_isWord l (i := 8) (W := 465557353070) (by decide) (by decide) (by decide)
  have e : ∀ k, k < 6 → a_kk t = 4 + k → nI k = if 4 ≤ a_kk t ∧ a_kk t ≤ 9 then nI (a_kk t - 4) else m1 := fun k hk q => by
    rw [if_pos (by omega), show a_kk t - 4 = k by omega]
  refine p_of ?_
  generalize hQ : (fun w => w = if 4 ≤ a_kk t ∧ a_kk t ≤ 9 then nI (a_kk t - 4) else m1) = Q
  unfold fX12_onceOf
  simp (disch := first | assumption | omega) only [p_some, p_gd, p_br, p_bi, p_nm, p_mp, p_Sl, p_Sr, p_bis, p_gdt, Nat.not_lt_zero, Nat.reduceEqDiff, Nat.reduceLT, Nat.reduceLeDiff, true_and, and_true, true_implies, false_implies, not_true_eq_false, not_false_eq_true, implies_true, and_self, ne_eq, decide_true, decide_false, Bool.not_true, Bool.not_false, if_true, if_false, reduceIte, mk0 s, r_litL, r_lit, w3, w4, w5, w6, w7, w8, bI_0, r_m1]
  rw [← hQ]
  refine ⟨fun c3 => ⟨fun c4 => ⟨fun c5 => ⟨fun c6 => ⟨fun c7 => ⟨fun c8 => ?_, fun c8 => e 5 (by omega) (by omega)⟩, fun c7 => e 4 (by omega) (by omega)⟩, fun c6 => e 3 (by omega) (by omega)⟩, fun c5 => e 2 (by omega) (by omega)⟩, fun c4 => e 1 (by omega) (by omega)⟩, fun c3 => e 0 (by omega) (by omega)⟩
  dsimp only
  rw [if_neg (by omega)]
def mSg (by8 : Nat → Nat) (L lim : Nat) (h' : z_T) (w : a_BS) : Prop := mL by8 L lim h' w.2 ∧ mBr h' w.1.1 w.1.2.1 w.1.2.2
theorem m_once98 {by8 : Nat → Nat} {L lim : Nat} {h : z_T} {t : Nat × Nat × Nat × Nat} {bk nm : Nat → Nat} {told k lo hi : Nat} {Q : Int32 × z_T → Prop} (l : mL by8 L lim h t) (R : mBr h bk nm told) (hk : k < 6) (h1 : lo < 1000) (h2 : hi < 1000) (b : BOK bk)
    (k0 : ∀ h' e, a_nb lo hi t = .inl e → m_fr mBf h h' → mF h' e → Q (nI 0, h')) (k1 : ∀ h', a_nb lo hi t = .inr t.2.1 → m_fr mBf h h' → mL by8 L lim h' (a_ne by8 L lim t) → mBr h' (a_ud bk (2 + k) t.2.1) nm told → Q (nI 1, h')) : p_W (fX12_readOnce_b98 0 (nI k) 0 (nI lo) (nI hi) h) Q := by
  have s := l.1
  unfold fX12_readOnce_b98
  simp (disch := first | assumption | omega) only [p_some, p_gd, p_br, p_bi, p_nm, p_mp, p_Sl, p_Sr, p_bis, p_gdt, Nat.not_lt_zero, Nat.reduceEqDiff, Nat.reduceLT, Nat.reduceLeDiff, true_and, and_true, true_implies, false_implies, not_true_eq_false, not_false_eq_true, implies_true, and_self, ne_eq, decide_true, decide_false, Bool.not_true, Bool.not_false, if_true, if_false, reduceIte, mk0 s]
  refine m_takesB l h1 h2 (fun h1 e q f g => ?_) (fun h1 q q2 f l1 g => ?_)
  · simp (disch := first | assumption | omega) only [p_some, p_gd, p_br, p_bi, p_nm, p_mp, p_Sl, p_Sr, p_bis, p_gdt, Nat.not_lt_zero, Nat.reduceEqDiff, Nat.reduceLT, Nat.reduceLeDiff, true_and, and_true, true_implies, false_implies, not_true_eq_false, not_false_eq_true, implies_true, and_self, ne_eq, decide_true, decide_false, Bool.not_true, Bool.not_false, if_true, if_false, reduceIte, r_lit]
    exact k0 h1 e q (mBf.gf f) g
  · have s1 := l1.1
    have R1 := R.fr f
    rw [show (nI 1, h1).1 = nI 1 from rfl, show (nI 1, h1).2 = h1 from rfl]
    simp (disch := first | assumption | omega) only [p_some, p_gd, p_br, p_bi, p_nm, p_mp, p_Sl, p_Sr, p_bis, p_gdt, q_IL, q_IR, q_LI, q_LR, q_RI, q_RL, q_KI, q_KL, q_KR, q_NI, q_NL, q_NR, q_nI, q_nL, q_nR, q_okI, q_okL, q_okR, q_Ie, q_In, q_Le, q_Ln, SM_I, SM_L, s_c0, s_cg0, s_cl0, s_cge, s_cle, r_le, r_lt, r_eq, r_md, r_2, r_3, r_lit, r_litL, r_m1, nI_add, nI_1, nI_clamp, nI_leI, nI_ltI, nI_eq, pk_sub, q_ix, nI_l, lN_add, lN_mul, r_m1n, r_m1n', r_m1lt, r_m1nlt, r_m1le, r_m1nle, Nat.not_lt_zero, Nat.reduceEqDiff, Nat.reduceLT, Nat.reduceLeDiff, true_and, and_true, true_implies, false_implies, not_true_eq_false, not_false_eq_true, implies_true, and_self, ne_eq, decide_true, decide_false, Bool.not_true, Bool.not_false, if_true, if_false, reduceIte, mk0, mk1, mk2, mk3, mk4, mk5, mk6, mk7, mk8, mk9, mk10, mk11, mk12, mk13, mk14, mk15, mk16, mk17, mk18, mk19, mk20, mk21, mk22, mn1, mn2, mn3, mn4, mn5, mn6, mn7, mn8, mn9, mn10, mn11, mn12, mn13, mn14, mn15, mn16, mn17, mn18, mn19, mn20, mn21, mn22, mr1, mr6, mr7, mr8, mr9, mr10, mr21, mr22, mr23, mr25, mr26, mr29, mr30, mr32, mr33, mr34, mr43, mr47, mr53, mr54, mr55, mr56, show (nI 1 = nI 0) = False from by decide, g]
    refine k1 _ q ((mBf.gf f).sI (by unfold mBf; omega)) (l1.fr (C := fun o k => o ≠ 3) (m_fr.rf.sI (by omega)) (fun o k c => by unfold mKt at c; omega)) ⟨fun j hj => ?_, fun j hj => ?_, fun j hj => ?_, R1.2.2.2⟩
    · unfold a_ud
      by_cases e : j = 2 + k
      · rw [if_pos e, q_Ie rfl e]
      · rw [if_neg e, q_In (by omega)]
        exact R1.1 j hj
    · rw [a_ud_n (by omega)] at hj
      exact R1.2.1 j hj
    · rw [a_ud_n (by omega)] at hj
      exact R1.2.2.1 j hj
theorem m_readOnce {by8 : Nat → Nat} {L lim : Nat} {h : z_T} {t : Nat × Nat × Nat × Nat} {bk nm : Nat → Nat} {told k : Nat} {Q : Int32 × z_T → Prop} (l : mL by8 L lim h t) (b : BOK bk) (R : mBr h bk nm told) (hk : k < 6) (ht : told < 64) (h2 : 2 ≤ t.1)
    (k0 : ∀ h' e, a_lnS (a_ne by8 L lim) bk nm told k t = .inl e → m_fr mBf h h' → mF h' e → Q (nI 0, h')) (k1 : ∀ h' w, a_lnS (a_ne by8 L lim) bk nm told k t = .inr w → m_fr mBf h h' → mSg by8 L lim h' w → Q (nI 1, h')) : p_W (fX12_readOnce 0 (nI k) h) Q := by
  have s := l.1
  unfold a_lnS at k0 k1
  unfold fX12_readOnce
  simp (disch := first | assumption | omega) only [p_some, p_gd, p_br, p_bi, p_nm, p_mp, p_Sl, p_Sr, p_bis, p_gdt, q_IL, q_IR, q_LI, q_LR, q_RI, q_RL, q_KI, q_KL, q_KR, q_NI, q_NL, q_NR, q_nI, q_nL, q_nR, q_okI, q_okL, q_okR, q_Ie, q_In, q_Le, q_Ln, SM_I, SM_L, s_c0, s_cg0, s_cl0, s_cge, s_cle, r_le, r_lt, r_eq, r_md, r_2, r_3, r_lit, r_litL, r_m1, nI_add, nI_1, nI_clamp, nI_leI, nI_ltI, nI_eq, pk_sub, q_ix, nI_l, lN_add, lN_mul, r_m1n, r_m1n', r_m1lt, r_m1nlt, r_m1le, r_m1nle, Nat.not_lt_zero, Nat.reduceEqDiff, Nat.reduceLT, Nat.reduceLeDiff, true_and, and_true, true_implies, false_implies, not_true_eq_false, not_false_eq_true, implies_true, and_self, ne_eq, decide_true, decide_false, Bool.not_true, Bool.not_false, if_true, if_false, reduceIte, mk0, mk1, mk2, mk3, mk4, mk5, mk6, mk7, mk8, mk9, mk10, mk11, mk12, mk13, mk14, mk15, mk16, mk17, mk18, mk19, mk20, mk21, mk22, mn1, mn2, mn3, mn4, mn5, mn6, mn7, mn8, mn9, mn10, mn11, mn12, mn13, mn14, mn15, mn16, mn17, mn18, mn19, mn20, mn21, mn22, mr1, mr6, mr7, mr8, mr9, mr10, mr21, mr22, mr23, mr25, mr26, mr29, mr30, mr32, mr33, mr34, mr43, mr47, mr53, mr54, mr55, mr56, R.2.2.2, m_bitOf, bI_0, r_shl, fa_or]
  refine ⟨fun c => ?_, fun c => ?_⟩
  · rw [if_neg c] at k0 k1
    have f0 : m_fr mBf h (z_sI h 0 20 (nI (told ||| 2 ^ k))) := m_fr.rf.sI (by unfold mBf; omega)
    have l0 : mL by8 L lim (z_sI h 0 20 (nI (told ||| 2 ^ k))) t := l.fr (C := fun o k => o ≠ 0 ∨ k ≠ 20) (m_fr.rf.sI (by omega)) (fun o k c => by unfold mKt at c; omega)
    have R0 : mBr (z_sI h 0 20 (nI (told ||| 2 ^ k))) bk nm (told ||| 2 ^ k) := ⟨fun j hj => (q_In (by omega)).trans (R.1 j hj), R.2.1, R.2.2.1, q_Ie rfl rfl⟩
    generalize z_sI h 0 20 (nI (told ||| 2 ^ k)) = h0 at *
    refine m_goL l0 h2 (fun h1 f1 l1 => ?_)
    have s1 := l1.1
    have R1 := R0.fr (mGF.go f1)
    have F1 := f0.tr (mBf.gf (mGF.go f1))
    have nb : ∀ lo hi, lo = a_lo k → hi = a_hi k → ¬ k = 5 → p_W (fX12_readOnce_b98 0 (nI k) 0 (nI lo) (nI hi) h1) Q := fun lo hi e1 e2 c5 => by
      subst e1 e2
      rw [if_neg c5] at k0 k1
      have lb : a_lo k < 1000 ∧ a_hi k < 1000 := by
        unfold a_lo a_hi
        constructor
        · split
          · omega
          · split <;> omega
        · split
          · omega
          · split
            · omega
            · split <;> omega
      refine m_once98 l1 R1 hk lb.1 lb.2 b (fun h2 e q f g => ?_) (fun h2 q f l2 g => ?_)
      · exact k0 h2 e (by rw [q, a_bdl]) (F1.tr f) g
      · exact k1 h2 _ (by rw [q, a_bdr]) (F1.tr f) ⟨l2, g⟩
    unfold a_lo a_hi at nb
    unfold fX12_readOnce_b67
    simp (disch := first | assumption | omega) only [p_some, p_gd, p_br, p_bi, p_nm, p_mp, p_Sl, p_Sr, p_bis, p_gdt, q_IL, q_IR, q_LI, q_LR, q_RI, q_RL, q_KI, q_KL, q_KR, q_NI, q_NL, q_NR, q_nI, q_nL, q_nR, q_okI, q_okL, q_okR, q_Ie, q_In, q_Le, q_Ln, SM_I, SM_L, s_c0, s_cg0, s_cl0, s_cge, s_cle, r_le, r_lt, r_eq, r_md, r_2, r_3, r_lit, r_litL, r_m1, nI_add, nI_1, nI_clamp, nI_leI, nI_ltI, nI_eq, pk_sub, q_ix, nI_l, lN_add, lN_mul, r_m1n, r_m1n', r_m1lt, r_m1nlt, r_m1le, r_m1nle, Nat.not_lt_zero, Nat.reduceEqDiff, Nat.reduceLT, Nat.reduceLeDiff, true_and, and_true, true_implies, false_implies, not_true_eq_false, not_false_eq_true, implies_true, and_self, ne_eq, decide_true, decide_false, Bool.not_true, Bool.not_false, if_true, if_false, reduceIte, mk0, mk1, mk2, mk3, mk4, mk5, mk6, mk7, mk8, mk9, mk10, mk11, mk12, mk13, mk14, mk15, mk16, mk17, mk18, mk19, mk20, mk21, mk22, mn1, mn2, mn3, mn4, mn5, mn6, mn7, mn8, mn9, mn10, mn11, mn12, mn13, mn14, mn15, mn16, mn17, mn18, mn19, mn20, mn21, mn22, mr1, mr6, mr7, mr8, mr9, mr10, mr21, mr22, mr23, mr25, mr26, mr29, mr30, mr32, mr33, mr34, mr43, mr47, mr53, mr54, mr55, mr56]
    refine ⟨fun c5 => ?_, fun c5 => ⟨fun c0 => ⟨fun _ => nb 1 20 (by rw [if_pos c0]) (by rw [if_pos c0]) c5, fun q => absurd c0 q⟩, fun c0 => ⟨fun c2 => ⟨fun q => absurd q c0, fun _ => ⟨fun q => absurd q (by omega), fun _ => ⟨fun _ => nb 5 9 (by rw [if_neg c0, if_pos c2]) (by rw [if_neg c0, if_neg (by omega), if_pos c2]) c5, fun q => absurd c2 q⟩⟩⟩, fun c2 => ⟨fun q => absurd q c0, fun _ => ⟨fun c1 => nb 0 12 (by rw [if_neg c0, if_neg c2]) (by rw [if_neg c0, if_pos c1]) c5, fun c1 => ⟨fun q => absurd q c2, fun _ => nb 0 99 (by rw [if_neg c0, if_neg c2]) (by rw [if_neg c0, if_neg c1, if_neg c2]) c5⟩⟩⟩⟩⟩⟩
    rw [if_pos c5] at k1
    subst c5
    refine k1 _ _ rfl (F1.sI (by unfold mBf; omega)) ⟨l1.fr (C := fun o k => o ≠ 3) (m_fr.rf.sI (by omega)) (fun o k c => by unfold mKt at c; omega), ⟨fun j hj => ?_, fun j hj => ?_, fun j hj => ?_, R1.2.2.2⟩⟩
    · dsimp only
      unfold a_ud
      by_cases e : j = 7
      · rw [if_pos e, q_Ie rfl e]
      · rw [if_neg e, q_In (by omega)]
        exact R1.1 j hj
    · dsimp only at hj
      rw [a_ud_n (by omega)] at hj
      exact R1.2.1 j hj
    · dsimp only at hj
      rw [a_ud_n (by omega)] at hj
      exact R1.2.2.1 j hj

  · rw [if_pos (Classical.not_not.mp c)] at k0
    refine m_bad l (fun h1 f1 g1 => ?_)
    simp (disch := first | assumption | omega) only [p_some, p_gd, p_br, p_bi, p_nm, p_mp, p_Sl, p_Sr, p_bis, p_gdt, Nat.not_lt_zero, Nat.reduceEqDiff, Nat.reduceLT, Nat.reduceLeDiff, true_and, and_true, true_implies, false_implies, not_true_eq_false, not_false_eq_true, implies_true, and_self, ne_eq, decide_true, decide_false, Bool.not_true, Bool.not_false, if_true, if_false, reduceIte, s_yb0]
    exact k0 h1 _ rfl (mBf.gf f1) g1
