/-! the reference behind an operand -/
section MBEH
variable {by8 : Nat → Nat} {L lim : Nat} {h : z_T} {t : a_tk} {cf : Nat → Nat} {c n dp a b k : Nat} {Q : Int32 × z_T → Prop}
theorem m_push70 {v : Nat} (l : mL by8 L lim h t) (t2 : 2 ≤ t.1) (hC : mCd h cf c) (i50 : z_I h 0 50 = nI n) (hn : n < 45) (K : ∀ h', m_fr (mSf n) h h' → mL by8 L lim h' (a_ne by8 L lim t) → mCd h' cf c → z_I h' 0 50 = nI (n + 1) → z_I h' 0 51 = z_I h 0 51 → z_I h' 18 n = nI v → z_I h' 0 52 = nI 0 → z_I h' 0 49 = z_I h 0 49 → Q (nI 1, h')) : p_W (fX12_behind_b70 0 18 (nI n) (nI v) h) Q := by
  have s := l.1
  unfold fX12_behind_b70
  simp (disch := first | assumption | omega) only [p_some, p_gd, p_br, p_bi, p_nm, p_mp, p_Sl, p_Sr, p_bis, p_gdt, q_IL, q_IR, q_LI, q_LR, q_RI, q_RL, q_KI, q_KL, q_KR, q_NI, q_NL, q_NR, q_nI, q_nL, q_nR, q_okI, q_okL, q_okR, q_Ie, q_In, q_Le, q_Ln, SM_I, SM_L, s_c0, s_cg0, s_cl0, s_cge, s_cle, r_le, r_lt, r_eq, r_md, r_2, r_3, r_lit, r_litL, r_m1, nI_add, nI_1, nI_clamp, nI_leI, nI_ltI, nI_eq, pk_sub, q_ix, nI_l, lN_add, lN_mul, r_m1n, r_m1n', r_m1lt, r_m1nlt, r_m1le, r_m1nle, Nat.not_lt_zero, Nat.reduceEqDiff, Nat.reduceLT, Nat.reduceLeDiff, true_and, and_true, true_implies, false_implies, not_true_eq_false, not_false_eq_true, implies_true, and_self, ne_eq, decide_true, decide_false, Bool.not_true, Bool.not_false, if_true, if_false, reduceIte, mk0, mk1, mk2, mk3, mk4, mk5, mk6, mk7, mk8, mk9, mk10, mk11, mk12, mk13, mk14, mk15, mk16, mk17, mk18, mk19, mk20, mk21, mk22, mn1, mn2, mn3, mn4, mn5, mn6, mn7, mn8, mn9, mn10, mn11, mn12, mn13, mn14, mn15, mn16, mn17, mn18, mn19, mn20, mn21, mn22, mr1, mr6, mr7, mr8, mr9, mr10, mr21, mr22, mr23, mr25, mr26, mr29, mr30, mr32, mr33, mr34, mr43, mr47, mr53, mr54, mr55, mr56, i50]
  have f0 : m_fr (fun o k => (o ≠ 0 ∨ (k ≠ 50 ∧ k ≠ 52)) ∧ (o ≠ 18 ∨ k ≠ n)) h (z_sI (z_sI (z_sI h 18 n (nI v)) 0 50 (nI (n + 1))) 0 52 (nI 0)) := ((m_fr.rf.sI (by omega)).sI (by omega)).sI (by omega)
  have j50 : z_I (z_sI (z_sI (z_sI h 18 n (nI v)) 0 50 (nI (n + 1))) 0 52 (nI 0)) 0 50 = nI (n + 1) := (q_In (by omega)).trans (q_Ie rfl rfl)
  have j52 : z_I (z_sI (z_sI (z_sI h 18 n (nI v)) 0 50 (nI (n + 1))) 0 52 (nI 0)) 0 52 = nI 0 := q_Ie rfl rfl
  have j18 : z_I (z_sI (z_sI (z_sI h 18 n (nI v)) 0 50 (nI (n + 1))) 0 52 (nI 0)) 18 n = nI v := by rw [q_In (by omega), q_In (by omega), q_Ie rfl rfl]
  generalize z_sI (z_sI (z_sI h 18 n (nI v)) 0 50 (nI (n + 1))) 0 52 (nI 0) = h0 at *
  have l0 : mL by8 L lim h0 t := l.fr f0 (fun o k c => by unfold mKt at c; omega)
  refine m_goL l0 t2 (fun h1 f1 l1 => ?_)
  have G1 := mGF.go f1
  exact K h1 ((f0.w (fun o k c => by obtain ⟨c1, c2, c3, c4⟩ := c; omega)).tr (mSf.gf G1)) l1 ((hC.fr f0 (by omega) (fun i => by omega)).fr G1 (by unfold mGF; omega) (fun i => by unfold mGF; omega)) ((G1.I 0 50 (by unfold mGF; omega)).trans j50) ((G1.I 0 51 (by unfold mGF; omega)).trans (f0.I 0 51 (by omega))) ((G1.I 18 n (by unfold mGF; omega)).trans j18) ((G1.I 0 52 (by unfold mGF; omega)).trans j52) ((G1.I 0 49 (by unfold mGF; omega)).trans (f0.I 0 49 (by omega)))
theorem mb_and (l : mL by8 L lim h t) (p : mPd h n cf c dp a k k) (ck : a_kk t = 16) (hc : c ≤ 44) (hn : n + k ≤ 44) (hd : dp + a < 100) (hS : mSk h n (fun x => ¬ x = 20 ∧ ¬ x = 21))
    (K : ∀ h', m_fr (mSf n) h h' → mL by8 L lim h' (a_ne by8 L lim t) → mCd h' cf c → z_I h' 0 50 = nI (n + 1) → z_I h' 0 51 = nI dp → z_I h' 18 n = nI 21 → z_I h' 0 52 = nI 0 → z_I h' 0 49 = z_I h 0 49 → Q (nI 1, h')) : p_W (fX12_behind 0 h) Q := by
  have s := l.1
  have t2 := a_kk1 (t := t) (by omega)
  unfold fX12_behind
  simp (disch := first | assumption | omega) only [p_some, p_gd, p_br, p_bi, p_nm, p_mp, p_Sl, p_Sr, p_bis, p_gdt, Nat.not_lt_zero, Nat.reduceEqDiff, Nat.reduceLT, Nat.reduceLeDiff, true_and, and_true, true_implies, false_implies, not_true_eq_false, not_false_eq_true, implies_true, and_self, ne_eq, decide_true, decide_false, Bool.not_true, Bool.not_false, if_true, if_false, reduceIte, mk0 s]
  refine m_nots s p hc (by omega) hd (fun _ => hS.i (fun x q => q.1)) (fun h1 f1 p1 => ?_)
  have l1 := l.df f1
  have s1 := l1.1
  have w15 := m_isWord l1 (i := 15) (W := 6385252) (by decide) (by decide) (by decide)
  rw [bI_t (show a_kk t = 15 + 1 from ck)] at w15
  unfold fX12_behind_b24 fX12_behind_b42
  simp (disch := first | assumption | omega) only [p_some, p_gd, p_br, p_bi, p_nm, p_mp, p_Sl, p_Sr, p_bis, p_gdt, Nat.not_lt_zero, Nat.reduceEqDiff, Nat.reduceLT, Nat.reduceLeDiff, true_and, and_true, true_implies, false_implies, not_true_eq_false, not_false_eq_true, implies_true, and_self, ne_eq, decide_true, decide_false, Bool.not_true, Bool.not_false, if_true, if_false, reduceIte, mk0 s1, r_lit, r_litL, w15, s_10]
  refine m_joins21 s1 p1 hc (by omega) (fun _ => (hS.fr f1 (fun k _ => by unfold mDf; omega)).i (fun x q => q.2)) (fun h2 f2 p2 => ?_)
  have l2 := l1.df f2
  have s2 := l2.1
  have w15' := m_isWord l2 (i := 15) (W := 6385252) (by decide) (by decide) (by decide)
  rw [bI_t (show a_kk t = 15 + 1 from ck)] at w15'
  obtain ⟨c0, q1, -, q3, q4, q5, -⟩ := p2
  rw [Nat.sub_self] at q1 q4
  rw [Nat.add_zero] at q1 q4 q5
  subst q1
  simp (disch := first | assumption | omega) only [p_some, p_gd, p_br, p_bi, p_nm, p_mp, p_Sl, p_Sr, p_bis, p_gdt, Nat.not_lt_zero, Nat.reduceEqDiff, Nat.reduceLT, Nat.reduceLeDiff, true_and, and_true, true_implies, false_implies, not_true_eq_false, not_false_eq_true, implies_true, and_self, ne_eq, decide_true, decide_false, Bool.not_true, Bool.not_false, if_true, if_false, reduceIte, mk0 s2, mr47 s2, r_lit, r_litL, w15', s_10, q4]
  refine m_push70 (v := 21) l2 (by omega) q3 q4 (by omega) (fun h3 f3 l3 C3 e50 e51 e18 e52 e49 => ?_)
  exact K h3 ((mSf.df (f1.tr f2)).tr f3) l3 C3 e50 (e51.trans q5) e18 e52 (e49.trans ((f1.tr f2).I 0 49 (by unfold mDf; omega)))
theorem mb_or (l : mL by8 L lim h t) (p : mPd h n cf c dp a b k) (ck : a_kk t = 15) (hc : c ≤ 44) (hn : n + k ≤ 44) (hd : dp + a < 100) (hS : mSk h n (fun x => ¬ x = 20 ∧ ¬ x = 21 ∧ ¬ x = 22))
    (K : ∀ h', m_fr (mSf n) h h' → mL by8 L lim h' (a_ne by8 L lim t) → mCd h' cf c → z_I h' 0 50 = nI (n + 1) → z_I h' 0 51 = nI dp → z_I h' 18 n = nI 22 → z_I h' 0 52 = nI 0 → z_I h' 0 49 = z_I h 0 49 → Q (nI 1, h')) : p_W (fX12_behind 0 h) Q := by
  have s := l.1
  have t2 := a_kk1 (t := t) (by omega)
  unfold fX12_behind
  simp (disch := first | assumption | omega) only [p_some, p_gd, p_br, p_bi, p_nm, p_mp, p_Sl, p_Sr, p_bis, p_gdt, Nat.not_lt_zero, Nat.reduceEqDiff, Nat.reduceLT, Nat.reduceLeDiff, true_and, and_true, true_implies, false_implies, not_true_eq_false, not_false_eq_true, implies_true, and_self, ne_eq, decide_true, decide_false, Bool.not_true, Bool.not_false, if_true, if_false, reduceIte, mk0 s]
  refine m_nots s p hc (by omega) hd (fun _ => hS.i (fun x q => q.1)) (fun h1 f1 p1 => ?_)
  have l1 := l.df f1
  have s1 := l1.1
  have w15 := m_isWord l1 (i := 15) (W := 6385252) (by decide) (by decide) (by decide)
  have w14 := m_isWord l1 (i := 14) (W := 28530) (by decide) (by decide) (by decide)
  rw [bI_f (show ¬ a_kk t = 15 + 1 by omega)] at w15
  rw [bI_t (show a_kk t = 14 + 1 from ck)] at w14
  unfold fX12_behind_b24 fX12_behind_b42
  simp (disch := first | assumption | omega) only [p_some, p_gd, p_br, p_bi, p_nm, p_mp, p_Sl, p_Sr, p_bis, p_gdt, Nat.not_lt_zero, Nat.reduceEqDiff, Nat.reduceLT, Nat.reduceLeDiff, true_and, and_true, true_implies, false_implies, not_true_eq_false, not_false_eq_true, implies_true, and_self, ne_eq, decide_true, decide_false, Bool.not_true, Bool.not_false, if_true, if_false, reduceIte, mk0 s1, r_lit, r_litL, w15, w14, s_10]
  refine m_joins22 s1 p1 hc (by omega) ((hS.fr f1 (fun k _ => by unfold mDf; omega)).i (fun x q => q.2)) (fun h2 f2 q3 q4 q5 => ?_)
  have l2 := l1.df f2
  have s2 := l2.1
  have w15' := m_isWord l2 (i := 15) (W := 6385252) (by decide) (by decide) (by decide)
  rw [bI_f (show ¬ a_kk t = 15 + 1 by omega)] at w15'
  simp (disch := first | assumption | omega) only [p_some, p_gd, p_br, p_bi, p_nm, p_mp, p_Sl, p_Sr, p_bis, p_gdt, Nat.not_lt_zero, Nat.reduceEqDiff, Nat.reduceLT, Nat.reduceLeDiff, true_and, and_true, true_implies, false_implies, not_true_eq_false, not_false_eq_true, implies_true, and_self, ne_eq, decide_true, decide_false, Bool.not_true, Bool.not_false, if_true, if_false, reduceIte, mk0 s2, mr47 s2, r_lit, r_litL, w15', q4]
  refine m_push70 (v := 22) l2 (by omega) q3 q4 (by omega) (fun h3 f3 l3 C3 e50 e51 e18 e52 e49 => ?_)
  exact K h3 ((mSf.df (f1.tr f2)).tr f3) l3 C3 e50 (e51.trans q5) e18 e52 (e49.trans ((f1.tr f2).I 0 49 (by unfold mDf; omega)))
theorem mb_close (l : mL by8 L lim h t) (p : mPd h n cf c dp a b k) (c16 : ¬ a_kk t = 16) (c15 : ¬ a_kk t = 15) (hc : c ≤ 44) (hn : n + k ≤ 44) (hd : dp + a < 100) (hS : mSk h n (fun x => ¬ x = 20 ∧ ¬ x = 21 ∧ ¬ x = 22))
    (K0 : ∀ h', ¬ (t.1 = 41 ∧ ¬ n = 0) → m_fr (mSf n) h h' → mF h' (1, t.2.2.1) → Q (nI 0, h'))
    (K1 : ∀ h', t.1 = 41 → ¬ n = 0 → m_fr (mSf n) h h' → mL by8 L lim h' (a_ne by8 L lim t) → mCd h' cf c → z_I h' 0 50 = nI (n - 1) → z_I h' 0 51 = nI dp - nI 1 → z_I h' 0 52 = z_I h 0 52 → z_I h' 0 49 = z_I h 0 49 → Q (nI 1, h')) : p_W (fX12_behind 0 h) Q := by
  have s := l.1
  unfold fX12_behind
  simp (disch := first | assumption | omega) only [p_some, p_gd, p_br, p_bi, p_nm, p_mp, p_Sl, p_Sr, p_bis, p_gdt, Nat.not_lt_zero, Nat.reduceEqDiff, Nat.reduceLT, Nat.reduceLeDiff, true_and, and_true, true_implies, false_implies, not_true_eq_false, not_false_eq_true, implies_true, and_self, ne_eq, decide_true, decide_false, Bool.not_true, Bool.not_false, if_true, if_false, reduceIte, mk0 s]
  refine m_nots s p hc (by omega) hd (fun _ => hS.i (fun x q => q.1)) (fun h1 f1 p1 => ?_)
  have l1 := l.df f1
  have s1 := l1.1
  have w15 := m_isWord l1 (i := 15) (W := 6385252) (by decide) (by decide) (by decide)
  have w14 := m_isWord l1 (i := 14) (W := 28530) (by decide) (by decide) (by decide)
  rw [bI_f (show ¬ a_kk t = 15 + 1 by omega)] at w15
  rw [bI_f (show ¬ a_kk t = 14 + 1 by omega)] at w14
  simp (disch := first | assumption | omega) only [p_some, p_gd, p_br, p_bi, p_nm, p_mp, p_Sl, p_Sr, p_bis, p_gdt, Nat.not_lt_zero, Nat.reduceEqDiff, Nat.reduceLT, Nat.reduceLeDiff, true_and, and_true, true_implies, false_implies, not_true_eq_false, not_false_eq_true, implies_true, and_self, ne_eq, decide_true, decide_false, Bool.not_true, Bool.not_false, if_true, if_false, reduceIte, mk0 s1, r_lit, r_litL, w15, w14]
  refine m_joins22 s1 p1 hc (by omega) ((hS.fr f1 (fun k _ => by unfold mDf; omega)).i (fun x q => q.2)) (fun h2 f2 q3 q4 q5 => ?_)
  have l2 := l1.df f2
  have s2 := l2.1
  have sg := m_isSign l2 (c := 41) (by decide)
  have F2 := f1.tr f2
  have bad : ¬ (t.1 = 41 ∧ ¬ n = 0) → p_W (fX12_behind_b114 0 h2) Q := fun cc => by
    unfold fX12_behind_b114
    simp (disch := first | assumption | omega) only [p_some, p_gd, p_br, p_bi, p_nm, p_mp, p_Sl, p_Sr, p_bis, p_gdt, Nat.not_lt_zero, Nat.reduceEqDiff, Nat.reduceLT, Nat.reduceLeDiff, true_and, and_true, true_implies, false_implies, not_true_eq_false, not_false_eq_true, implies_true, and_self, ne_eq, decide_true, decide_false, Bool.not_true, Bool.not_false, if_true, if_false, reduceIte, mk0 s2, r_lit]
    refine m_bad (F := 1) l2 (fun h3 f3 g3 => ?_)
    simp (disch := first | assumption | omega) only [p_some, p_gd, p_br, p_bi, p_nm, p_mp, p_Sl, p_Sr, p_bis, p_gdt, Nat.not_lt_zero, Nat.reduceEqDiff, Nat.reduceLT, Nat.reduceLeDiff, true_and, and_true, true_implies, false_implies, not_true_eq_false, not_false_eq_true, implies_true, and_self, ne_eq, decide_true, decide_false, Bool.not_true, Bool.not_false, if_true, if_false, reduceIte, s_yb0]
    exact K0 h3 cc ((mSf.df F2).tr (mSf.gf f3)) g3
  by_cases c41 : t.1 = 41
  · rw [bI_t c41] at sg
    by_cases n0 : n = 0
    · simp (disch := first | assumption | omega) only [p_some, p_gd, p_br, p_bi, p_nm, p_mp, p_Sl, p_Sr, p_bis, p_gdt, Nat.not_lt_zero, Nat.reduceEqDiff, Nat.reduceLT, Nat.reduceLeDiff, true_and, and_true, true_implies, false_implies, not_true_eq_false, not_false_eq_true, implies_true, and_self, ne_eq, decide_true, decide_false, Bool.not_true, Bool.not_false, if_true, if_false, reduceIte, mk0 s2, r_lit, sg, s_10, q4, nI_eq, n0]
      exact bad (fun q => q.2 n0)
    · simp (disch := first | assumption | omega) only [p_some, p_gd, p_br, p_bi, p_nm, p_mp, p_Sl, p_Sr, p_bis, p_gdt, q_IL, q_IR, q_LI, q_LR, q_RI, q_RL, q_KI, q_KL, q_KR, q_NI, q_NL, q_NR, q_nI, q_nL, q_nR, q_okI, q_okL, q_okR, q_Ie, q_In, q_Le, q_Ln, SM_I, SM_L, s_c0, s_cg0, s_cl0, s_cge, s_cle, r_le, r_lt, r_eq, r_md, r_2, r_3, r_lit, r_litL, r_m1, nI_add, nI_1, nI_clamp, nI_leI, nI_ltI, nI_eq, pk_sub, q_ix, nI_l, lN_add, lN_mul, r_m1n, r_m1n', r_m1lt, r_m1nlt, r_m1le, r_m1nle, Nat.not_lt_zero, Nat.reduceEqDiff, Nat.reduceLT, Nat.reduceLeDiff, true_and, and_true, true_implies, false_implies, not_true_eq_false, not_false_eq_true, implies_true, and_self, ne_eq, decide_true, decide_false, Bool.not_true, Bool.not_false, if_true, if_false, reduceIte, mk0, mk1, mk2, mk3, mk4, mk5, mk6, mk7, mk8, mk9, mk10, mk11, mk12, mk13, mk14, mk15, mk16, mk17, mk18, mk19, mk20, mk21, mk22, mn1, mn2, mn3, mn4, mn5, mn6, mn7, mn8, mn9, mn10, mn11, mn12, mn13, mn14, mn15, mn16, mn17, mn18, mn19, mn20, mn21, mn22, mr1, mr6, mr7, mr8, mr9, mr10, mr21, mr22, mr23, mr25, mr26, mr29, mr30, mr32, mr33, mr34, mr43, mr47, mr53, mr54, mr55, mr56, sg, s_10, q4, q5, n0]
      have f3 : m_fr (fun o k => o ≠ 0 ∨ (k ≠ 50 ∧ k ≠ 51)) h2 (z_sI (z_sI h2 0 50 (nI (n - 1))) 0 51 (nI dp - nI 1)) := (m_fr.rf.sI (by omega)).sI (by omega)
      have j50 : z_I (z_sI (z_sI h2 0 50 (nI (n - 1))) 0 51 (nI dp - nI 1)) 0 50 = nI (n - 1) := (q_In (by omega)).trans (q_Ie rfl rfl)
      have j51 : z_I (z_sI (z_sI h2 0 50 (nI (n - 1))) 0 51 (nI dp - nI 1)) 0 51 = nI dp - nI 1 := q_Ie rfl rfl
      generalize z_sI (z_sI h2 0 50 (nI (n - 1))) 0 51 (nI dp - nI 1) = h3 at *
      have l3 : mL by8 L lim h3 t := l2.fr f3 (fun o k c => by unfold mKt at c; omega)
      refine m_goL l3 (by omega) (fun h4 f4 l4 => ?_)
      have G4 := mGF.go f4
      exact K1 h4 c41 n0 ((mSf.df F2).tr ((f3.w (fun o k c => by obtain ⟨c1, c2, c3, c4⟩ := c; omega)).tr (mSf.gf G4))) l4 ((q3.fr f3 (by omega) (fun i => by omega)).fr G4 (by unfold mGF; omega) (fun i => by unfold mGF; omega)) ((G4.I 0 50 (by unfold mGF; omega)).trans j50) ((G4.I 0 51 (by unfold mGF; omega)).trans j51) ((G4.I 0 52 (by unfold mGF; omega)).trans ((f3.I 0 52 (by omega)).trans (F2.I 0 52 (by unfold mDf; omega)))) ((G4.I 0 49 (by unfold mGF; omega)).trans ((f3.I 0 49 (by omega)).trans (F2.I 0 49 (by unfold mDf; omega))))
  · rw [bI_f c41] at sg
    simp (disch := first | assumption | omega) only [p_some, p_gd, p_br, p_bi, p_nm, p_mp, p_Sl, p_Sr, p_bis, p_gdt, Nat.not_lt_zero, Nat.reduceEqDiff, Nat.reduceLT, Nat.reduceLeDiff, true_and, and_true, true_implies, false_implies, not_true_eq_false, not_false_eq_true, implies_true, and_self, ne_eq, decide_true, decide_false, Bool.not_true, Bool.not_false, if_true, if_false, reduceIte, mk0 s2, r_lit, sg]
    exact bad (fun q => c41 q.1)
end MBEH
/-! the reference's loop over a sentence -/
noncomputable def SLP : Int32 × z_T → Option ((Int32 × z_T) ⊕ (Int32 × z_T)) := fun q => fX12_sentence_b48_i 0 q.1 q.2
theorem m_stO {h : z_T} {Q : Int32 × z_T → Prop} (s : SM h) (h52 : z_I h 0 52 = nI 0) (H : p_W (fX12_operand 0 h) (fun w => SM w.2 ∧ ((w.1 = nI 0 ∧ Q (m1 - z_I w.2 0 16, w.2)) ∨ (w.1 = nI 1 ∧ p_W (y_lp SLP (nI 1, w.2)) Q)))) : p_W (y_lp SLP (nI 1, h)) Q := by
  refine p_unP (fun P hP => ?_)
  show p_W (fX12_sentence_b48_i 0 (nI 1) h) (p_S P Q)
  unfold fX12_sentence_b48_i fX12_sentence_b101 fX12_sentence_b125
  simp (disch := first | assumption | omega) only [p_some, p_gd, p_br, p_bi, p_nm, p_mp, p_Sl, p_Sr, p_bis, p_gdt, Nat.not_lt_zero, Nat.reduceEqDiff, Nat.reduceLT, Nat.reduceLeDiff, true_and, and_true, true_implies, false_implies, not_true_eq_false, not_false_eq_true, implies_true, and_self, ne_eq, decide_true, decide_false, Bool.not_true, Bool.not_false, if_true, if_false, reduceIte, r_lit, s_10, mk0 s, h52]
  refine p_mono H (fun w ⟨s1, H1⟩ => ?_)
  obtain ⟨r, h1⟩ := w
  dsimp only at s1 H1 ⊢
  rcases H1 with ⟨rfl, q⟩ | ⟨rfl, q⟩
  · simp (disch := first | assumption | omega) only [p_some, p_gd, p_br, p_bi, p_nm, p_mp, p_Sl, p_Sr, p_bis, p_gdt, Nat.not_lt_zero, Nat.reduceEqDiff, Nat.reduceLT, Nat.reduceLeDiff, true_and, and_true, true_implies, false_implies, not_true_eq_false, not_false_eq_true, implies_true, and_self, ne_eq, decide_true, decide_false, Bool.not_true, Bool.not_false, if_true, if_false, reduceIte, mk0 s1, r_m1]
    exact q
  · simp (disch := first | assumption | omega) only [p_some, p_gd, p_br, p_bi, p_nm, p_mp, p_Sl, p_Sr, p_bis, p_gdt, Nat.not_lt_zero, Nat.reduceEqDiff, Nat.reduceLT, Nat.reduceLeDiff, true_and, and_true, true_implies, false_implies, not_true_eq_false, not_false_eq_true, implies_true, and_self, ne_eq, decide_true, decide_false, Bool.not_true, Bool.not_false, if_true, if_false, reduceIte, s_10]
    exact hP _ q
theorem m_stB {h : z_T} {Q : Int32 × z_T → Prop} (s : SM h) (h52 : z_I h 0 52 = nI 1) (h11 : ¬ z_I h 0 11 = nI 0) (H : p_W (fX12_behind 0 h) (fun w => SM w.2 ∧ ((w.1 = nI 0 ∧ Q (m1 - z_I w.2 0 16, w.2)) ∨ (w.1 = nI 1 ∧ p_W (y_lp SLP (nI 1, w.2)) Q)))) : p_W (y_lp SLP (nI 1, h)) Q := by
  refine p_unP (fun P hP => ?_)
  show p_W (fX12_sentence_b48_i 0 (nI 1) h) (p_S P Q)
  unfold fX12_sentence_b48_i fX12_sentence_b101 fX12_sentence_b125
  simp (disch := first | assumption | omega) only [p_some, p_gd, p_br, p_bi, p_nm, p_mp, p_Sl, p_Sr, p_bis, p_gdt, Nat.not_lt_zero, Nat.reduceEqDiff, Nat.reduceLT, Nat.reduceLeDiff, true_and, and_true, true_implies, false_implies, not_true_eq_false, not_false_eq_true, implies_true, and_self, ne_eq, decide_true, decide_false, Bool.not_true, Bool.not_false, if_true, if_false, reduceIte, r_lit, s_10, mk0 s, h52, h11]
  refine p_mono H (fun w ⟨s1, H1⟩ => ?_)
  obtain ⟨r, h1⟩ := w
  dsimp only at s1 H1 ⊢
  rcases H1 with ⟨rfl, q⟩ | ⟨rfl, q⟩
  · simp (disch := first | assumption | omega) only [p_some, p_gd, p_br, p_bi, p_nm, p_mp, p_Sl, p_Sr, p_bis, p_gdt, Nat.not_lt_zero, Nat.reduceEqDiff, Nat.reduceLT, Nat.reduceLeDiff, true_and, and_true, true_implies, false_implies, not_true_eq_false, not_false_eq_true, implies_true, and_self, ne_eq, decide_true, decide_false, Bool.not_true, Bool.not_false, if_true, if_false, reduceIte, mk0 s1, r_m1]
    exact q
  · simp (disch := first | assumption | omega) only [p_some, p_gd, p_br, p_bi, p_nm, p_mp, p_Sl, p_Sr, p_bis, p_gdt, Nat.not_lt_zero, Nat.reduceEqDiff, Nat.reduceLT, Nat.reduceLeDiff, true_and, and_true, true_implies, false_implies, not_true_eq_false, not_false_eq_true, implies_true, and_self, ne_eq, decide_true, decide_false, Bool.not_true, Bool.not_false, if_true, if_false, reduceIte, s_10]
    exact hP _ q
