/-! sentence of the reference -/
theorem mPd.nil {h : z_T} {n c dp : Nat} {cf : Nat → Nat} (C : mCd h cf c) (e50 : z_I h 0 50 = nI n) (e51 : z_I h 0 51 = nI dp) : mPd h n cf c dp 0 0 0 := ⟨c, rfl, by omega, C, e50, e51, fun i hi => absurd hi (Nat.not_lt_zero _)⟩
theorem mh_one {by8 : Nat → Nat} {L lim : Nat} {bk nm : Nat → Nat} (b : BOK bk) (N : NMO bk nm) : ∀ d, d ≤ 8 → mHP by8 L lim bk nm d 26 (fun a b k => a = k ∧ b = k) (fun _ => True) (a_one (a_ne by8 L lim) (fun d => nm (8 + d)) (bk 1) d) := by
  intro d
  have h6 := b.2.1
  induction d with
  | zero =>
    intro hd n cf c o h t Q hn hc ho W l hB hM hC h49 h50 h51 h52 hS k0 k1
    refine m_stO l.1 h52 ?_
    refine m_operand (d := 0) b N l hB hM hC h49 h50 h51 ho hd (by omega) (by omega) (fun h1 e q f g => ⟨f.s l.1, Or.inl ⟨rfl, ?_⟩⟩) (fun h1 d' ed => absurd ed (by omega)) (fun h1 d' v ed => absurd ed (by omega))
    show Q (m1 - z_I h1 0 16, h1)
    rw [g.2]
    exact k0 h1 e q f g
  | succ d ih =>
    intro hd n cf c o h t Q hn hc ho W l hB hM hC h49 h50 h51 h52 hS k0 k1
    have ihd := ih (by omega)
    have hR := fun cf c o t v W q => a_one_r (ne := a_ne by8 L lim) (f := fun d => nm (8 + d)) h6 d cf c o t v W q
    refine m_stO l.1 h52 ?_
    refine m_operand (d := d + 1) b N l hB hM hC h49 h50 h51 ho hd (by omega) (by omega) (fun h1 e q f g => ⟨f.s l.1, Or.inl ⟨rfl, ?_⟩⟩) (fun h1 d' ed ho2 cs f1 l1 C1 e49 e50 e51 e52 => ⟨l1.1, Or.inr ⟨rfl, ?_⟩⟩) (fun h1 d' v ed ho2 k17 q f1 l1 C1 e49 e50 e51 e52 => ⟨l1.1, Or.inr ⟨rfl, ?_⟩⟩)
    · show Q (m1 - z_I h1 0 16, h1)
      rw [g.2]
      exact k0 h1 e q f g
    · obtain rfl : d' = d := by omega
      rcases cs with ⟨c40, e18⟩ | ⟨c17, e18⟩
      · have k0' := fun h' e q => k0 h' e ((a_one_b c40 ho2).trans q)
        have k1' := fun h' v a b k q => k1 h' v a b k ((a_one_b c40 ho2).trans q)
        clear k0 k1
        refine mh_cond (by omega) ihd hR (n + 1) cf c (o + 1) h1 _ Q (by omega) (by omega) (by omega) W l1 (hB.sf f1) (hM.sf f1) C1 e49 e50 e51 (e52.trans h52) (Or.inr ⟨23, by omega, by omega, by rw [Nat.add_sub_cancel]; exact e18⟩) (fun h2 e q f g => ?_) (fun h2 v a b' k q _ ha f2 l2 p2 j49 j52 => ?_)
        · exact k0' h2 e (by rw [q, a_bdl]) (f1.tr (mSf.up (by omega) f)) g
        · obtain ⟨⟨r1, r2, r3, r4, r5, r6, r7⟩, n16, n15⟩ := a_co_r hR _ _ _ _ _ W q
          have j18 : mSk h2 (n + 1) (fun x => ¬ x = 20 ∧ ¬ x = 21 ∧ ¬ x = 22) := Or.inr ⟨23, by omega, by omega, by rw [Nat.add_sub_cancel]; exact (f2.I 18 n (by unfold mSf mGF; omega)).trans e18⟩
          have F2 := f1.tr (mSf.up (n := n) (by omega) f2)
          have pk := p2
          obtain ⟨c0, -, pk, -⟩ := pk
          rw [q, a_bdr] at k0' k1'
          by_cases t0 : v.2.2.2.1 = 0
          · refine m_stE l2 t0 j52 p2 (by omega) (by omega) (by omega) j18 (fun h3 e => absurd e (by omega)) (fun h3 _ f3 g3 => ?_)
            exact k0' h3 (1, v.2.2.2.2.2.1) (by unfold a_sgn; rw [if_neg (by omega), a_bdl]) (F2.tr (mSf.up (by omega) f3)) g3
          · refine m_stB l2.1 j52 (l2.2.2.1.k.2.2.2.2.2.2.2.2.2 t0) ?_
            refine mb_close l2 p2 n16 n15 (by omega) (by omega) (by omega) j18 (fun h3 cc f3 g3 => ⟨f3.s l2.1, Or.inl ⟨rfl, ?_⟩⟩) (fun h3 c41 _ f3 l3 C3 i50 i51 i52 i49 => ⟨l3.1, Or.inr ⟨rfl, ?_⟩⟩)
            · show Q (m1 - z_I h3 0 16, h3)
              rw [g3.2]
              exact k0' h3 (1, v.2.2.2.2.2.1) (by unfold a_sgn; rw [if_neg (fun z => cc ⟨z, by omega⟩), a_bdl]) (F2.tr (mSf.up (by omega) f3)) g3
            · refine k1' h3 (v.1, v.2.1, v.2.2.1, a_ne by8 L lim v.2.2.2) 0 0 0 (by unfold a_sgn; rw [if_pos c41, a_bdr]) ⟨rfl, rfl⟩ (Nat.zero_le _) (F2.tr (mSf.up (by omega) f3)) l3 (mPd.nil C3 i50 ?_) (i49.trans j49) (i52.trans j52)
              rw [i51, pk_sub (by omega)]
              rfl
      · have k0' := fun h' e q => k0 h' e ((a_one_n c17 ho2).trans q)
        have k1' := fun h' v a b k q => k1 h' v a b k ((a_one_n c17 ho2).trans q)
        clear k0 k1
        refine ihd (n + 1) cf c (o + 1) h1 _ Q (by omega) (by omega) (by omega) W l1 (hB.sf f1) (hM.sf f1) C1 e49 e50 e51 (e52.trans h52) (Or.inr ⟨20, by omega, trivial, by rw [Nat.add_sub_cancel]; exact e18⟩) (fun h2 e q f g => ?_) (fun h2 v a b' k q E ha f2 l2 p2 j49 j52 => ?_)
        · exact k0' h2 e (by rw [q, a_bdl]) (f1.tr (mSf.up (by omega) f)) g
        · have j18 : z_I h2 18 n = nI 20 := (f2.I 18 n (by unfold mSf mGF; omega)).trans e18
          exact k1' h2 (a_cpu v.1 v.2.1 20 0 0, v.2.1 + 1, v.2.2.1, v.2.2.2) (k + 1) (k + 1) (k + 1) (by rw [q, a_bdr]) ⟨rfl, rfl⟩ (by have := E.1; omega) (f1.tr (mSf.up (by omega) f2)) l2 ((p2.push j18).2.2 rfl E.1 (9 - (d' + 1)) (by omega)) j49 j52
    · obtain rfl : d' = d := by omega
      exact k1 h1 v 0 0 0 ((a_one_l k17 ho2).trans q) ⟨rfl, rfl⟩ (Nat.zero_le _) f1 l1 (mPd.nil C1 e50 e51) e49 e52
/-- a sentence that the reference keeps -/
def mSe (h : z_T) (cf : Nat → Nat) (c : Nat) : Prop := z_I h 2 176 = nI c ∧ ∀ i, i < 3 * c → z_I h 2 (177 + i) = nI (cf i)
theorem m_keepS {h : z_T} {cf : Nat → Nat} {c o : Nat} {Q : Int32 × z_T → Prop} (s : SM h) (C : mCd h cf c) (hc : c ≤ 44) (e49 : z_I h 0 49 = nI o) (k : ∀ h', m_fr (fun o k => o ≠ 2 ∨ k < 176) h h' → mSe h' cf c → Q (nI o, h')) : p_W (y_lp SLP (nI 0, h)) Q := by
  refine p_unP (fun P hP => ?_)
  show p_W (fX12_sentence_b48_i 0 (nI 0) h) (p_S P Q)
  unfold fX12_sentence_b48_i
  simp (disch := first | assumption | omega) only [p_some, p_gd, p_br, p_bi, p_nm, p_mp, p_Sl, p_Sr, p_bis, p_gdt, q_IL, q_IR, q_LI, q_LR, q_RI, q_RL, q_KI, q_KL, q_KR, q_NI, q_NL, q_NR, q_nI, q_nL, q_nR, q_okI, q_okL, q_okR, q_Ie, q_In, q_Le, q_Ln, SM_I, SM_L, s_c0, s_cg0, s_cl0, s_cge, s_cle, r_le, r_lt, r_eq, r_md, r_2, r_3, r_lit, r_litL, r_m1, nI_add, nI_1, nI_clamp, nI_leI, nI_ltI, nI_eq, pk_sub, q_ix, nI_l, lN_add, lN_mul, r_m1n, r_m1n', r_m1lt, r_m1nlt, r_m1le, r_m1nle, Nat.not_lt_zero, Nat.reduceEqDiff, Nat.reduceLT, Nat.reduceLeDiff, true_and, and_true, true_implies, false_implies, not_true_eq_false, not_false_eq_true, implies_true, and_self, ne_eq, decide_true, decide_false, Bool.not_true, Bool.not_false, if_true, if_false, reduceIte, mk0, mk1, mk2, mk3, mk4, mk5, mk6, mk7, mk8, mk9, mk10, mk11, mk12, mk13, mk14, mk15, mk16, mk17, mk18, mk19, mk20, mk21, mk22, mn1, mn2, mn3, mn4, mn5, mn6, mn7, mn8, mn9, mn10, mn11, mn12, mn13, mn14, mn15, mn16, mn17, mn18, mn19, mn20, mn21, mn22, mr1, mr6, mr7, mr8, mr9, mr10, mr21, mr22, mr23, mr25, mr26, mr29, mr30, mr32, mr33, mr34, mr43, mr47, mr53, mr54, mr55, mr56, C.1]
  unfold fX12_sentence_b146
  refine p_for (3 * c) (fun j w => w.1 = nI j ∧ m_fr (fun o k => o ≠ 2 ∨ k < 176) h w.2 ∧ z_I w.2 2 176 = nI c ∧ ∀ i, i < j → z_I w.2 2 (177 + i) = nI (cf i)) ?_ ?_ 0 (by omega) ⟨rfl, m_fr.rf.sI (by omega), q_Ie rfl rfl, fun i hi => absurd hi (Nat.not_lt_zero _)⟩
  · rintro j ⟨x, h5⟩ hj ⟨e1, f5, g5, c5⟩
    dsimp only at e1 f5 g5 c5
    subst e1
    have s5 := f5.s s
    have k48 := (f5.I 0 48 (by omega)).trans C.1
    have k4 := (f5.I 4 j (by omega)).trans (C.2 j hj)
    unfold fX12_sentence_b146_i
    simp (disch := first | assumption | omega) only [p_some, p_gd, p_br, p_bi, p_nm, p_mp, p_Sl, p_Sr, p_bis, p_gdt, q_IL, q_IR, q_LI, q_LR, q_RI, q_RL, q_KI, q_KL, q_KR, q_NI, q_NL, q_NR, q_nI, q_nL, q_nR, q_okI, q_okL, q_okR, q_Ie, q_In, q_Le, q_Ln, SM_I, SM_L, s_c0, s_cg0, s_cl0, s_cge, s_cle, r_le, r_lt, r_eq, r_md, r_2, r_3, r_lit, r_litL, r_m1, nI_add, nI_1, nI_clamp, nI_leI, nI_ltI, nI_eq, pk_sub, q_ix, nI_l, lN_add, lN_mul, r_m1n, r_m1n', r_m1lt, r_m1nlt, r_m1le, r_m1nle, Nat.not_lt_zero, Nat.reduceEqDiff, Nat.reduceLT, Nat.reduceLeDiff, true_and, and_true, true_implies, false_implies, not_true_eq_false, not_false_eq_true, implies_true, and_self, ne_eq, decide_true, decide_false, Bool.not_true, Bool.not_false, if_true, if_false, reduceIte, mk0, mk1, mk2, mk3, mk4, mk5, mk6, mk7, mk8, mk9, mk10, mk11, mk12, mk13, mk14, mk15, mk16, mk17, mk18, mk19, mk20, mk21, mk22, mn1, mn2, mn3, mn4, mn5, mn6, mn7, mn8, mn9, mn10, mn11, mn12, mn13, mn14, mn15, mn16, mn17, mn18, mn19, mn20, mn21, mn22, mr1, mr6, mr7, mr8, mr9, mr10, mr21, mr22, mr23, mr25, mr26, mr29, mr30, mr32, mr33, mr34, mr43, mr47, mr53, mr54, mr55, mr56, k48, pk_mul, show ¬ 3 * c ≤ j by omega, k4]
    refine ⟨f5.sI (by omega), g5, fun i hi => ?_⟩
    by_cases e : i = j
    · rw [q_Ie rfl (by omega), e]
    · rw [q_In (by omega)]; exact c5 i (by omega)
  · rintro ⟨x, h5⟩ ⟨e1, f5, g5, c5⟩
    dsimp only at e1 f5 g5 c5
    subst e1
    have s5 := f5.s s
    have k48 := (f5.I 0 48 (by omega)).trans C.1
    have k49 := (f5.I 0 49 (by omega)).trans e49
    unfold fX12_sentence_b146_i
    simp (disch := first | assumption | omega) only [p_some, p_gd, p_br, p_bi, p_nm, p_mp, p_Sl, p_Sr, p_bis, p_gdt, q_IL, q_IR, q_LI, q_LR, q_RI, q_RL, q_KI, q_KL, q_KR, q_NI, q_NL, q_NR, q_nI, q_nL, q_nR, q_okI, q_okL, q_okR, q_Ie, q_In, q_Le, q_Ln, SM_I, SM_L, s_c0, s_cg0, s_cl0, s_cge, s_cle, r_le, r_lt, r_eq, r_md, r_2, r_3, r_lit, r_litL, r_m1, nI_add, nI_1, nI_clamp, nI_leI, nI_ltI, nI_eq, pk_sub, q_ix, nI_l, lN_add, lN_mul, r_m1n, r_m1n', r_m1lt, r_m1nlt, r_m1le, r_m1nle, Nat.not_lt_zero, Nat.reduceEqDiff, Nat.reduceLT, Nat.reduceLeDiff, true_and, and_true, true_implies, false_implies, not_true_eq_false, not_false_eq_true, implies_true, and_self, ne_eq, decide_true, decide_false, Bool.not_true, Bool.not_false, if_true, if_false, reduceIte, mk0, mk1, mk2, mk3, mk4, mk5, mk6, mk7, mk8, mk9, mk10, mk11, mk12, mk13, mk14, mk15, mk16, mk17, mk18, mk19, mk20, mk21, mk22, mn1, mn2, mn3, mn4, mn5, mn6, mn7, mn8, mn9, mn10, mn11, mn12, mn13, mn14, mn15, mn16, mn17, mn18, mn19, mn20, mn21, mn22, mr1, mr6, mr7, mr8, mr9, mr10, mr21, mr22, mr23, mr25, mr26, mr29, mr30, mr32, mr33, mr34, mr43, mr47, mr53, mr54, mr55, mr56, k48, pk_mul, Nat.le_refl, k49]
    exact k h5 f5 ⟨g5, c5⟩
theorem mC0.sf {o k : Nat} (c : mC0 o k) : mSf 0 o k := by
  obtain ⟨c1, c2⟩ := c
  unfold mKp at c1
  unfold mSf mGF
  omega
theorem m_sentence {h : z_T} {L n : Nat} {by8 bk ans nm : Nat → Nat} {TB : Nat → Int32} {Q : Int32 × z_T → Prop} (s : SM h) (b : BOK bk) (hN : mNi h bk n ans) (N : NMO bk nm) (hM : mNm h bk nm) (hr : mRs h) (T : mTp h L TB) (hT : ∀ i, i < L → TB i = a_sb (by8 i)) (hb : BY L by8)
    (k0 : ∀ h' e, a_sen by8 L (fun d => nm (8 + d)) (bk 1) = .inl e → m_fr mC0 h h' → z_I h' 0 2 = nI 0 → z_I h' 0 15 = nI e.1 → Q (m1 - nI e.2, h')) (k1 : ∀ h' cf c o, a_sen by8 L (fun d => nm (8 + d)) (bk 1) = .inr (cf, c, o) → m_fr (fun o k => mC0 o k ∧ (o ≠ 2 ∨ k < 176)) h h' → z_I h' 0 2 = nI 0 → z_I h' 0 15 = nI 0 → mSe h' cf c → Q (nI o, h')) : p_W (fX12_sentence 0 h) Q := by
  have hB := hN.1
  have h6 := b.2.1
  unfold fX12_sentence
  simp (disch := first | assumption | omega) only [p_some, p_gd, p_br, p_bi, p_nm, p_mp, p_Sl, p_Sr, p_bis, p_gdt, Nat.not_lt_zero, Nat.reduceEqDiff, Nat.reduceLT, Nat.reduceLeDiff, true_and, and_true, true_implies, false_implies, not_true_eq_false, not_false_eq_true, implies_true, and_self, ne_eq, decide_true, decide_false, Bool.not_true, Bool.not_false, if_true, if_false, reduceIte, mk0 s, r_lit]
  refine m_openL s hr T hT hb (show 200 ≤ 900 by omega) (fun h1 s1 F1 i2 go => ?_)
  simp (disch := first | assumption | omega) only [p_some, p_gd, p_br, p_bi, p_nm, p_mp, p_Sl, p_Sr, p_bis, p_gdt, Nat.not_lt_zero, Nat.reduceEqDiff, Nat.reduceLT, Nat.reduceLeDiff, true_and, and_true, true_implies, false_implies, not_true_eq_false, not_false_eq_true, implies_true, and_self, ne_eq, decide_true, decide_false, Bool.not_true, Bool.not_false, if_true, if_false, reduceIte, mk0 s1, q_okI]
  have f2 : m_fr (fun o k => o ≠ 0 ∨ (k ≠ 15 ∧ (k < 48 ∨ 52 < k))) h1 (z_sI (z_sI (z_sI (z_sI (z_sI (z_sI h1 0 15 (nI 0)) 0 48 (nI 0)) 0 49 (nI 0)) 0 50 (nI 0)) 0 51 (nI 1)) 0 52 (nI 0)) := (((((m_fr.rf.sI (by omega)).sI (by omega)).sI (by omega)).sI (by omega)).sI (by omega)).sI (by omega)
  have i15 : z_I (z_sI (z_sI (z_sI (z_sI (z_sI (z_sI h1 0 15 (nI 0)) 0 48 (nI 0)) 0 49 (nI 0)) 0 50 (nI 0)) 0 51 (nI 1)) 0 52 (nI 0)) 0 15 = nI 0 := by rw [q_In (by omega), q_In (by omega), q_In (by omega), q_In (by omega), q_In (by omega), q_Ie rfl rfl]
  have i48 : z_I (z_sI (z_sI (z_sI (z_sI (z_sI (z_sI h1 0 15 (nI 0)) 0 48 (nI 0)) 0 49 (nI 0)) 0 50 (nI 0)) 0 51 (nI 1)) 0 52 (nI 0)) 0 48 = nI 0 := by rw [q_In (by omega), q_In (by omega), q_In (by omega), q_In (by omega), q_Ie rfl rfl]
  have i49 : z_I (z_sI (z_sI (z_sI (z_sI (z_sI (z_sI h1 0 15 (nI 0)) 0 48 (nI 0)) 0 49 (nI 0)) 0 50 (nI 0)) 0 51 (nI 1)) 0 52 (nI 0)) 0 49 = nI 0 := by rw [q_In (by omega), q_In (by omega), q_In (by omega), q_Ie rfl rfl]
  have i50 : z_I (z_sI (z_sI (z_sI (z_sI (z_sI (z_sI h1 0 15 (nI 0)) 0 48 (nI 0)) 0 49 (nI 0)) 0 50 (nI 0)) 0 51 (nI 1)) 0 52 (nI 0)) 0 50 = nI 0 := by rw [q_In (by omega), q_In (by omega), q_Ie rfl rfl]
  have i51 : z_I (z_sI (z_sI (z_sI (z_sI (z_sI (z_sI h1 0 15 (nI 0)) 0 48 (nI 0)) 0 49 (nI 0)) 0 50 (nI 0)) 0 51 (nI 1)) 0 52 (nI 0)) 0 51 = nI 1 := by rw [q_In (by omega), q_Ie rfl rfl]
  have i52 : z_I (z_sI (z_sI (z_sI (z_sI (z_sI (z_sI h1 0 15 (nI 0)) 0 48 (nI 0)) 0 49 (nI 0)) 0 50 (nI 0)) 0 51 (nI 1)) 0 52 (nI 0)) 0 52 = nI 0 := q_Ie rfl rfl
  generalize z_sI (z_sI (z_sI (z_sI (z_sI (z_sI h1 0 15 (nI 0)) 0 48 (nI 0)) 0 49 (nI 0)) 0 50 (nI 0)) 0 51 (nI 1)) 0 52 (nI 0) = h2 at *
  refine go h2 _ (f2.w (fun o k c => by omega)) i15 (fun h3 f3 l3 => ?_)
  have s3 := l3.1
  have F3 : m_fr mC0 h h3 := (F1.w (fun o k c => ⟨c.1, by have := c.2; omega⟩)).tr ((f2.w (fun o k c => by obtain ⟨c1, c2⟩ := c; unfold mKp at c1; omega)).tr (f3.w (fun o k c => by obtain ⟨c1, c2⟩ := c; unfold mKp at c1; unfold mGo; omega)))
  have j2 : z_I h3 0 2 = nI 0 := (f3.I 0 2 (by unfold mGo; omega)).trans ((f2.I 0 2 (by omega)).trans i2)
  have hB3 : mB h3 bk := fun k hk => (F3.I 2 k (by unfold mC0 mKp; omega)).trans (hB k hk)
  have hM3 : mNm h3 bk nm := ⟨fun k hk => (F3.L 5 k (by have := b.1; unfold mC0 mKp; omega)).trans (hM.1 k hk), fun k hk => (F3.L 5 _ (by have := b.2.1; unfold mC0 mKp; omega)).trans (hM.2 k hk)⟩
  have C3 : mCd h3 (fun _ => 0) 0 := ⟨(f3.I 0 48 (by unfold mGo; omega)).trans i48, fun i hi => absurd hi (by omega)⟩
  have hR := fun cf c o t v W q => a_one_r (ne := a_ne by8 L 200) (f := fun d => nm (8 + d)) h6 8 cf c o t v W q
  have W0 : WFC (bk 1) (fun _ => 0) 0 := ⟨fun i hi => absurd hi (Nat.not_lt_zero _), fun i hi => absurd hi (by omega)⟩
  unfold a_sen at k0 k1
  unfold fX12_sentence_b48
  refine mh_cond (by omega) (mh_one b N 8 (by omega)) hR 0 (fun _ => 0) 0 0 h3 _ Q (by omega) (by omega) (by omega) W0 l3 hB3 hM3 C3 ((f3.I 0 49 (by unfold mGo; omega)).trans i49) ((f3.I 0 50 (by unfold mGo; omega)).trans i50) ((f3.I 0 51 (by unfold mGo; omega)).trans i51) ((f3.I 0 52 (by unfold mGo; omega)).trans i52) (Or.inl rfl) (fun h4 e q f g => ?_) (fun h4 v a b' k q _ ha f4 l4 p4 j49 j52 => ?_)
  · exact k0 h4 e (by rw [q, a_bdl]) (F3.tr (f.w (fun o k c => c.sf))) ((f.I 0 2 (by unfold mSf mGF; omega)).trans j2) g.1
  · obtain ⟨⟨r1, r2, r3, r4, r5, r6, r7⟩, n16, n15⟩ := a_co_r hR _ _ _ _ _ W0 q
    have pk := p4
    obtain ⟨c0, -, pk, -⟩ := pk
    have F4 : m_fr mC0 h h4 := F3.tr (f4.w (fun o k c => c.sf))
    have j24 := (f4.I 0 2 (by unfold mSf mGF; omega)).trans j2
    by_cases t0 : v.2.2.2.1 = 0
    · refine m_stE l4 t0 j52 p4 (by omega) (by omega) (by omega) (Or.inl rfl) (fun h5 _ f5 C5 => ?_) (fun h5 c => absurd rfl c)
      have F5 : m_fr mC0 h h5 := F4.tr (f5.w (fun o k c => by obtain ⟨c1, c2⟩ := c; unfold mKp at c1; unfold mDf; omega))
      have s5 := f5.s l4.1
      refine m_keepS s5 C5 (by omega) ((f5.I 0 49 (by unfold mDf; omega)).trans j49) (fun h6 f6 S6 => ?_)
      exact k1 h6 v.1 v.2.1 v.2.2.1 (by rw [q, a_bdr, if_pos t0]) ((F5.w (fun o k c => c.1)).tr (f6.w (fun o k c => c.2))) ((f6.I 0 2 (by omega)).trans ((f5.I 0 2 (by unfold mDf; omega)).trans j24)) ((f6.I 0 15 (by omega)).trans ((f5.I 0 15 (by unfold mDf; omega)).trans l4.2.2.2.2.2.2.2)) S6
    · refine m_stB l4.1 j52 (l4.2.2.1.k.2.2.2.2.2.2.2.2.2 t0) ?_
      refine mb_close l4 p4 n16 n15 (by omega) (by omega) (by omega) (Or.inl rfl) (fun h5 cc f5 g5 => ⟨f5.s l4.1, Or.inl ⟨rfl, ?_⟩⟩) (fun h5 c41 c => absurd rfl c)
      show Q (m1 - z_I h5 0 16, h5)
      rw [g5.2]
      exact k0 h5 (1, v.2.2.2.2.2.1) (by rw [q, a_bdr, if_neg t0]) (F4.tr (f5.w (fun o k c => c.sf))) ((f5.I 0 2 (by unfold mSf mGF; omega)).trans j24) g5.1
