/-! tree of the reference -/
theorem MT.nil {nf : Nat → Int32} {pos : Nat → Nat} : MT nf (fun _ => 0) pos 0 := by
  refine ⟨fun i hi => absurd hi (Nat.not_lt_zero _), fun i j hi => absurd hi (Nat.not_lt_zero _), fun g => ?_, fun i hi => absurd hi (Nat.not_lt_zero _), fun i hi => absurd hi (Nat.not_lt_zero _), fun i j b hi => absurd hi (Nat.not_lt_zero _), fun h => absurd h (Nat.lt_irrefl _)⟩
  rw [sumN_zero (fun i _ => if_pos rfl)]
  rfl
theorem MT.cg {nf nf' : Nat → Int32} {nd pos : Nat → Nat} {m : Nat} (M : MT nf nd pos m) (h : ∀ k, k < 4 * m → nf' k = nf k) : MT nf' nd pos m := by
  obtain ⟨M1, M2, M3, M4, M5, M6, M7⟩ := M
  refine ⟨M1, M2, M3, fun i hi => (h _ (by omega)).trans (M4 i hi), fun j hj => ?_, fun i j b hi hj hb e => (h _ (by omega)).trans (M6 i j b hi hj hb e), M7⟩
  rcases M5 j hj with q | ⟨q1, i, hi, q2, q3⟩
  · exact Or.inl ⟨q.1, (h _ (by omega)).trans q.2⟩
  · exact Or.inr ⟨q1, i, hi, q2, (h _ (by omega)).trans q3⟩
theorem m_readTree {by8 : Nat → Nat} {L : Nat} {h : z_T} {bk nm : Nat → Nat} {pos op : Nat → Nat} {Q : Int32 × z_T → Prop} (b : BOK bk) (N : NMO bk nm) (l : mL by8 L 400 h (a_lex by8 L 400 0)) (hB : mB h bk) (hM : mNm h bk nm) (S : mTS h (fun _ => 0) pos op 0 0 0)
    (k0 : ∀ h' e, a_tree by8 L nm (bk 0) = .inl e → m_fr (mTf 0) h h' → mF h' e → Q (nI 0, h')) (k1 : ∀ h' nd cnt pos' m', a_tree by8 L nm (bk 0) = .inr (nd, cnt) → m_fr (mTf 0) h h' → z_I h' 0 15 = nI 0 → mTS h' nd pos' op m' 0 cnt → 0 < m' → Q (nI 1, h')) : p_W (fX12_readTree 0 h) Q := by
  unfold a_tree at k0 k1
  unfold fX12_readTree fX12_readTree_b2
  refine m_trd b N 5 4 (by omega) 0 (by omega) 1 0 (fun _ => 0) 0 h _ pos op 0 Q l hB hM S (Or.inl ⟨rfl, rfl, rfl⟩) (by omega) (by decide) rfl (fun j hj => absurd hj (Nat.not_lt_zero _)) (fun k hk => ⟨fun q => absurd q (by rw [Nat.zero_testBit]; decide), fun ⟨j, hj, _⟩ => absurd hj (Nat.not_lt_zero _)⟩) (fun h1 e q f g => k0 h1 e (by rw [q, a_bdl]) f g) (fun h1 w pos1 m1' q f l1 S1 hm ext => ?_)
  have s1 := l1.1
  obtain ⟨Qi, hQi⟩ : ∃ Qi, Qi = p_S (fun s' => p_W (y_lp OUT s') Q) Q := ⟨_, rfl⟩
  rw [← hQi]
  have hl : ∀ v, p_W (y_lp OUT v) Q → Qi (.inl v) := fun v q => by rw [hQi]; exact q
  refine p_unP (fun P hP => ?_)
  show p_W (fX12_readTree_b61_i 0 (nI 0) h1) (p_S P Qi)
  unfold fX12_readTree_b61_i
  simp (disch := first | assumption | omega) only [p_some, p_gd, p_br, p_bi, p_nm, p_mp, p_Sl, p_Sr, p_bis, p_gdt, q_IL, q_IR, q_LI, q_LR, q_RI, q_RL, q_KI, q_KL, q_KR, q_NI, q_NL, q_NR, q_nI, q_nL, q_nR, q_okI, q_okL, q_okR, q_Ie, q_In, q_Le, q_Ln, SM_I, SM_L, s_c0, s_cg0, s_cl0, s_cge, s_cle, r_le, r_lt, r_eq, r_md, r_2, r_3, r_lit, r_litL, r_m1, nI_add, nI_1, nI_clamp, nI_leI, nI_ltI, nI_eq, pk_sub, q_ix, nI_l, lN_add, lN_mul, r_m1n, r_m1n', r_m1lt, r_m1nlt, r_m1le, r_m1nle, Nat.not_lt_zero, Nat.reduceEqDiff, Nat.reduceLT, Nat.reduceLeDiff, true_and, and_true, true_implies, false_implies, not_true_eq_false, not_false_eq_true, implies_true, and_self, ne_eq, decide_true, decide_false, Bool.not_true, Bool.not_false, if_true, if_false, reduceIte, mk0, mk1, mk2, mk3, mk4, mk5, mk6, mk7, mk8, mk9, mk10, mk11, mk12, mk13, mk14, mk15, mk16, mk17, mk18, mk19, mk20, mk21, mk22, mn1, mn2, mn3, mn4, mn5, mn6, mn7, mn8, mn9, mn10, mn11, mn12, mn13, mn14, mn15, mn16, mn17, mn18, mn19, mn20, mn21, mn22, mr1, mr6, mr7, mr8, mr9, mr10, mr21, mr22, mr23, mr25, mr26, mr29, mr30, mr32, mr33, mr34, mr43, mr47, mr53, mr54, mr55, mr56, S1.2.1, Nat.le_refl]
  refine hl _ ?_
  refine p_unP (fun P2 hP2 => ?_)
  show p_W (fX12_readTree_b2_i 0 (nI 0) h1) (p_S P2 Q)
  have tk := l1.2.2.1.k
  unfold fX12_readTree_b2_i fX12_readTree_b169
  by_cases c : w.2.2.1 = 0
  · have g := tk.2.2.2.2.2.2.2.2.1 c
    simp (disch := first | assumption | omega) only [p_some, p_gd, p_br, p_bi, p_nm, p_mp, p_Sl, p_Sr, p_bis, p_gdt, q_IL, q_IR, q_LI, q_LR, q_RI, q_RL, q_KI, q_KL, q_KR, q_NI, q_NL, q_NR, q_nI, q_nL, q_nR, q_okI, q_okL, q_okR, q_Ie, q_In, q_Le, q_Ln, SM_I, SM_L, s_c0, s_cg0, s_cl0, s_cge, s_cle, r_le, r_lt, r_eq, r_md, r_2, r_3, r_lit, r_litL, r_m1, nI_add, nI_1, nI_clamp, nI_leI, nI_ltI, nI_eq, pk_sub, q_ix, nI_l, lN_add, lN_mul, r_m1n, r_m1n', r_m1lt, r_m1nlt, r_m1le, r_m1nle, Nat.not_lt_zero, Nat.reduceEqDiff, Nat.reduceLT, Nat.reduceLeDiff, true_and, and_true, true_implies, false_implies, not_true_eq_false, not_false_eq_true, implies_true, and_self, ne_eq, decide_true, decide_false, Bool.not_true, Bool.not_false, if_true, if_false, reduceIte, mk0, mk1, mk2, mk3, mk4, mk5, mk6, mk7, mk8, mk9, mk10, mk11, mk12, mk13, mk14, mk15, mk16, mk17, mk18, mk19, mk20, mk21, mk22, mn1, mn2, mn3, mn4, mn5, mn6, mn7, mn8, mn9, mn10, mn11, mn12, mn13, mn14, mn15, mn16, mn17, mn18, mn19, mn20, mn21, mn22, mr1, mr6, mr7, mr8, mr9, mr10, mr21, mr22, mr23, mr25, mr26, mr29, mr30, mr32, mr33, mr34, mr43, mr47, mr53, mr54, mr55, mr56, g]
    exact k1 h1 w.1 w.2.1 pos1 m1' (by rw [q, a_bdr, if_pos c]) f l1.2.2.2.2.2.2.2 S1 hm
  · have g := tk.2.2.2.2.2.2.2.2.2 c
    simp (disch := first | assumption | omega) only [p_some, p_gd, p_br, p_bi, p_nm, p_mp, p_Sl, p_Sr, p_bis, p_gdt, q_IL, q_IR, q_LI, q_LR, q_RI, q_RL, q_KI, q_KL, q_KR, q_NI, q_NL, q_NR, q_nI, q_nL, q_nR, q_okI, q_okL, q_okR, q_Ie, q_In, q_Le, q_Ln, SM_I, SM_L, s_c0, s_cg0, s_cl0, s_cge, s_cle, r_le, r_lt, r_eq, r_md, r_2, r_3, r_lit, r_litL, r_m1, nI_add, nI_1, nI_clamp, nI_leI, nI_ltI, nI_eq, pk_sub, q_ix, nI_l, lN_add, lN_mul, r_m1n, r_m1n', r_m1lt, r_m1nlt, r_m1le, r_m1nle, Nat.not_lt_zero, Nat.reduceEqDiff, Nat.reduceLT, Nat.reduceLeDiff, true_and, and_true, true_implies, false_implies, not_true_eq_false, not_false_eq_true, implies_true, and_self, ne_eq, decide_true, decide_false, Bool.not_true, Bool.not_false, if_true, if_false, reduceIte, mk0, mk1, mk2, mk3, mk4, mk5, mk6, mk7, mk8, mk9, mk10, mk11, mk12, mk13, mk14, mk15, mk16, mk17, mk18, mk19, mk20, mk21, mk22, mn1, mn2, mn3, mn4, mn5, mn6, mn7, mn8, mn9, mn10, mn11, mn12, mn13, mn14, mn15, mn16, mn17, mn18, mn19, mn20, mn21, mn22, mr1, mr6, mr7, mr8, mr9, mr10, mr21, mr22, mr23, mr25, mr26, mr29, mr30, mr32, mr33, mr34, mr43, mr47, mr53, mr54, mr55, mr56, g]
    refine m_bad (F := 1) l1 (fun h2 f2 g2 => ?_)
    simp (disch := first | assumption | omega) only [p_some, p_gd, p_br, p_bi, p_nm, p_mp, p_Sl, p_Sr, p_bis, p_gdt, Nat.not_lt_zero, Nat.reduceEqDiff, Nat.reduceLT, Nat.reduceLeDiff, true_and, and_true, true_implies, false_implies, not_true_eq_false, not_false_eq_true, implies_true, and_self, ne_eq, decide_true, decide_false, Bool.not_true, Bool.not_false, if_true, if_false, reduceIte]
    exact k0 h2 _ (by rw [q, a_bdr, if_neg c]) (f.tr (mTf.gf f2)) g2
