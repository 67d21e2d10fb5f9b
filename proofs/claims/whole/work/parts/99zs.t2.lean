/-! the class reads a line of a book: tests, dreams, what is told once -/
def xSg (by8 : Nat → Nat) (L lim bo : Nat) (h' : z_T) (w : a_BS) : Prop := xL by8 L lim h' w.2 ∧ xBr h' bo w.1.1 w.1.2.1 w.1.2.2
theorem s_10 : (nI 1 = nI 0) = False := by decide
theorem x_lnT {by8 : Nat → Nat} {L lim bo : Nat} {h : z_T} {t : Nat × Nat × Nat × Nat} {bk nm : Nat → Nat} {told : Nat} {Q : Int32 × z_T → Prop} (l : xL by8 L lim h t) (B : BKS bk nm told) (hb : 83 ≤ bo) (R : xBr h bo bk nm told) (h2 : 2 ≤ t.1)
    (k0 : ∀ h' e, a_lnT (a_ne by8 L lim) bk nm told t = .inl e → x_fr (xBf bo) h h' → xF h' e → Q (nI 0, h')) (k1 : ∀ h' w, a_lnT (a_ne by8 L lim) bk nm told t = .inr w → x_fr (xBf bo) h h' → xSg by8 L lim bo h' w → Q (nI 1, h')) : p_W (fX0_readTest bo 13 h) Q := by
  obtain ⟨b, N, ht⟩ := B
  have s := l.1
  have h8 := b.1
  have h6 := b.2.1
  have hB0 := R.1.2.1
  unfold a_lnT at k0 k1
  unfold fX0_readTest fX0_readTest_b15
  simp (disch := first | assumption | omega) only [p_some, p_gd, p_br, p_bi, p_nm, p_mp, p_Sl, p_Sr, p_bis, p_gdt, Nat.not_lt_zero, Nat.reduceEqDiff, Nat.reduceLT, Nat.reduceLeDiff, true_and, and_true, true_implies, false_implies, not_true_eq_false, not_false_eq_true, implies_true, and_self, ne_eq, decide_true, decide_false, Bool.not_true, Bool.not_false, if_true, if_false, reduceIte, xb_0 R.1.1, hB0, r_lit, nI_ltI, Nat.not_lt_zero]
  refine ⟨fun c => ?_, fun c => ?_⟩
  rotate_left
  · rw [if_pos (by omega)] at k0
    refine ⟨xk13 s, ?_⟩
    refine x_fail l (fun h1 f1 g1 => ?_)
    simp (disch := first | assumption | omega) only [p_some, p_gd, p_br, p_bi, p_nm, p_mp, p_Sl, p_Sr, p_bis, p_gdt, Nat.not_lt_zero, Nat.reduceEqDiff, Nat.reduceLT, Nat.reduceLeDiff, true_and, and_true, true_implies, false_implies, not_true_eq_false, not_false_eq_true, implies_true, and_self, ne_eq, decide_true, decide_false, Bool.not_true, Bool.not_false, if_true, if_false, reduceIte, s_yb0]
    exact k0 h1 _ rfl (xBf.gf f1) g1
  · rw [if_neg (by omega)] at k0 k1
    simp (disch := first | assumption | omega) only [p_some, p_gd, p_br, p_bi, p_nm, p_mp, p_Sl, p_Sr, p_bis, p_gdt, Nat.not_lt_zero, Nat.reduceEqDiff, Nat.reduceLT, Nat.reduceLeDiff, true_and, and_true, true_implies, false_implies, not_true_eq_false, not_false_eq_true, implies_true, and_self, ne_eq, decide_true, decide_false, Bool.not_true, Bool.not_false, if_true, if_false, reduceIte, xk13 s]
    refine x_advL l h2 (fun h1 f1 l1 => ?_)
    have s1 := l1.1
    have R1 := R.gf hb (xGF.go f1)
    have F1 := xBf.gf (bo := bo) (xGF.go f1)
    simp (disch := first | assumption | omega) only [p_some, p_gd, p_br, p_bi, p_nm, p_mp, p_Sl, p_Sr, p_bis, p_gdt, Nat.not_lt_zero, Nat.reduceEqDiff, Nat.reduceLT, Nat.reduceLeDiff, true_and, and_true, true_implies, false_implies, not_true_eq_false, not_false_eq_true, implies_true, and_self, ne_eq, decide_true, decide_false, Bool.not_true, Bool.not_false, if_true, if_false, reduceIte, xk13 s1, xb_0 R1.1.1]
    refine x_takeNewName l1 b N R1 (fun h2 e q f g => ?_) (fun h2 q q2 f l2 => ?_)
    · simp (disch := first | assumption | omega) only [p_some, p_gd, p_br, p_bi, p_nm, p_mp, p_Sl, p_Sr, p_bis, p_gdt, Nat.not_lt_zero, Nat.reduceEqDiff, Nat.reduceLT, Nat.reduceLeDiff, true_and, and_true, true_implies, false_implies, not_true_eq_false, not_false_eq_true, implies_true, and_self, ne_eq, decide_true, decide_false, Bool.not_true, Bool.not_false, if_true, if_false, reduceIte]
      exact k0 h2 e (by rw [q, a_bdl]) (F1.tr (xBf.gf f)) g
    · have s2 := l2.1
      have R2 := R1.gf hb f
      have F2 := F1.tr (xBf.gf f)
      have g6 := (l1.2.2.1.k.2.2.1 q2).1
      simp (disch := first | assumption | omega) only [p_some, p_gd, p_br, p_bi, p_nm, p_mp, p_Sl, p_Sr, p_bis, p_gdt, Nat.not_lt_zero, Nat.reduceEqDiff, Nat.reduceLT, Nat.reduceLeDiff, true_and, and_true, true_implies, false_implies, not_true_eq_false, not_false_eq_true, implies_true, and_self, ne_eq, decide_true, decide_false, Bool.not_true, Bool.not_false, if_true, if_false, reduceIte, s_10, xk13 s2, g6]
      rw [q, a_bdr] at k0 k1
      refine x_takeNumberB (lo := 0) (hi := 9) l2 (by omega) (by omega) (fun h3 e q f g => ?_) (fun h3 q r9 f3 l3 => ?_)
      · simp (disch := first | assumption | omega) only [p_some, p_gd, p_br, p_bi, p_nm, p_mp, p_Sl, p_Sr, p_bis, p_gdt, Nat.not_lt_zero, Nat.reduceEqDiff, Nat.reduceLT, Nat.reduceLeDiff, true_and, and_true, true_implies, false_implies, not_true_eq_false, not_false_eq_true, implies_true, and_self, ne_eq, decide_true, decide_false, Bool.not_true, Bool.not_false, if_true, if_false, reduceIte, r_m1]
        exact k0 h3 e (by rw [q, a_bdl]) (F2.tr (xBf.gf f)) g
      · have s3 := l3.1
        have R3 := R2.gf hb f3
        have F3 := F2.tr (xBf.gf f3)
        rw [q, a_bdr] at k0 k1
        generalize (a_ne by8 L lim (a_ne by8 L lim t)).2.1 = r at *
        simp (disch := first | assumption | omega) only [p_some, p_gd, p_br, p_bi, p_nm, p_mp, p_Sl, p_Sr, p_bis, p_gdt, Nat.not_lt_zero, Nat.reduceEqDiff, Nat.reduceLT, Nat.reduceLeDiff, true_and, and_true, true_implies, false_implies, not_true_eq_false, not_false_eq_true, implies_true, and_self, ne_eq, decide_true, decide_false, Bool.not_true, Bool.not_false, if_true, if_false, reduceIte, r_m1, r_m1n, xk13 s3]
        refine x_takeNumberB (lo := 0) (hi := 9) l3 (by omega) (by omega) (fun h4 e q f g => ?_) (fun h4 q d9 f4 l4 => ?_)
        · simp (disch := first | assumption | omega) only [p_some, p_gd, p_br, p_bi, p_nm, p_mp, p_Sl, p_Sr, p_bis, p_gdt, Nat.not_lt_zero, Nat.reduceEqDiff, Nat.reduceLT, Nat.reduceLeDiff, true_and, and_true, true_implies, false_implies, not_true_eq_false, not_false_eq_true, implies_true, and_self, ne_eq, decide_true, decide_false, Bool.not_true, Bool.not_false, if_true, if_false, reduceIte, r_m1]
          exact k0 h4 e (by rw [q, a_bdl]) (F3.tr (xBf.gf f)) g
        · have s4 := l4.1
          obtain ⟨⟨B4, v0, v1, v2, v3, v4, v5, v6⟩, N4, e3⟩ := R3.gf hb f4
          have F4 := F3.tr (xBf.gf f4)
          rw [q, a_bdr] at k1
          generalize (a_ne by8 L lim (a_ne by8 L lim (a_ne by8 L lim t))).2.1 = d at *
          simp (disch := first | assumption | omega) only [p_some, p_gd, p_br, p_bi, p_nm, p_mp, p_Sl, p_Sr, p_bis, p_gdt, q_IL, q_IR, q_LI, q_LR, q_RI, q_RL, q_KI, q_KL, q_KR, q_NI, q_NL, q_NR, q_nI, q_nL, q_nR, q_okI, q_okL, q_okR, q_Ie, q_In, q_Le, q_Ln, SM_I, SM_L, s_c0, s_cg0, s_cl0, s_cge, s_cle, r_le, r_lt, r_eq, r_md, r_2, r_3, r_lit, r_litL, r_m1, nI_add, nI_1, nI_clamp, nI_leI, nI_ltI, nI_eq, pk_sub, q_ix, nI_l, lN_add, lN_mul, r_m1n, r_m1n', r_m1lt, r_m1nlt, r_m1le, r_m1nle, Nat.not_lt_zero, Nat.reduceEqDiff, Nat.reduceLT, Nat.reduceLeDiff, true_and, and_true, true_implies, false_implies, not_true_eq_false, not_false_eq_true, implies_true, and_self, ne_eq, decide_true, decide_false, Bool.not_true, Bool.not_false, if_true, if_false, reduceIte, xb_0, xb_1, xb_2, xb_3, xb_4, xb_5, xb_6, xb_7, xb_8, xb_9, xb_10, xb_11, xb_12, xb_13, xb_14, xb_15, xb_16, xb_17, xb_18, xb_19, xb_20, xb_21, xo_0, xo_1, xo_2, xo_3, xo_4, xo_5, xo_6, xo_7, xo_8, xo_9, r_m1, r_m1n, v0]
          refine k1 _ _ rfl ((((F4.sL (fun _ => by unfold xBf; omega)).sI (fun _ => by unfold xBf; omega)).sI (fun _ => by unfold xBf; omega)).sI (fun _ => by unfold xBf; omega)) ⟨l4.fr (C := fun o k => o < 83) ((((x_fr.rf.sL (fun _ => by omega)).sI (fun _ => by omega)).sI (fun _ => by omega)).sI (fun _ => by omega)) (fun o k c => by unfold xKt at c; omega), ⟨B4, ?_, ?_, fun i hi => ?_, fun i hi => ?_, fun i hi => ?_, fun i hi => ?_, fun i hi => ?_⟩, ⟨fun i hi => ?_, fun i hi => ?_⟩, ?_⟩
          · dsimp only
            rw [q_Ie rfl rfl, a_ud_e]
          · dsimp only
            rw [q_In (by omega), q_In (by omega), q_In (by omega), a_ud_n (by omega), a_ud_n (by omega), a_ud_n (by omega)]
            exact v1
          · dsimp only
            rw [q_In (by omega), q_In (by omega), q_In (by omega), a_ud_n (by omega), a_ud_n (by omega), a_ud_n (by omega)]
            exact v2 i hi
          · dsimp only
            rw [q_In (by omega), q_In (by omega), a_ud_n (by omega), a_ud_n (by omega)]
            by_cases e : i = bk 0
            · subst e
              rw [q_Ie rfl rfl, a_ud_e]
            · rw [q_In (by omega), a_ud_n (by omega)]
              exact v3 i hi
          · dsimp only
            rw [q_In (by omega), a_ud_n (by omega)]
            by_cases e : i = bk 0
            · subst e
              rw [q_Ie rfl rfl, a_ud_e]
            · rw [q_In (by omega), q_In (by omega), a_ud_n (by omega), a_ud_n (by omega)]
              exact v4 i hi
          · dsimp only
            rw [q_In (by omega), q_In (by omega), q_In (by omega), a_ud_n (by omega), a_ud_n (by omega), a_ud_n (by omega)]
            exact v5 i hi
          · dsimp only
            rw [q_In (by omega), q_In (by omega), q_In (by omega), a_ud_n (by omega), a_ud_n (by omega), a_ud_n (by omega)]
            exact v6 i hi
          · dsimp only at hi ⊢
            rw [a_ud_e] at hi
            show z_L (z_sL h4 (bo + 2) (bk 0) _) (bo + 2) i = _
            by_cases e : i = bk 0
            · subst e
              rw [q_Le rfl rfl, a_ud_e]
            · rw [q_Ln (by omega), a_ud_n e]
              exact N4.1 i (by omega)
          · dsimp only at hi ⊢
            rw [a_ud_n (by omega), a_ud_n (by omega), a_ud_n (by omega)] at hi
            show z_L (z_sL h4 (bo + 2) (bk 0) _) (bo + 5) i = _
            rw [q_Ln (by omega), a_ud_n (by omega)]
            exact N4.2 i hi
          · dsimp only
            rw [q_In (by omega), q_In (by omega), q_In (by omega)]
            exact e3
theorem x_lnD {by8 : Nat → Nat} {L lim bo : Nat} {h : z_T} {t : Nat × Nat × Nat × Nat} {bk nm : Nat → Nat} {told : Nat} {Q : Int32 × z_T → Prop} (l : xL by8 L lim h t) (B : BKS bk nm told) (hb : 83 ≤ bo) (R : xBr h bo bk nm told) (h2 : 2 ≤ t.1)
    (k0 : ∀ h' e, a_lnD (a_ne by8 L lim) bk nm told t = .inl e → x_fr (xBf bo) h h' → xF h' e → Q (nI 0, h')) (k1 : ∀ h' w, a_lnD (a_ne by8 L lim) bk nm told t = .inr w → x_fr (xBf bo) h h' → xSg by8 L lim bo h' w → Q (nI 1, h')) : p_W (fX0_readDream bo 13 h) Q := by
  obtain ⟨b, N, ht⟩ := B
  have s := l.1
  have h8 := b.1
  have h6 := b.2.1
  have hB1 := R.1.2.2.1
  unfold a_lnD at k0 k1
  unfold fX0_readDream fX0_readDream_b15
  simp (disch := first | assumption | omega) only [p_some, p_gd, p_br, p_bi, p_nm, p_mp, p_Sl, p_Sr, p_bis, p_gdt, Nat.not_lt_zero, Nat.reduceEqDiff, Nat.reduceLT, Nat.reduceLeDiff, true_and, and_true, true_implies, false_implies, not_true_eq_false, not_false_eq_true, implies_true, and_self, ne_eq, decide_true, decide_false, Bool.not_true, Bool.not_false, if_true, if_false, reduceIte, xb_0 R.1.1, hB1, r_lit, nI_ltI, Nat.not_lt_zero]
  refine ⟨fun c => ?_, fun c => ?_⟩
  rotate_left
  · rw [if_pos (by omega)] at k0
    refine ⟨xk13 s, ?_⟩
    refine x_fail l (fun h1 f1 g1 => ?_)
    simp (disch := first | assumption | omega) only [p_some, p_gd, p_br, p_bi, p_nm, p_mp, p_Sl, p_Sr, p_bis, p_gdt, Nat.not_lt_zero, Nat.reduceEqDiff, Nat.reduceLT, Nat.reduceLeDiff, true_and, and_true, true_implies, false_implies, not_true_eq_false, not_false_eq_true, implies_true, and_self, ne_eq, decide_true, decide_false, Bool.not_true, Bool.not_false, if_true, if_false, reduceIte, s_yb0]
    exact k0 h1 _ rfl (xBf.gf f1) g1
  · rw [if_neg (by omega)] at k0 k1
    simp (disch := first | assumption | omega) only [p_some, p_gd, p_br, p_bi, p_nm, p_mp, p_Sl, p_Sr, p_bis, p_gdt, Nat.not_lt_zero, Nat.reduceEqDiff, Nat.reduceLT, Nat.reduceLeDiff, true_and, and_true, true_implies, false_implies, not_true_eq_false, not_false_eq_true, implies_true, and_self, ne_eq, decide_true, decide_false, Bool.not_true, Bool.not_false, if_true, if_false, reduceIte, xk13 s]
    refine x_advL l h2 (fun h1 f1 l1 => ?_)
    have s1 := l1.1
    have R1 := R.gf hb (xGF.go f1)
    have F1 := xBf.gf (bo := bo) (xGF.go f1)
    simp (disch := first | assumption | omega) only [p_some, p_gd, p_br, p_bi, p_nm, p_mp, p_Sl, p_Sr, p_bis, p_gdt, Nat.not_lt_zero, Nat.reduceEqDiff, Nat.reduceLT, Nat.reduceLeDiff, true_and, and_true, true_implies, false_implies, not_true_eq_false, not_false_eq_true, implies_true, and_self, ne_eq, decide_true, decide_false, Bool.not_true, Bool.not_false, if_true, if_false, reduceIte, xk13 s1, xb_0 R1.1.1]
    refine x_takeNewName l1 b N R1 (fun h2 e q f g => ?_) (fun h2 q q2 f l2 => ?_)
    · simp (disch := first | assumption | omega) only [p_some, p_gd, p_br, p_bi, p_nm, p_mp, p_Sl, p_Sr, p_bis, p_gdt, Nat.not_lt_zero, Nat.reduceEqDiff, Nat.reduceLT, Nat.reduceLeDiff, true_and, and_true, true_implies, false_implies, not_true_eq_false, not_false_eq_true, implies_true, and_self, ne_eq, decide_true, decide_false, Bool.not_true, Bool.not_false, if_true, if_false, reduceIte]
      exact k0 h2 e (by rw [q, a_bdl]) (F1.tr (xBf.gf f)) g
    · have s2 := l2.1
      have R2 := R1.gf hb f
      have F2 := F1.tr (xBf.gf f)
      have g6 := (l1.2.2.1.k.2.2.1 q2).1
      simp (disch := first | assumption | omega) only [p_some, p_gd, p_br, p_bi, p_nm, p_mp, p_Sl, p_Sr, p_bis, p_gdt, Nat.not_lt_zero, Nat.reduceEqDiff, Nat.reduceLT, Nat.reduceLeDiff, true_and, and_true, true_implies, false_implies, not_true_eq_false, not_false_eq_true, implies_true, and_self, ne_eq, decide_true, decide_false, Bool.not_true, Bool.not_false, if_true, if_false, reduceIte, s_10, xk13 s2, g6]
      rw [q, a_bdr] at k0 k1
      refine x_takeNumberB (lo := 1) (hi := 20) l2 (by omega) (by omega) (fun h3 e q f g => ?_) (fun h3 q r9 f3 l3 => ?_)
      · simp (disch := first | assumption | omega) only [p_some, p_gd, p_br, p_bi, p_nm, p_mp, p_Sl, p_Sr, p_bis, p_gdt, Nat.not_lt_zero, Nat.reduceEqDiff, Nat.reduceLT, Nat.reduceLeDiff, true_and, and_true, true_implies, false_implies, not_true_eq_false, not_false_eq_true, implies_true, and_self, ne_eq, decide_true, decide_false, Bool.not_true, Bool.not_false, if_true, if_false, reduceIte, r_m1]
        exact k0 h3 e (by rw [q, a_bdl]) (F2.tr (xBf.gf f)) g
      · have s3 := l3.1
        have R3 := R2.gf hb f3
        have F3 := F2.tr (xBf.gf f3)
        rw [q, a_bdr] at k0 k1
        generalize (a_ne by8 L lim (a_ne by8 L lim t)).2.1 = r at *
        simp (disch := first | assumption | omega) only [p_some, p_gd, p_br, p_bi, p_nm, p_mp, p_Sl, p_Sr, p_bis, p_gdt, Nat.not_lt_zero, Nat.reduceEqDiff, Nat.reduceLT, Nat.reduceLeDiff, true_and, and_true, true_implies, false_implies, not_true_eq_false, not_false_eq_true, implies_true, and_self, ne_eq, decide_true, decide_false, Bool.not_true, Bool.not_false, if_true, if_false, reduceIte, r_m1, r_m1n, xk13 s3, xb_0 R3.1.1]
        unfold fX0_readKept fX0_readKept_b4
        refine x_keptLoop b N hb 9 0 0 h3 _ (Nat.two_pow_pos _) (by decide) (by omega) l3 R3 (fun h4 e q f g => ?_) (fun h4 w q f4 l4 => ?_)
        · simp (disch := first | assumption | omega) only [p_some, p_gd, p_br, p_bi, p_nm, p_mp, p_Sl, p_Sr, p_bis, p_gdt, Nat.not_lt_zero, Nat.reduceEqDiff, Nat.reduceLT, Nat.reduceLeDiff, true_and, and_true, true_implies, false_implies, not_true_eq_false, not_false_eq_true, implies_true, and_self, ne_eq, decide_true, decide_false, Bool.not_true, Bool.not_false, if_true, if_false, reduceIte, r_m1]
          exact k0 h4 e (by rw [q, a_bdl]) (F3.tr (xBf.gf f)) g
        · have s4 := l4.1
          have w256 : w.1 < 2 ^ 8 := Nat.lt_of_lt_of_le (a_kept_i 9 0 _ w (Nat.two_pow_pos _) q) (Nat.pow_le_pow_right (by decide) h8)
          obtain ⟨⟨B4, v0, v1, v2, v3, v4, v5, v6⟩, N4, e3⟩ := R3.gf hb f4
          have F4 := F3.tr (xBf.gf f4)
          rw [q, a_bdr] at k1
          obtain ⟨set, t4⟩ := w
          dsimp only at w256 l4
          simp (disch := first | assumption | omega) only [p_some, p_gd, p_br, p_bi, p_nm, p_mp, p_Sl, p_Sr, p_bis, p_gdt, q_IL, q_IR, q_LI, q_LR, q_RI, q_RL, q_KI, q_KL, q_KR, q_NI, q_NL, q_NR, q_nI, q_nL, q_nR, q_okI, q_okL, q_okR, q_Ie, q_In, q_Le, q_Ln, SM_I, SM_L, s_c0, s_cg0, s_cl0, s_cge, s_cle, r_le, r_lt, r_eq, r_md, r_2, r_3, r_lit, r_litL, r_m1, nI_add, nI_1, nI_clamp, nI_leI, nI_ltI, nI_eq, pk_sub, q_ix, nI_l, lN_add, lN_mul, r_m1n, r_m1n', r_m1lt, r_m1nlt, r_m1le, r_m1nle, Nat.not_lt_zero, Nat.reduceEqDiff, Nat.reduceLT, Nat.reduceLeDiff, true_and, and_true, true_implies, false_implies, not_true_eq_false, not_false_eq_true, implies_true, and_self, ne_eq, decide_true, decide_false, Bool.not_true, Bool.not_false, if_true, if_false, reduceIte, xb_0, xb_1, xb_2, xb_3, xb_4, xb_5, xb_6, xb_7, xb_8, xb_9, xb_10, xb_11, xb_12, xb_13, xb_14, xb_15, xb_16, xb_17, xb_18, xb_19, xb_20, xb_21, xo_0, xo_1, xo_2, xo_3, xo_4, xo_5, xo_6, xo_7, xo_8, xo_9, r_m1, r_m1n, v1]
          refine k1 _ _ rfl ((((F4.sL (fun _ => by unfold xBf; omega)).sI (fun _ => by unfold xBf; omega)).sI (fun _ => by unfold xBf; omega)).sI (fun _ => by unfold xBf; omega)) ⟨l4.fr (C := fun o k => o < 83) ((((x_fr.rf.sL (fun _ => by omega)).sI (fun _ => by omega)).sI (fun _ => by omega)).sI (fun _ => by omega)) (fun o k c => by unfold xKt at c; omega), ⟨B4, ?_, ?_, fun i hi => ?_, fun i hi => ?_, fun i hi => ?_, fun i hi => ?_, fun i hi => ?_⟩, ⟨fun i hi => ?_, fun i hi => ?_⟩, ?_⟩
          · dsimp only
            rw [q_In (by omega), q_In (by omega), q_In (by omega), a_ud_n (by omega), a_ud_n (by omega), a_ud_n (by omega)]
            exact v0
          · dsimp only
            rw [q_Ie rfl rfl, a_ud_e]
          · dsimp only
            rw [q_In (by omega), q_In (by omega), q_In (by omega), a_ud_n (by omega), a_ud_n (by omega), a_ud_n (by omega)]
            exact v2 i hi
          · dsimp only
            rw [q_In (by omega), q_In (by omega), q_In (by omega), a_ud_n (by omega), a_ud_n (by omega), a_ud_n (by omega)]
            exact v3 i hi
          · dsimp only
            rw [q_In (by omega), q_In (by omega), q_In (by omega), a_ud_n (by omega), a_ud_n (by omega), a_ud_n (by omega)]
            exact v4 i hi
          · dsimp only
            rw [q_In (by omega), q_In (by omega), a_ud_n (by omega), a_ud_n (by omega)]
            by_cases e : i = bk 1
            · subst e
              rw [q_Ie rfl rfl, a_ud_e]
            · rw [q_In (by omega), a_ud_n (by omega)]
              exact v5 i hi
          · dsimp only
            rw [q_In (by omega), a_ud_n (by omega)]
            by_cases e : i = bk 1
            · subst e
              rw [q_Ie rfl rfl, a_ud_e]
            · rw [q_In (by omega), q_In (by omega), a_ud_n (by omega), a_ud_n (by omega)]
              exact v6 i hi
          · dsimp only at hi ⊢
            rw [a_ud_n (by omega), a_ud_n (by omega), a_ud_n (by omega)] at hi
            show z_L (z_sL h4 (bo + 5) (bk 1) _) (bo + 2) i = _
            rw [q_Ln (by omega), a_ud_n (by omega)]
            exact N4.1 i hi
          · dsimp only at hi ⊢
            rw [a_ud_e] at hi
            show z_L (z_sL h4 (bo + 5) (bk 1) _) (bo + 5) i = _
            by_cases e : i = bk 1
            · subst e
              rw [q_Le rfl rfl, a_ud_e]
            · rw [q_Ln (by omega), a_ud_n (by omega)]
              exact N4.2 i (by omega)
          · dsimp only
            rw [q_In (by omega), q_In (by omega), q_In (by omega)]
            exact e3
