/-! the class reads a book; its constructor -/
theorem s_wset : ∀ k, k < 6 → z_wset (k + 3) = nI k ∧ (k ≠ 5 → z_wleast (k + 3) = nI (a_lo k) ∧ z_wgreat (k + 3) = nI (a_hi k)) := by decide +kernel
theorem s_wnon : ∀ e, e < 23 → ¬ (3 ≤ e ∧ e ≤ 8) → z_wset e < 0 := by decide +kernel
theorem x_lnS {by8 : Nat → Nat} {L lim bo k : Nat} {h : z_T} {t : Nat × Nat × Nat × Nat} {bk nm : Nat → Nat} {told : Nat} {Q : Int32 × z_T → Prop} (l : xL by8 L lim h t) (B : BKS bk nm told) (hb : 83 ≤ bo) (R : xBr h bo bk nm told) (h2 : 2 ≤ t.1) (hk : k < 6)
    (k0 : ∀ h' e, a_lnS (a_ne by8 L lim) bk nm told k t = .inl e → x_fr (xBf bo) h h' → xF h' e → Q (nI 0, h')) (k1 : ∀ h' w, a_lnS (a_ne by8 L lim) bk nm told k t = .inr w → x_fr (xBf bo) h h' → xSg by8 L lim bo h' w → Q (nI 1, h')) : p_W (fX0_readSetting bo 13 (k + 3) h) Q := by
  obtain ⟨b, N, ht⟩ := B
  have s := l.1
  obtain ⟨w1, w2⟩ := s_wset k hk
  obtain ⟨RB, RN, R3⟩ := R
  have RB1 := RB.1
  unfold a_lnS at k0 k1
  unfold fX0_readSetting fX0_readSetting_b18
  simp (disch := first | assumption | omega) only [p_some, p_gd, p_br, p_bi, p_nm, p_mp, p_Sl, p_Sr, p_bis, p_gdt, q_IL, q_IR, q_LI, q_LR, q_RI, q_RL, q_KI, q_KL, q_KR, q_NI, q_NL, q_NR, q_nI, q_nL, q_nR, q_okI, q_okL, q_okR, q_Ie, q_In, q_Le, q_Ln, SM_I, SM_L, s_c0, s_cg0, s_cl0, s_cge, s_cle, r_le, r_lt, r_eq, r_md, r_2, r_3, r_lit, r_litL, r_m1, nI_add, nI_1, nI_clamp, nI_leI, nI_ltI, nI_eq, pk_sub, q_ix, nI_l, lN_add, lN_mul, r_m1n, r_m1n', r_m1lt, r_m1nlt, r_m1le, r_m1nle, Nat.not_lt_zero, Nat.reduceEqDiff, Nat.reduceLT, Nat.reduceLeDiff, true_and, and_true, true_implies, false_implies, not_true_eq_false, not_false_eq_true, implies_true, and_self, ne_eq, decide_true, decide_false, Bool.not_true, Bool.not_false, if_true, if_false, reduceIte, xb_0, xb_1, xb_2, xb_3, xb_4, xb_5, xb_6, xb_7, xb_8, xb_9, xb_10, xb_11, xb_12, xb_13, xb_14, xb_15, xb_16, xb_17, xb_18, xb_19, xb_20, xb_21, xo_0, xo_1, xo_2, xo_3, xo_4, xo_5, xo_6, xo_7, xo_8, xo_9, show k + 3 < 23 by omega, w1, R3, RB.1, r_shl, s_tb, fa_or, hk]
  refine ⟨fun c => ?_, fun c => ?_⟩
  · have c' : ¬ told.testBit k = true := by rw [c]; decide
    rw [if_neg c'] at k0 k1
    have F0 : x_fr (xBf bo) h (z_sI h bo 3 (nI (told ||| 2 ^ k))) := x_fr.rf.sI (fun _ => by unfold xBf; omega)
    have l0 : xL by8 L lim (z_sI h bo 3 (nI (told ||| 2 ^ k))) t := l.fr (C := fun o k => o < 83) (x_fr.rf.sI (fun _ => by omega)) (fun o k c => by unfold xKt at c; omega)
    have R0 : xBr (z_sI h bo 3 (nI (told ||| 2 ^ k))) bo bk nm (told ||| 2 ^ k) := ⟨⟨RB.1, (q_In (by omega)).trans RB.2.1, (q_In (by omega)).trans RB.2.2.1, fun i hi => (q_In (by omega)).trans (RB.2.2.2.1 i hi), fun i hi => (q_In (by omega)).trans (RB.2.2.2.2.1 i hi), fun i hi => (q_In (by omega)).trans (RB.2.2.2.2.2.1 i hi), fun i hi => (q_In (by omega)).trans (RB.2.2.2.2.2.2.1 i hi), fun i hi => (q_In (by omega)).trans (RB.2.2.2.2.2.2.2 i hi)⟩, RN, q_Ie rfl rfl⟩
    generalize z_sI h bo 3 (nI (told ||| 2 ^ k)) = h0 at *
    have s0 := l0.1
    refine ⟨xk13 s, ?_⟩
    refine x_advL l0 h2 (fun h1 f1 l1 => ?_)
    have s1 := l1.1
    have R1 := R0.gf hb (xGF.go f1)
    have F1 := F0.tr (xBf.gf (bo := bo) (xGF.go f1))
    have fin : ∀ (h3 : z_T) v t3, xL by8 L lim h3 t3 → xBr h3 bo bk nm (told ||| 2 ^ k) → x_fr (xBf bo) h h3 → (∀ h', x_fr (xBf bo) h h' → xSg by8 L lim bo h' ((a_ud bk (2 + k) v, nm, told ||| 2 ^ k), t3) → Q (nI 1, h')) → v < 1000 → p_W (fX0_readSetting_b78 bo (nI k) (nI v) h3) Q := fun h3 v t3 l3 R3 F3 k3 hv => by
      have s3 := l3.1
      obtain ⟨⟨B4, v0, v1, v2, v3, v4, v5, v6⟩, N4, e3⟩ := R3
      unfold fX0_readSetting_b78
      simp (disch := first | assumption | omega) only [p_some, p_gd, p_br, p_bi, p_nm, p_mp, p_Sl, p_Sr, p_bis, p_gdt, q_IL, q_IR, q_LI, q_LR, q_RI, q_RL, q_KI, q_KL, q_KR, q_NI, q_NL, q_NR, q_nI, q_nL, q_nR, q_okI, q_okL, q_okR, q_Ie, q_In, q_Le, q_Ln, SM_I, SM_L, s_c0, s_cg0, s_cl0, s_cge, s_cle, r_le, r_lt, r_eq, r_md, r_2, r_3, r_lit, r_litL, r_m1, nI_add, nI_1, nI_clamp, nI_leI, nI_ltI, nI_eq, pk_sub, q_ix, nI_l, lN_add, lN_mul, r_m1n, r_m1n', r_m1lt, r_m1nlt, r_m1le, r_m1nle, Nat.not_lt_zero, Nat.reduceEqDiff, Nat.reduceLT, Nat.reduceLeDiff, true_and, and_true, true_implies, false_implies, not_true_eq_false, not_false_eq_true, implies_true, and_self, ne_eq, decide_true, decide_false, Bool.not_true, Bool.not_false, if_true, if_false, reduceIte, xb_0, xb_1, xb_2, xb_3, xb_4, xb_5, xb_6, xb_7, xb_8, xb_9, xb_10, xb_11, xb_12, xb_13, xb_14, xb_15, xb_16, xb_17, xb_18, xb_19, xb_20, xb_21, xo_0, xo_1, xo_2, xo_3, xo_4, xo_5, xo_6, xo_7, xo_8, xo_9, r_m1, r_m1n]
      refine k3 _ (F3.sI (fun _ => by unfold xBf; omega)) ⟨l3.fr (C := fun o k => o < 83) (x_fr.rf.sI (fun _ => by omega)) (fun o k c => by unfold xKt at c; omega), ⟨B4, ?_, ?_, fun i hi => ?_, fun i hi => ?_, fun i hi => ?_, fun i hi => ?_, fun i hi => ?_⟩, ⟨fun i hi => ?_, fun i hi => ?_⟩, ?_⟩
      · dsimp only
        rw [q_In (by omega), a_ud_n (by omega)]; exact v0
      · dsimp only
        rw [q_In (by omega), a_ud_n (by omega)]; exact v1
      · dsimp only
        by_cases e : i = k
        · subst e
          rw [q_Ie rfl rfl, a_ud_e]
        · rw [q_In (by omega), a_ud_n (by omega)]; exact v2 i hi
      · dsimp only
        rw [q_In (by omega), a_ud_n (by omega)]; exact v3 i hi
      · dsimp only
        rw [q_In (by omega), a_ud_n (by omega)]; exact v4 i hi
      · dsimp only
        rw [q_In (by omega), a_ud_n (by omega)]; exact v5 i hi
      · dsimp only
        rw [q_In (by omega), a_ud_n (by omega)]; exact v6 i hi
      · dsimp only at hi
        rw [a_ud_n (by omega)] at hi
        exact N4.1 i hi
      · dsimp only at hi
        rw [a_ud_n (by omega)] at hi
        exact N4.2 i hi
      · rw [q_In (by omega)]; exact e3
    refine ⟨fun c5 => ?_, fun c5 => ?_⟩
    · rw [if_pos c5] at k1
      refine fin h1 1 _ l1 R1 F1 (fun h' f g => k1 h' _ rfl f ?_) (by omega)
      rw [c5] at g
      rw [c5]
      exact g
    · rw [if_neg c5] at k0 k1
      obtain ⟨w3, w4⟩ := w2 c5
      simp (disch := first | assumption | omega) only [p_some, p_gd, p_br, p_bi, p_nm, p_mp, p_Sl, p_Sr, p_bis, p_gdt, Nat.not_lt_zero, Nat.reduceEqDiff, Nat.reduceLT, Nat.reduceLeDiff, true_and, and_true, true_implies, false_implies, not_true_eq_false, not_false_eq_true, implies_true, and_self, ne_eq, decide_true, decide_false, Bool.not_true, Bool.not_false, if_true, if_false, reduceIte, xk13 s1, w3, w4]
      skip
      have lb : a_lo k < 1000 ∧ a_hi k < 1000 := by
        unfold a_lo a_hi
        constructor
        · split
          · omega
          · split <;> omega
        · split
          · omega
          · split
            · omega
            · split <;> omega
      refine x_takeNumberB l1 lb.1 lb.2 (fun h2 e q f g => ?_) (fun h2 q r9 f2 l2 => ?_)
      · unfold fX0_readSetting_b78
        simp (disch := first | assumption | omega) only [p_some, p_gd, p_br, p_bi, p_nm, p_mp, p_Sl, p_Sr, p_bis, p_gdt, Nat.not_lt_zero, Nat.reduceEqDiff, Nat.reduceLT, Nat.reduceLeDiff, true_and, and_true, true_implies, false_implies, not_true_eq_false, not_false_eq_true, implies_true, and_self, ne_eq, decide_true, decide_false, Bool.not_true, Bool.not_false, if_true, if_false, reduceIte, r_lit, r_m1]
        exact k0 h2 e (by rw [q, a_bdl]) (F1.tr (xBf.gf f)) g
      · rw [q, a_bdr] at k1
        exact fin h2 _ _ l2 (R1.gf hb f2) (F1.tr (xBf.gf f2)) (fun h' f g => k1 h' _ rfl f g) (by omega)
  · have c' : told.testBit k = true := by
      cases h9 : told.testBit k
      · exact absurd h9 c
      · rfl
    rw [if_pos c'] at k0
    simp (disch := first | assumption | omega) only [p_some, p_gd, p_br, p_bi, p_nm, p_mp, p_Sl, p_Sr, p_bis, p_gdt, Nat.not_lt_zero, Nat.reduceEqDiff, Nat.reduceLT, Nat.reduceLeDiff, true_and, and_true, true_implies, false_implies, not_true_eq_false, not_false_eq_true, implies_true, and_self, ne_eq, decide_true, decide_false, Bool.not_true, Bool.not_false, if_true, if_false, reduceIte, xk13 s]
    refine x_fail l (fun h1 f1 g1 => ?_)
    simp (disch := first | assumption | omega) only [p_some, p_gd, p_br, p_bi, p_nm, p_mp, p_Sl, p_Sr, p_bis, p_gdt, Nat.not_lt_zero, Nat.reduceEqDiff, Nat.reduceLT, Nat.reduceLeDiff, true_and, and_true, true_implies, false_implies, not_true_eq_false, not_false_eq_true, implies_true, and_self, ne_eq, decide_true, decide_false, Bool.not_true, Bool.not_false, if_true, if_false, reduceIte, s_yb0]
    exact k0 h1 _ rfl (xBf.gf f1) g1
theorem x_line {by8 : Nat → Nat} {L lim bo : Nat} {h : z_T} {t : Nat × Nat × Nat × Nat} {bk nm : Nat → Nat} {told : Nat} {Q : Int32 × z_T → Prop} (l : xL by8 L lim h t) (B : BKS bk nm told) (hb : 83 ≤ bo) (R : xBr h bo bk nm told)
    (k0 : ∀ h' e, a_line (a_ne by8 L lim) bk nm told t = .inl e → x_fr (xBf bo) h h' → xF h' e → Q (nI 0, h')) (k1 : ∀ h' w, a_line (a_ne by8 L lim) bk nm told t = .inr w → x_fr (xBf bo) h h' → xSg by8 L lim bo h' w → Q (nI 1, h')) : p_W (fX0_readLine bo 13 h) Q := by
  have s := l.1
  have i1 := x_isAt l (i := 1) (by decide)
  have i2 := x_isAt l (i := 2) (by decide)
  have r7 := l.2.2.1.k.2.2.2.2.2.2
  have RB := R.1.1
  unfold a_line at k0 k1
  unfold fX0_readLine
  by_cases c2 : a_kk t = 2
  · rw [if_pos c2] at k0 k1
    rw [bI_t (show a_kk t = 1 + 1 by omega)] at i1
    simp (disch := first | assumption | omega) only [p_some, p_gd, p_br, p_bi, p_nm, p_mp, p_Sl, p_Sr, p_bis, p_gdt, Nat.not_lt_zero, Nat.reduceEqDiff, Nat.reduceLT, Nat.reduceLeDiff, true_and, and_true, true_implies, false_implies, not_true_eq_false, not_false_eq_true, implies_true, and_self, ne_eq, decide_true, decide_false, Bool.not_true, Bool.not_false, if_true, if_false, reduceIte, xk13 s, i1, r_lit, s_10, xb_0 RB]
    refine x_lnT l B hb R (by have := a_kk1 (t := t) (by omega); omega) (fun h1 e q f g => ?_) (fun h1 w q f g => ?_)
    · simp (disch := first | assumption | omega) only [p_some, p_gd, p_br, p_bi, p_nm, p_mp, p_Sl, p_Sr, p_bis, p_gdt, Nat.not_lt_zero, Nat.reduceEqDiff, Nat.reduceLT, Nat.reduceLeDiff, true_and, and_true, true_implies, false_implies, not_true_eq_false, not_false_eq_true, implies_true, and_self, ne_eq, decide_true, decide_false, Bool.not_true, Bool.not_false, if_true, if_false, reduceIte, s_yb0]
      exact k0 h1 e q f g
    · simp (disch := first | assumption | omega) only [p_some, p_gd, p_br, p_bi, p_nm, p_mp, p_Sl, p_Sr, p_bis, p_gdt, Nat.not_lt_zero, Nat.reduceEqDiff, Nat.reduceLT, Nat.reduceLeDiff, true_and, and_true, true_implies, false_implies, not_true_eq_false, not_false_eq_true, implies_true, and_self, ne_eq, decide_true, decide_false, Bool.not_true, Bool.not_false, if_true, if_false, reduceIte, s_yb1]
      exact k1 h1 w q f g
  · rw [if_neg c2] at k0 k1
    rw [bI_f (show ¬ a_kk t = 1 + 1 by omega)] at i1
    by_cases c3 : a_kk t = 3
    · rw [if_pos c3] at k0 k1
      rw [bI_t (show a_kk t = 2 + 1 by omega)] at i2
      simp (disch := first | assumption | omega) only [p_some, p_gd, p_br, p_bi, p_nm, p_mp, p_Sl, p_Sr, p_bis, p_gdt, Nat.not_lt_zero, Nat.reduceEqDiff, Nat.reduceLT, Nat.reduceLeDiff, true_and, and_true, true_implies, false_implies, not_true_eq_false, not_false_eq_true, implies_true, and_self, ne_eq, decide_true, decide_false, Bool.not_true, Bool.not_false, if_true, if_false, reduceIte, xk13 s, i1, i2, r_lit, s_10, xb_0 RB]
      refine x_lnD l B hb R (by have := a_kk1 (t := t) (by omega); omega) (fun h1 e q f g => ?_) (fun h1 w q f g => ?_)
      · simp (disch := first | assumption | omega) only [p_some, p_gd, p_br, p_bi, p_nm, p_mp, p_Sl, p_Sr, p_bis, p_gdt, Nat.not_lt_zero, Nat.reduceEqDiff, Nat.reduceLT, Nat.reduceLeDiff, true_and, and_true, true_implies, false_implies, not_true_eq_false, not_false_eq_true, implies_true, and_self, ne_eq, decide_true, decide_false, Bool.not_true, Bool.not_false, if_true, if_false, reduceIte, s_yb0]
        exact k0 h1 e q f g
      · simp (disch := first | assumption | omega) only [p_some, p_gd, p_br, p_bi, p_nm, p_mp, p_Sl, p_Sr, p_bis, p_gdt, Nat.not_lt_zero, Nat.reduceEqDiff, Nat.reduceLT, Nat.reduceLeDiff, true_and, and_true, true_implies, false_implies, not_true_eq_false, not_false_eq_true, implies_true, and_self, ne_eq, decide_true, decide_false, Bool.not_true, Bool.not_false, if_true, if_false, reduceIte, s_yb1]
        exact k1 h1 w q f g
    · rw [if_neg c3] at k0 k1
      rw [bI_f (show ¬ a_kk t = 2 + 1 by omega)] at i2
      simp (disch := first | assumption | omega) only [p_some, p_gd, p_br, p_bi, p_nm, p_mp, p_Sl, p_Sr, p_bis, p_gdt, Nat.not_lt_zero, Nat.reduceEqDiff, Nat.reduceLT, Nat.reduceLeDiff, true_and, and_true, true_implies, false_implies, not_true_eq_false, not_false_eq_true, implies_true, and_self, ne_eq, decide_true, decide_false, Bool.not_true, Bool.not_false, if_true, if_false, reduceIte, xk13 s, i1, i2, r_lit, s_10, xb_0 RB, r7]
      by_cases c4 : 4 ≤ a_kk t ∧ a_kk t ≤ 9
      · rw [if_pos c4] at k0 k1
        have e := x_lnS (k := a_kk t - 4) (Q := fun a => y_b a.1 = true ∧ Q (a.1, a.2)) l B hb R (by have := a_kk1 (t := t) (by omega); omega) (by omega) (fun h1 e q f g => ⟨s_yb0, k0 h1 e q f g⟩) (fun h1 w q f g => ⟨s_yb1, k1 h1 w q f g⟩)
        rw [show a_kk t - 4 + 3 = a_kk t - 1 by omega] at e
        exact e
      · rw [if_neg c4] at k0
        have kl : a_kk t - 1 < 23 := by
          have := a_wi_lt (V := t.2.1)
          unfold a_kk
          split <;> omega
        have wn := s_wnon _ kl (by omega)
        generalize a_kk t - 1 = e2 at *
        unfold fX0_readSetting fX0_readSetting_b18
        rw [show (0 : Int32) = nI 0 from rfl] at wn
        simp (disch := first | assumption | omega) only [p_some, p_gd, p_br, p_bi, p_nm, p_mp, p_Sl, p_Sr, p_bis, p_gdt, Nat.not_lt_zero, Nat.reduceEqDiff, Nat.reduceLT, Nat.reduceLeDiff, true_and, and_true, true_implies, false_implies, not_true_eq_false, not_false_eq_true, implies_true, and_self, ne_eq, decide_true, decide_false, Bool.not_true, Bool.not_false, if_true, if_false, reduceIte, kl, r_lit, wn, xk13 s]
        refine x_fail l (fun h1 f1 g1 => ?_)
        simp (disch := first | assumption | omega) only [p_some, p_gd, p_br, p_bi, p_nm, p_mp, p_Sl, p_Sr, p_bis, p_gdt, Nat.not_lt_zero, Nat.reduceEqDiff, Nat.reduceLT, Nat.reduceLeDiff, true_and, and_true, true_implies, false_implies, not_true_eq_false, not_false_eq_true, implies_true, and_self, ne_eq, decide_true, decide_false, Bool.not_true, Bool.not_false, if_true, if_false, reduceIte, s_yb0]
        exact k0 h1 _ rfl (xBf.gf f1) g1
theorem x_bkLoop {by8 : Nat → Nat} {L bo : Nat} {Q : Int32 × z_T → Prop} (hb : 83 ≤ bo) : ∀ m (h : z_T) bk nm told lines t, m + lines = 480 → LNK L lines t → BKS bk nm told → xL by8 L 900 h t → xBr h bo bk nm told → z_I h bo 0 = nI lines →
    (∀ h' e, a_lines (a_ne by8 L 900) m bk nm told lines t = .inl e → x_fr (fun o k => xBf bo o k ∧ (o ≠ bo ∨ k ≠ 0)) h h' → xF h' e → Q (nI 0, h')) →
    (∀ h' bk' nm' n told', a_lines (a_ne by8 L 900) m bk nm told lines t = .inr (bk', nm', n) → x_fr (fun o k => xBf bo o k ∧ (o ≠ bo ∨ k ≠ 0)) h h' → z_I h' 13 8 = nI 0 → xBr h' bo bk' nm' told' → z_I h' bo 0 = nI n → Q (nI 1, h')) →
    p_W (y_lp (fun w : Int32 × z_T => fX0_readLines_b2_i bo 13 w.1 w.2) (nI lines, h)) Q := by
  intro m
  induction m with
  | zero =>
    intro h bk nm told lines t hm kk B l
    obtain ⟨e, e1, e2, e3⟩ := kk
    have := l.2.2.2.2.1.1
    omega
  | succ m ih =>
    intro h bk nm told lines t hm kk B l R hl k0 k1
    have s := l.1
    obtain ⟨-, t4, -, -, -, t9, -⟩ := l.2.2.1.k
    have ll : lines < 940 := by
      obtain ⟨e, e1, e2, e3⟩ := kk
      have := l.2.2.2.2.1.1
      omega
    refine p_unP (fun P hP => ?_)
    rw [a_lines] at k0 k1
    unfold fX0_readLines_b2_i
    by_cases c0 : t.1 = 0
    · rw [if_pos c0] at k1
      rw [c0] at t4
      simp (disch := first | assumption | omega) only [p_some, p_gd, p_br, p_bi, p_nm, p_mp, p_Sl, p_Sr, p_bis, p_gdt, Nat.not_lt_zero, Nat.reduceEqDiff, Nat.reduceLT, Nat.reduceLeDiff, true_and, and_true, true_implies, false_implies, not_true_eq_false, not_false_eq_true, implies_true, and_self, ne_eq, decide_true, decide_false, Bool.not_true, Bool.not_false, if_true, if_false, reduceIte, xk13 s, r_lit, nI_leI, show ¬ 940 ≤ lines by omega, t4]
      exact k1 h bk nm lines told rfl x_fr.rf l.2.2.2.2.2.2 R hl
    · rw [if_neg c0] at k0 k1
      simp (disch := first | assumption | omega) only [p_some, p_gd, p_br, p_bi, p_nm, p_mp, p_Sl, p_Sr, p_bis, p_gdt, Nat.not_lt_zero, Nat.reduceEqDiff, Nat.reduceLT, Nat.reduceLeDiff, true_and, and_true, true_implies, false_implies, not_true_eq_false, not_false_eq_true, implies_true, and_self, ne_eq, decide_true, decide_false, Bool.not_true, Bool.not_false, if_true, if_false, reduceIte, xk13 s, r_lit, nI_leI, show ¬ 940 ≤ lines by omega, t4, nI_eq, c0, xb_0 R.1.1]
      refine x_line l B hb R (fun h1 e q f g => ?_) (fun h1 w q f g => ?_)
      · simp (disch := first | assumption | omega) only [p_some, p_gd, p_br, p_bi, p_nm, p_mp, p_Sl, p_Sr, p_bis, p_gdt, Nat.not_lt_zero, Nat.reduceEqDiff, Nat.reduceLT, Nat.reduceLeDiff, true_and, and_true, true_implies, false_implies, not_true_eq_false, not_false_eq_true, implies_true, and_self, ne_eq, decide_true, decide_false, Bool.not_true, Bool.not_false, if_true, if_false, reduceIte]
        exact k0 h1 e (by rw [q, a_bdl]) (f.w (fun o k _ c => c.1)) g
      · obtain ⟨l1, R1⟩ := g
        have s1 := l1.1
        have B1 := a_line_ok B q
        simp (disch := first | assumption | omega) only [p_some, p_gd, p_br, p_bi, p_nm, p_mp, p_Sl, p_Sr, p_bis, p_gdt, Nat.not_lt_zero, Nat.reduceEqDiff, Nat.reduceLT, Nat.reduceLeDiff, true_and, and_true, true_implies, false_implies, not_true_eq_false, not_false_eq_true, implies_true, and_self, ne_eq, decide_true, decide_false, Bool.not_true, Bool.not_false, if_true, if_false, reduceIte, s_10, xk13 s1]
        refine x_take (c := 59) l1 (by decide) (fun h2 c59 f2 g2 => ?_) (fun h2 c59 f2 l2 => ?_)
        · simp (disch := first | assumption | omega) only [p_some, p_gd, p_br, p_bi, p_nm, p_mp, p_Sl, p_Sr, p_bis, p_gdt, Nat.not_lt_zero, Nat.reduceEqDiff, Nat.reduceLT, Nat.reduceLeDiff, true_and, and_true, true_implies, false_implies, not_true_eq_false, not_false_eq_true, implies_true, and_self, ne_eq, decide_true, decide_false, Bool.not_true, Bool.not_false, if_true, if_false, reduceIte]
          exact k0 h2 _ (by rw [q, a_bdr, if_neg c59]) ((f.tr (xBf.gf f2)).w (fun o k _ c => c.1)) g2
        · have s2 := l2.1
          have F2 := f.tr (xBf.gf (bo := bo) f2)
          have k2 := kk.go q (by omega) l1.2.2.2.1.1
          rw [q, a_bdr, if_pos c59] at k0 k1
          have R2 := R1.gf hb f2
          have e0 : z_I h2 bo 0 = nI lines := ((f.tr (xBf.gf f2)).I bo 0 (z_ok_lt (xb_0 R.1.1)) (by unfold xBf xGF; omega)).trans hl
          have R2' := R2.1.1
          have l3 : xL by8 L 900 (z_sI h2 bo 0 (nI (lines + 1))) (a_ne by8 L 900 w.2) := l2.fr (C := fun o k => o < 83) (x_fr.rf.sI (fun _ => by omega)) (fun o k c => by unfold xKt at c; omega)
          have R3 : xBr (z_sI h2 bo 0 (nI (lines + 1))) bo w.1.1 w.1.2.1 w.1.2.2 := by
            obtain ⟨⟨B4, v0, v1, v2, v3, v4, v5, v6⟩, N4, e3⟩ := R2
            exact ⟨⟨B4, (q_In (by omega)).trans v0, (q_In (by omega)).trans v1, fun i hi => (q_In (by omega)).trans (v2 i hi), fun i hi => (q_In (by omega)).trans (v3 i hi), fun i hi => (q_In (by omega)).trans (v4 i hi), fun i hi => (q_In (by omega)).trans (v5 i hi), fun i hi => (q_In (by omega)).trans (v6 i hi)⟩, N4, (q_In (by omega)).trans e3⟩
          have F3 : ∀ h4, x_fr (fun o k => xBf bo o k ∧ (o ≠ bo ∨ k ≠ 0)) (z_sI h2 bo 0 (nI (lines + 1))) h4 → x_fr (fun o k => xBf bo o k ∧ (o ≠ bo ∨ k ≠ 0)) h h4 := fun h4 f4 => (F2.w (fun o k _ c => c.1)).tr ((x_fr.rf.sI (fun _ => by omega)).tr f4)
          simp (disch := first | assumption | omega) only [p_some, p_gd, p_br, p_bi, p_nm, p_mp, p_Sl, p_Sr, p_bis, p_gdt, Nat.not_lt_zero, Nat.reduceEqDiff, Nat.reduceLT, Nat.reduceLeDiff, true_and, and_true, true_implies, false_implies, not_true_eq_false, not_false_eq_true, implies_true, and_self, ne_eq, decide_true, decide_false, Bool.not_true, Bool.not_false, if_true, if_false, reduceIte, xb_0 R2.1.1, e0, nI_add, nI_1, s_10]
          refine hP _ ?_
          exact ih _ _ _ _ _ _ (by omega) k2 B1 l3 R3 (q_Ie rfl rfl) (fun h4 e q4 f4 g4 => k0 h4 e q4 (F3 h4 f4) g4) (fun h4 bk' nm' n' told' q4 f4 g4 bb b0 => k1 h4 bk' nm' n' told' q4 (F3 h4 f4) g4 bb b0)
