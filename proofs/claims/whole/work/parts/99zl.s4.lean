/-! what reads by tokens: the class's small steps -/
def xL (by8 : Nat → Nat) (L lim : Nat) (h : z_T) (t : Nat × Nat × Nat × Nat) : Prop := SX h ∧ xTape h L lim by8 ∧ xTok h t ∧ (t.2.2.2 ≤ L ∧ t.2.2.1 ≤ L) ∧ BY L by8 ∧ lim ≤ 900 ∧ z_I h 13 8 = nI 0
def xKt (o k : Nat) : Prop := (o = 13 ∧ (k = 1 ∨ k = 2 ∨ k = 3 ∨ k = 4 ∨ k = 5 ∨ k = 6 ∨ k = 7 ∨ k = 8)) ∨ (o = 9 ∧ k = 1) ∨ o = 10
def xGF (o k : Nat) : Prop := o ≠ 13 ∨ (k ≠ 2 ∧ k ≠ 3 ∧ k ≠ 4 ∧ k ≠ 5 ∧ k ≠ 6 ∧ k ≠ 7 ∧ k ≠ 8)
def xF (h : z_T) (e : Nat × Nat) : Prop := z_I h 13 8 = nI e.1 ∧ z_I h 13 3 = nI e.2
theorem xL.fr {by8 : Nat → Nat} {L lim : Nat} {h h' : z_T} {t : Nat × Nat × Nat × Nat} (l : xL by8 L lim h t) {C : Nat → Nat → Prop} (f : x_fr C h h') (hC : ∀ o k, xKt o k → C o k) : xL by8 L lim h' t := by
  obtain ⟨s, ⟨T1, T2, T3⟩, tk, hE, hb, hl⟩ := l
  have h0 := s.1
  refine ⟨f.s s, ⟨(f.I 9 1 (by omega) (hC _ _ (by unfold xKt; omega))).trans T1, (f.I 13 1 (by omega) (hC _ _ (by unfold xKt; omega))).trans T2, fun i hi => (f.I 10 i (by omega) (hC _ _ (by unfold xKt; omega))).trans (T3 i hi)⟩, ?_, hE, hb, hl.1, (f.I 13 8 (by omega) (hC _ _ (by unfold xKt; omega))).trans hl.2⟩
  unfold xTok at tk ⊢
  rw [f.I 13 3 (by omega) (hC _ _ (by unfold xKt; omega)), f.I 13 4 (by omega) (hC _ _ (by unfold xKt; omega)), f.I 13 5 (by omega) (hC _ _ (by unfold xKt; omega)), f.I 13 2 (by omega) (hC _ _ (by unfold xKt; omega)), f.L 13 6 (by omega) (hC _ _ (by unfold xKt; omega)), f.R 13 7 (by omega) (hC _ _ (by unfold xKt; omega))]
  exact tk
theorem xTok.k {h : z_T} {t : Nat × Nat × Nat × Nat} (tk : xTok h t) : z_I h 13 3 = nI t.2.2.1 ∧ z_I h 13 4 = nI t.1 ∧ (t.1 = 2 → z_L h 13 6 = lN t.2.1 ∧ 0 < t.2.1 ∧ t.2.1 < 32 ^ 7 ∧ z_R h 13 7 = some (a_wi t.2.1)) ∧ (t.1 = 3 → z_I h 13 5 = nI t.2.1 ∧ t.2.1 < 100) ∧ (2 ≤ t.1 → z_I h 13 2 = nI t.2.2.2) ∧ t.1 < 100 ∧ z_R h 13 7 = some (a_kk t - 1) := by
  obtain ⟨t3, t4, t7, h0⟩ := tk
  have t7' : z_R h 13 7 = some (a_kk t - 1) := by
    rw [t7]
    unfold a_kk
    by_cases c : t.1 = 2
    · rw [if_pos c, if_pos c, Nat.add_sub_cancel]
    · rw [if_neg c, if_neg c]
  refine ⟨t3, t4, ?_, ?_, ?_, ?_, t7'⟩
  · intro c
    rcases h0 with e | e | ⟨e, g1, g2, g3, g4, g5⟩ | ⟨e, g1, g2, g5⟩ | ⟨e, g5⟩
    · omega
    · omega
    · exact ⟨g1, g2, g3, g4⟩
    · omega
    · have := mTok.S e; omega
  · intro c
    rcases h0 with e | e | ⟨e, g1, g2, g3, g4, g5⟩ | ⟨e, g1, g2, g5⟩ | ⟨e, g5⟩
    · omega
    · omega
    · omega
    · exact ⟨g1, g2⟩
    · have := mTok.S e; omega
  · intro c
    rcases h0 with e | e | ⟨e, g1, g2, g3, g4, g5⟩ | ⟨e, g1, g2, g5⟩ | ⟨e, g5⟩
    · omega
    · omega
    · exact g5
    · exact g5
    · exact g5
  · rcases h0 with e | e | ⟨e, g1, g2, g3, g4, g5⟩ | ⟨e, g1, g2, g5⟩ | ⟨e, g5⟩
    · omega
    · omega
    · omega
    · omega
    · have := mTok.S e; omega
theorem x_advL {by8 : Nat → Nat} {L lim : Nat} {h : z_T} {t : Nat × Nat × Nat × Nat} {Q : z_T → Prop} (l : xL by8 L lim h t) (h2 : 2 ≤ t.1) (k : ∀ h', x_fr xGo h h' → xL by8 L lim h' (a_ne by8 L lim t) → Q h') : p_W (fX6_advance 13 h) Q := by
  obtain ⟨s, T, tk, hE, hb, hl⟩ := l
  have h0 := s.1
  exact x_adv s T hb hl.1 hE.1 (tk.k.2.2.2.2.1 h2) (fun h' f t' => k h' f ⟨f.s s, T.fr s f, t', a_lex_E, hb, hl.1, (f.I 13 8 (by omega) (by unfold xGo; omega)).trans hl.2⟩)
theorem x_isAt {by8 : Nat → Nat} {L lim : Nat} {h : z_T} {t : Nat × Nat × Nat × Nat} (l : xL by8 L lim h t) {i : Nat} (hi : i < 23) : fX6_isAt 13 i h = some (bI (a_kk t = i + 1)) := by
  have s := l.1
  obtain ⟨-, t4, t2, -, -, t9, -⟩ := l.2.2.1.k
  refine p_of ?_
  unfold fX6_isAt fX6_isAt_b20
  by_cases c : t.1 = 2
  · obtain ⟨-, -, -, g4⟩ := t2 c
    have w2 := a_wi_lt (V := t.2.1)
    have key : (a_kk t = i + 1) ↔ a_wi t.2.1 = i := by
      unfold a_kk
      rw [if_pos c]
      omega
    rw [c] at t4
    generalize a_wi t.2.1 = W at *
    simp (disch := first | assumption | omega) only [p_some, p_gd, p_br, p_bi, p_nm, p_mp, p_Sl, p_Sr, p_bis, p_gdt, Nat.not_lt_zero, Nat.reduceEqDiff, Nat.reduceLT, Nat.reduceLeDiff, true_and, and_true, true_implies, false_implies, not_true_eq_false, not_false_eq_true, implies_true, and_self, ne_eq, decide_true, decide_false, Bool.not_true, Bool.not_false, if_true, if_false, reduceIte, xk13 s, r_lit, t4, g4, w2, hi]
    refine ⟨fun q => ?_, fun q => ?_⟩
    · rw [bI_t (key.mpr q)]
    · rw [bI_f (fun z => q (key.mp z))]
  · have nk : ¬ a_kk t = i + 1 := by unfold a_kk; rw [if_neg c]; omega
    rw [bI_f nk]
    simp (disch := first | assumption | omega) only [p_some, p_gd, p_br, p_bi, p_nm, p_mp, p_Sl, p_Sr, p_bis, p_gdt, Nat.not_lt_zero, Nat.reduceEqDiff, Nat.reduceLT, Nat.reduceLeDiff, true_and, and_true, true_implies, false_implies, not_true_eq_false, not_false_eq_true, implies_true, and_self, ne_eq, decide_true, decide_false, Bool.not_true, Bool.not_false, if_true, if_false, reduceIte, xk13 s, r_lit, t4, nI_eq, c]
theorem x_isName {by8 : Nat → Nat} {L lim : Nat} {h : z_T} {t : Nat × Nat × Nat × Nat} (l : xL by8 L lim h t) : fX6_isName 13 h = some (bI (a_kk t = 1)) := by
  have s := l.1
  have a := x_isAt l (i := 0) (by decide)
  rw [Nat.zero_add] at a
  refine p_of ?_
  unfold fX6_isName
  simp (disch := first | assumption | omega) only [p_some, p_gd, p_br, p_bi, p_nm, p_mp, p_Sl, p_Sr, p_bis, p_gdt, Nat.not_lt_zero, Nat.reduceEqDiff, Nat.reduceLT, Nat.reduceLeDiff, true_and, and_true, true_implies, false_implies, not_true_eq_false, not_false_eq_true, implies_true, and_self, ne_eq, decide_true, decide_false, Bool.not_true, Bool.not_false, if_true, if_false, reduceIte, xk13 s, a, bI_y]
theorem x_fail {by8 : Nat → Nat} {L lim : Nat} {h : z_T} {t : Nat × Nat × Nat × Nat} {F : Nat} {Q : Int32 × z_T → Prop} (l : xL by8 L lim h t) (k : ∀ h', x_fr xGF h h' → xF h' (F, t.2.2.1) → Q (nI 0, h')) : p_W (fX6_fail 13 (nI F) h) Q := by
  have s := l.1
  have tk := l.2.2.1.k.1
  unfold fX6_fail
  simp (disch := first | assumption | omega) only [p_some, p_gd, p_br, p_bi, p_nm, p_mp, p_Sl, p_Sr, p_bis, p_gdt, Nat.not_lt_zero, Nat.reduceEqDiff, Nat.reduceLT, Nat.reduceLeDiff, true_and, and_true, true_implies, false_implies, not_true_eq_false, not_false_eq_true, implies_true, and_self, ne_eq, decide_true, decide_false, Bool.not_true, Bool.not_false, if_true, if_false, reduceIte, xk13 s, r_lit]
  exact k _ (x_fr.rf.sI (fun _ => by unfold xGF; omega)) ⟨q_Ie rfl rfl, (q_In (by omega)).trans tk⟩
theorem xGF.go {h h' : z_T} (f : x_fr xGo h h') : x_fr xGF h h' := f.w (fun o k _ c => by unfold xGF at c; unfold xGo; omega)
theorem s_yb0 : y_b (nI 0) = true := by decide
theorem s_yb1 : y_b (nI 1) = true := by decide
theorem x_take {by8 : Nat → Nat} {L lim : Nat} {h : z_T} {t : Nat × Nat × Nat × Nat} {c : Nat} {Q : Int32 × z_T → Prop} (l : xL by8 L lim h t) (hc : a_S c = true) (k0 : ∀ h', ¬ t.1 = c → x_fr xGF h h' → xF h' (1, t.2.2.1) → Q (nI 0, h')) (k1 : ∀ h', t.1 = c → x_fr xGF h h' → xL by8 L lim h' (a_ne by8 L lim t) → Q (nI 1, h')) : p_W (fX6_take 13 (nI c) h) Q := by
  have s := l.1
  have cS := mTok.S (t := (c, 0, 0, 0)) hc
  dsimp only at cS
  obtain ⟨-, t4, -, -, -, t9, -⟩ := l.2.2.1.k
  unfold fX6_take
  simp (disch := first | assumption | omega) only [p_some, p_gd, p_br, p_bi, p_nm, p_mp, p_Sl, p_Sr, p_bis, p_gdt, Nat.not_lt_zero, Nat.reduceEqDiff, Nat.reduceLT, Nat.reduceLeDiff, true_and, and_true, true_implies, false_implies, not_true_eq_false, not_false_eq_true, implies_true, and_self, ne_eq, decide_true, decide_false, Bool.not_true, Bool.not_false, if_true, if_false, reduceIte, xk13 s, r_lit, t4, nI_eq]
  refine ⟨fun q => ?_, fun q => ?_⟩
  · refine x_advL l (by omega) (fun h1 f1 l1 => ?_)
    exact k1 h1 q (xGF.go f1) l1
  · refine x_fail l (fun h1 f1 g1 => ?_)
    simp (disch := first | assumption | omega) only [p_some, p_gd, p_br, p_bi, p_nm, p_mp, p_Sl, p_Sr, p_bis, p_gdt, Nat.not_lt_zero, Nat.reduceEqDiff, Nat.reduceLT, Nat.reduceLeDiff, true_and, and_true, true_implies, false_implies, not_true_eq_false, not_false_eq_true, implies_true, and_self, ne_eq, decide_true, decide_false, Bool.not_true, Bool.not_false, if_true, if_false, reduceIte, s_yb0]
    exact k0 h1 q f1 g1
theorem x_takeEnd {by8 : Nat → Nat} {L lim : Nat} {h : z_T} {t : Nat × Nat × Nat × Nat} {Q : Int32 × z_T → Prop} (l : xL by8 L lim h t) (k0 : ∀ h', ¬ t.1 = 0 → x_fr xGF h h' → xF h' (1, t.2.2.1) → Q (nI 0, h')) (k1 : t.1 = 0 → Q (nI 1, h)) : p_W (fX6_takeEnd 13 h) Q := by
  have s := l.1
  obtain ⟨-, t4, -, -, -, t9, -⟩ := l.2.2.1.k
  unfold fX6_takeEnd fX6_takeEnd_b15
  simp (disch := first | assumption | omega) only [p_some, p_gd, p_br, p_bi, p_nm, p_mp, p_Sl, p_Sr, p_bis, p_gdt, Nat.not_lt_zero, Nat.reduceEqDiff, Nat.reduceLT, Nat.reduceLeDiff, true_and, and_true, true_implies, false_implies, not_true_eq_false, not_false_eq_true, implies_true, and_self, ne_eq, decide_true, decide_false, Bool.not_true, Bool.not_false, if_true, if_false, reduceIte, xk13 s, r_lit, t4, nI_eq]
  refine ⟨fun q => k1 q, fun q => ?_⟩
  refine x_fail l (fun h1 f1 g1 => ?_)
  simp (disch := first | assumption | omega) only [p_some, p_gd, p_br, p_bi, p_nm, p_mp, p_Sl, p_Sr, p_bis, p_gdt, Nat.not_lt_zero, Nat.reduceEqDiff, Nat.reduceLT, Nat.reduceLeDiff, true_and, and_true, true_implies, false_implies, not_true_eq_false, not_false_eq_true, implies_true, and_self, ne_eq, decide_true, decide_false, Bool.not_true, Bool.not_false, if_true, if_false, reduceIte, s_yb0, bI_0, r_lit]
  exact k0 h1 q f1 g1
theorem x_takeNumber {by8 : Nat → Nat} {L lim : Nat} {h : z_T} {t : Nat × Nat × Nat × Nat} {lo hi : Nat} {Q : Int32 × z_T → Prop} (l : xL by8 L lim h t) (h1 : lo < 1000) (h2 : hi < 1000) (k0 : ∀ h' F, ((¬ t.1 = 3 ∧ F = 1) ∨ (t.1 = 3 ∧ ¬ (lo ≤ t.2.1 ∧ t.2.1 ≤ hi) ∧ F = 2)) → x_fr xGF h h' → xF h' (F, t.2.2.1) → Q (m1, h')) (k1 : ∀ h', t.1 = 3 → lo ≤ t.2.1 → t.2.1 ≤ hi → x_fr xGF h h' → xL by8 L lim h' (a_ne by8 L lim t) → Q (nI t.2.1, h')) : p_W (fX6_takeNumber 13 (nI lo) (nI hi) h) Q := by
  have s := l.1
  obtain ⟨-, t4, -, t3, -, t9, -⟩ := l.2.2.1.k
  unfold fX6_takeNumber fX6_takeNumber_b31
  by_cases c : t.1 = 3
  · obtain ⟨g2, g3⟩ := t3 c
    rw [c] at t4
    simp (disch := first | assumption | omega) only [p_some, p_gd, p_br, p_bi, p_nm, p_mp, p_Sl, p_Sr, p_bis, p_gdt, Nat.not_lt_zero, Nat.reduceEqDiff, Nat.reduceLT, Nat.reduceLeDiff, true_and, and_true, true_implies, false_implies, not_true_eq_false, not_false_eq_true, implies_true, and_self, ne_eq, decide_true, decide_false, Bool.not_true, Bool.not_false, if_true, if_false, reduceIte, xk13 s, r_lit, t4, g2, nI_ltI, nI_leI]
    have bad : ¬ (lo ≤ t.2.1 ∧ t.2.1 ≤ hi) → p_W (fX6_fail 13 (nI 2) h) (fun a => Q (-nI 1, a.2)) := fun q => x_fail l (fun h1 f1 b1 => k0 h1 2 (Or.inr ⟨c, q, rfl⟩) f1 b1)
    refine ⟨fun q => bad (by omega), fun q => ⟨fun q2 => ?_, fun q2 => bad (by omega)⟩⟩
    refine x_advL l (by omega) (fun h1 f1 l1 => ?_)
    exact k1 h1 c (by omega) q2 (xGF.go f1) l1
  · simp (disch := first | assumption | omega) only [p_some, p_gd, p_br, p_bi, p_nm, p_mp, p_Sl, p_Sr, p_bis, p_gdt, Nat.not_lt_zero, Nat.reduceEqDiff, Nat.reduceLT, Nat.reduceLeDiff, true_and, and_true, true_implies, false_implies, not_true_eq_false, not_false_eq_true, implies_true, and_self, ne_eq, decide_true, decide_false, Bool.not_true, Bool.not_false, if_true, if_false, reduceIte, xk13 s, r_lit, t4, nI_eq, c]
    refine x_fail l (fun h1 f1 b1 => ?_)
    exact k0 h1 1 (Or.inl ⟨c, rfl⟩) f1 b1
def a_fN (f : Nat → Int64) (n : Nat) (v : Int64) : Int32 := if fa_first (fun k => decide (f k = v)) n < n then nI (fa_first (fun k => decide (f k = v)) n) else m1
theorem a_first_at {P : Nat → Bool} {n j : Nat} (hj : j < n) (hP : P j = true) (g : ∀ i, i < j → P i = false) : fa_first P n = j := by
  have lt : fa_first P n ≤ j := by
    refine Classical.byContradiction (fun z => ?_)
    have := fa_first_no P n j (by omega)
    rw [hP] at this
    exact absurd this (by decide)
  have yes := fa_first_yes P n (by omega)
  by_cases z : fa_first P n = j
  · exact z
  · rw [g _ (by omega)] at yes
    exact absurd yes (by decide)
theorem a_fN_fi {f : Nat → Nat} {F : Nat → Int64} {n V : Nat} (hF : ∀ k, k < n → F k = lN (f k) ∧ f k < 32 ^ 7) (hV : V < 32 ^ 7) : a_fN F n (lN V) = a_fi f n V := by
  have e : ∀ k, k < n → decide (F k = lN V) = decide (f k = V) := fun k hk => by
    obtain ⟨e1, e2⟩ := hF k hk
    rw [e1]
    refine decide_eq_decide.mpr ?_
    exact r_eq (by omega) (by omega)
  have : ∀ m, m ≤ n → fa_first (fun k => decide (F k = lN V)) m = fa_first (fun k => decide (f k = V)) m := fun m => by
    induction m with
    | zero => exact fun _ => rfl
    | succ m ih =>
      intro hm
      rw [fa_first, fa_first, ih (by omega), e m (by omega)]
  unfold a_fN a_fi
  rw [this n (Nat.le_refl n)]
theorem x_testNamed {h : z_T} {bo n : Nat} (B : xBs h bo) (hn : z_I h bo 1 = nI n) (h8 : n ≤ 8) (v : Int64) : fX0_testNamed bo v h = some (a_fN (z_L h (bo + 2)) n v) := by
  refine p_of ?_
  unfold fX0_testNamed fX0_testNamed_b2
  refine p_for n (fun j w => w = nI j ∧ ∀ i, i < j → decide (z_L h (bo + 2) i = v) = false) ?_ ?_ 0 (by omega) ⟨rfl, fun i hi => absurd hi (Nat.not_lt_zero _)⟩
  · rintro j w hj ⟨rfl, g⟩
    unfold fX0_testNamed_b2_i
    simp (disch := first | assumption | omega) only [p_some, p_gd, p_br, p_bi, p_nm, p_mp, p_Sl, p_Sr, p_bis, p_gdt, q_IL, q_IR, q_LI, q_LR, q_RI, q_RL, q_KI, q_KL, q_KR, q_NI, q_NL, q_NR, q_nI, q_nL, q_nR, q_okI, q_okL, q_okR, q_Ie, q_In, q_Le, q_Ln, SM_I, SM_L, s_c0, s_cg0, s_cl0, s_cge, s_cle, r_le, r_lt, r_eq, r_md, r_2, r_3, r_lit, r_litL, r_m1, nI_add, nI_1, nI_clamp, nI_leI, nI_ltI, nI_eq, pk_sub, q_ix, nI_l, lN_add, lN_mul, r_m1n, r_m1n', r_m1lt, r_m1nlt, r_m1le, r_m1nle, Nat.not_lt_zero, Nat.reduceEqDiff, Nat.reduceLT, Nat.reduceLeDiff, true_and, and_true, true_implies, false_implies, not_true_eq_false, not_false_eq_true, implies_true, and_self, ne_eq, decide_true, decide_false, Bool.not_true, Bool.not_false, if_true, if_false, reduceIte, xb_0, xb_1, xb_2, xb_3, xb_4, xb_5, xb_6, xb_7, xb_8, xb_9, xb_10, xb_11, xb_12, xb_13, xb_14, xb_15, xb_16, xb_17, xb_18, xb_19, xb_20, xb_21, xo_0, xo_1, xo_2, xo_3, xo_4, xo_5, xo_6, xo_7, xo_8, xo_9, xb_0 B, hn, show ¬ n ≤ j by omega, show ¬ 8 ≤ j by omega]
    refine ⟨fun q => ?_, fun q => ?_⟩
    · unfold a_fN
      rw [a_first_at hj (decide_eq_true q) g, if_pos hj]
    · exact fun i hi => by
        by_cases e : i = j
        · rw [e]; exact decide_eq_false q
        · exact g i (by omega)
  · rintro w ⟨rfl, g⟩
    unfold fX0_testNamed_b2_i
    simp (disch := first | assumption | omega) only [p_some, p_gd, p_br, p_bi, p_nm, p_mp, p_Sl, p_Sr, p_bis, p_gdt, q_IL, q_IR, q_LI, q_LR, q_RI, q_RL, q_KI, q_KL, q_KR, q_NI, q_NL, q_NR, q_nI, q_nL, q_nR, q_okI, q_okL, q_okR, q_Ie, q_In, q_Le, q_Ln, SM_I, SM_L, s_c0, s_cg0, s_cl0, s_cge, s_cle, r_le, r_lt, r_eq, r_md, r_2, r_3, r_lit, r_litL, r_m1, nI_add, nI_1, nI_clamp, nI_leI, nI_ltI, nI_eq, pk_sub, q_ix, nI_l, lN_add, lN_mul, r_m1n, r_m1n', r_m1lt, r_m1nlt, r_m1le, r_m1nle, Nat.not_lt_zero, Nat.reduceEqDiff, Nat.reduceLT, Nat.reduceLeDiff, true_and, and_true, true_implies, false_implies, not_true_eq_false, not_false_eq_true, implies_true, and_self, ne_eq, decide_true, decide_false, Bool.not_true, Bool.not_false, if_true, if_false, reduceIte, xb_0, xb_1, xb_2, xb_3, xb_4, xb_5, xb_6, xb_7, xb_8, xb_9, xb_10, xb_11, xb_12, xb_13, xb_14, xb_15, xb_16, xb_17, xb_18, xb_19, xb_20, xb_21, xo_0, xo_1, xo_2, xo_3, xo_4, xo_5, xo_6, xo_7, xo_8, xo_9, xb_0 B, hn, Nat.le_refl]
    unfold a_fN
    rw [if_neg]
    intro c
    have := fa_first_yes _ _ c
    rw [g _ c] at this
    exact absurd this (by decide)
theorem x_dreamNamed {h : z_T} {bo n : Nat} (B : xBs h bo) (hn : z_I h bo 2 = nI n) (h8 : n ≤ 6) (v : Int64) : fX0_dreamNamed bo v h = some (a_fN (z_L h (bo + 5)) n v) := by
  refine p_of ?_
  unfold fX0_dreamNamed fX0_dreamNamed_b2
  refine p_for n (fun j w => w = nI j ∧ ∀ i, i < j → decide (z_L h (bo + 5) i = v) = false) ?_ ?_ 0 (by omega) ⟨rfl, fun i hi => absurd hi (Nat.not_lt_zero _)⟩
  · rintro j w hj ⟨rfl, g⟩
    unfold fX0_dreamNamed_b2_i
    simp (disch := first | assumption | omega) only [p_some, p_gd, p_br, p_bi, p_nm, p_mp, p_Sl, p_Sr, p_bis, p_gdt, q_IL, q_IR, q_LI, q_LR, q_RI, q_RL, q_KI, q_KL, q_KR, q_NI, q_NL, q_NR, q_nI, q_nL, q_nR, q_okI, q_okL, q_okR, q_Ie, q_In, q_Le, q_Ln, SM_I, SM_L, s_c0, s_cg0, s_cl0, s_cge, s_cle, r_le, r_lt, r_eq, r_md, r_2, r_3, r_lit, r_litL, r_m1, nI_add, nI_1, nI_clamp, nI_leI, nI_ltI, nI_eq, pk_sub, q_ix, nI_l, lN_add, lN_mul, r_m1n, r_m1n', r_m1lt, r_m1nlt, r_m1le, r_m1nle, Nat.not_lt_zero, Nat.reduceEqDiff, Nat.reduceLT, Nat.reduceLeDiff, true_and, and_true, true_implies, false_implies, not_true_eq_false, not_false_eq_true, implies_true, and_self, ne_eq, decide_true, decide_false, Bool.not_true, Bool.not_false, if_true, if_false, reduceIte, xb_0, xb_1, xb_2, xb_3, xb_4, xb_5, xb_6, xb_7, xb_8, xb_9, xb_10, xb_11, xb_12, xb_13, xb_14, xb_15, xb_16, xb_17, xb_18, xb_19, xb_20, xb_21, xo_0, xo_1, xo_2, xo_3, xo_4, xo_5, xo_6, xo_7, xo_8, xo_9, xb_0 B, hn, show ¬ n ≤ j by omega, show ¬ 6 ≤ j by omega]
    refine ⟨fun q => ?_, fun q => ?_⟩
    · unfold a_fN
      rw [a_first_at hj (decide_eq_true q) g, if_pos hj]
    · exact fun i hi => by
        by_cases e : i = j
        · rw [e]; exact decide_eq_false q
        · exact g i (by omega)
  · rintro w ⟨rfl, g⟩
    unfold fX0_dreamNamed_b2_i
    simp (disch := first | assumption | omega) only [p_some, p_gd, p_br, p_bi, p_nm, p_mp, p_Sl, p_Sr, p_bis, p_gdt, q_IL, q_IR, q_LI, q_LR, q_RI, q_RL, q_KI, q_KL, q_KR, q_NI, q_NL, q_NR, q_nI, q_nL, q_nR, q_okI, q_okL, q_okR, q_Ie, q_In, q_Le, q_Ln, SM_I, SM_L, s_c0, s_cg0, s_cl0, s_cge, s_cle, r_le, r_lt, r_eq, r_md, r_2, r_3, r_lit, r_litL, r_m1, nI_add, nI_1, nI_clamp, nI_leI, nI_ltI, nI_eq, pk_sub, q_ix, nI_l, lN_add, lN_mul, r_m1n, r_m1n', r_m1lt, r_m1nlt, r_m1le, r_m1nle, Nat.not_lt_zero, Nat.reduceEqDiff, Nat.reduceLT, Nat.reduceLeDiff, true_and, and_true, true_implies, false_implies, not_true_eq_false, not_false_eq_true, implies_true, and_self, ne_eq, decide_true, decide_false, Bool.not_true, Bool.not_false, if_true, if_false, reduceIte, xb_0, xb_1, xb_2, xb_3, xb_4, xb_5, xb_6, xb_7, xb_8, xb_9, xb_10, xb_11, xb_12, xb_13, xb_14, xb_15, xb_16, xb_17, xb_18, xb_19, xb_20, xb_21, xo_0, xo_1, xo_2, xo_3, xo_4, xo_5, xo_6, xo_7, xo_8, xo_9, xb_0 B, hn, Nat.le_refl]
    unfold a_fN
    rw [if_neg]
    intro c
    have := fa_first_yes _ _ c
    rw [g _ c] at this
    exact absurd this (by decide)
theorem a_fi_c (f : Nat → Nat) (n V : Nat) : a_fi f n V = m1 ∨ ∃ k, k < n ∧ a_fi f n V = nI k := by
  unfold a_fi
  split
  · rename_i c
    exact Or.inr ⟨_, c, rfl⟩
  · exact Or.inl rfl
theorem x_testHere {by8 : Nat → Nat} {L lim : Nat} {h : z_T} {t : Nat × Nat × Nat × Nat} {bo n : Nat} {f : Nat → Nat} {Q : Int32 × z_T → Prop} (l : xL by8 L lim h t) (B : xBs h bo) (hn : z_I h bo 1 = nI n) (h8 : n ≤ 8) (hf : ∀ k, k < n → z_L h (bo + 2) k = lN (f k) ∧ f k < 32 ^ 7)
    (k0 : ∀ h' F, ((¬ a_kk t = 1 ∧ F = 1) ∨ (a_kk t = 1 ∧ a_fi f n t.2.1 = m1 ∧ F = 3)) → x_fr xGF h h' → xF h' (F, t.2.2.1) → Q (m1, h')) (k1 : ∀ k, a_kk t = 1 → k < n → a_fi f n t.2.1 = nI k → Q (nI k, h)) : p_W (fX6_testHere 13 bo h) Q := by
  have s := l.1
  obtain ⟨-, -, t2, -⟩ := l.2.2.1.k
  have tn := x_testNamed B hn h8 (z_L h 13 6)
  have nm := x_isName l
  unfold fX6_testHere
  simp (disch := first | assumption | omega) only [p_some, p_gd, p_br, p_bi, p_nm, p_mp, p_Sl, p_Sr, p_bis, p_gdt, Nat.not_lt_zero, Nat.reduceEqDiff, Nat.reduceLT, Nat.reduceLeDiff, true_and, and_true, true_implies, false_implies, not_true_eq_false, not_false_eq_true, implies_true, and_self, ne_eq, decide_true, decide_false, Bool.not_true, Bool.not_false, if_true, if_false, reduceIte, xk13 s, xb_0 B, tn, nm, r_lit, bI_0]
  refine ⟨fun q => ?_, fun q => ?_⟩
  · refine x_fail l (fun h1 f1 b1 => ?_)
    exact k0 h1 1 (Or.inl ⟨q, rfl⟩) f1 b1
  · have q' := Classical.not_not.mp q
    have c2 : t.1 = 2 := by
      refine Classical.byContradiction (fun z => ?_)
      unfold a_kk at q'
      rw [if_neg z] at q'
      omega
    obtain ⟨g1, g2, g3, g4⟩ := t2 c2
    have e : a_fN (z_L h (bo + 2)) n (z_L h 13 6) = a_fi f n t.2.1 := by rw [g1]; exact a_fN_fi hf g3
    rw [e]
    rcases a_fi_c f n t.2.1 with c | ⟨k, hk, c⟩
    · rw [c]
      refine p_br.mpr ⟨fun _ => ?_, fun z => absurd rfl z⟩
      simp (disch := first | assumption | omega) only [p_some, p_gd, p_br, p_bi, p_nm, p_mp, p_Sl, p_Sr, p_bis, p_gdt, Nat.not_lt_zero, Nat.reduceEqDiff, Nat.reduceLT, Nat.reduceLeDiff, true_and, and_true, true_implies, false_implies, not_true_eq_false, not_false_eq_true, implies_true, and_self, ne_eq, decide_true, decide_false, Bool.not_true, Bool.not_false, if_true, if_false, reduceIte, r_lit]
      refine x_fail l (fun h1 f1 b1 => ?_)
      exact k0 h1 3 (Or.inr ⟨q', c, rfl⟩) f1 b1
    · rw [c]
      refine p_br.mpr ⟨fun z => absurd z (r_neg1 (by omega)), fun _ => p_some.mpr (k1 k q' hk c)⟩
theorem x_dreamHere {by8 : Nat → Nat} {L lim : Nat} {h : z_T} {t : Nat × Nat × Nat × Nat} {bo n : Nat} {f : Nat → Nat} {Q : Int32 × z_T → Prop} (l : xL by8 L lim h t) (B : xBs h bo) (hn : z_I h bo 2 = nI n) (h8 : n ≤ 6) (hf : ∀ k, k < n → z_L h (bo + 5) k = lN (f k) ∧ f k < 32 ^ 7)
    (k0 : ∀ h' F, ((¬ a_kk t = 1 ∧ F = 1) ∨ (a_kk t = 1 ∧ a_fi f n t.2.1 = m1 ∧ F = 3)) → x_fr xGF h h' → xF h' (F, t.2.2.1) → Q (m1, h')) (k1 : ∀ k, a_kk t = 1 → k < n → a_fi f n t.2.1 = nI k → Q (nI k, h)) : p_W (fX6_dreamHere 13 bo h) Q := by
  have s := l.1
  obtain ⟨-, -, t2, -⟩ := l.2.2.1.k
  have tn := x_dreamNamed B hn h8 (z_L h 13 6)
  have nm := x_isName l
  unfold fX6_dreamHere
  simp (disch := first | assumption | omega) only [p_some, p_gd, p_br, p_bi, p_nm, p_mp, p_Sl, p_Sr, p_bis, p_gdt, Nat.not_lt_zero, Nat.reduceEqDiff, Nat.reduceLT, Nat.reduceLeDiff, true_and, and_true, true_implies, false_implies, not_true_eq_false, not_false_eq_true, implies_true, and_self, ne_eq, decide_true, decide_false, Bool.not_true, Bool.not_false, if_true, if_false, reduceIte, xk13 s, xb_0 B, tn, nm, r_lit, bI_0]
  refine ⟨fun q => ?_, fun q => ?_⟩
  · refine x_fail l (fun h1 f1 b1 => ?_)
    exact k0 h1 1 (Or.inl ⟨q, rfl⟩) f1 b1
  · have q' := Classical.not_not.mp q
    have c2 : t.1 = 2 := by
      refine Classical.byContradiction (fun z => ?_)
      unfold a_kk at q'
      rw [if_neg z] at q'
      omega
    obtain ⟨g1, g2, g3, g4⟩ := t2 c2
    have e : a_fN (z_L h (bo + 5)) n (z_L h 13 6) = a_fi f n t.2.1 := by rw [g1]; exact a_fN_fi hf g3
    rw [e]
    rcases a_fi_c f n t.2.1 with c | ⟨k, hk, c⟩
    · rw [c]
      refine p_br.mpr ⟨fun _ => ?_, fun z => absurd rfl z⟩
      simp (disch := first | assumption | omega) only [p_some, p_gd, p_br, p_bi, p_nm, p_mp, p_Sl, p_Sr, p_bis, p_gdt, Nat.not_lt_zero, Nat.reduceEqDiff, Nat.reduceLT, Nat.reduceLeDiff, true_and, and_true, true_implies, false_implies, not_true_eq_false, not_false_eq_true, implies_true, and_self, ne_eq, decide_true, decide_false, Bool.not_true, Bool.not_false, if_true, if_false, reduceIte, r_lit]
      refine x_fail l (fun h1 f1 b1 => ?_)
      exact k0 h1 3 (Or.inr ⟨q', c, rfl⟩) f1 b1
    · rw [c]
      refine p_br.mpr ⟨fun z => absurd z (r_neg1 (by omega)), fun _ => p_some.mpr (k1 k q' hk c)⟩
