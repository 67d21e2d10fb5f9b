/-! the class chooses: a state's cost, with what is known -/
def a_ub (bk : Nat → Nat) (y : Nat) : Int32 := if bk 5 * a_q bk y 0 < bk 6 * a_q1 bk y 6 then nI 0 else nI 1
def xKy (h : z_T) (bk : Nat → Nat) (n y : Nat) : Prop := a_aq y 6 ≤ n ∧ z_L h 75 y = lN (a_V bk (n - a_aq y 6) y).1 ∧ z_I h 76 y = a_cI (a_V bk (n - a_aq y 6) y).2 ∧ z_I h 77 y = a_ub bk y ∧ ((a_V bk (n - a_aq y 6) y).2 = 6 ∨ (¬ z_I h 78 (y + 3 ^ (a_V bk (n - a_aq y 6) y).2) = nI 0 ∧ ¬ z_I h 78 (y + 2 * 3 ^ (a_V bk (n - a_aq y 6) y).2) = nI 0))
/-- what is known stays known -/
def xMk (h h' : z_T) : Prop := ∀ y, ¬ z_I h 78 y = nI 0 → ¬ z_I h' 78 y = nI 0
def xKI (h : z_T) (bk : Nat → Nat) (n : Nat) : Prop := ∀ y, y < 729 → ¬ z_I h 78 y = nI 0 → xKy h bk n y
def xCc (a o k : Nat) : Prop := o < 71 + a ∨ 79 ≤ o
def xRw (h : z_T) (bk : Nat → Nat) (y : Nat) : Prop := ∀ q, q < 7 → z_L h (70 + a_aq y 6) q = lN (a_q bk y q)
theorem xPl.fr {C : Nat → Nat → Prop} {h h' : z_T} {bo : Nat} {bk : Nat → Nat} (P : xPl h bo bk) (s : SX h) (f : x_fr C h h') (h1 : C 68 5) (h2 : ∀ j k, j < 8 → C (bo + j) k) : xPl h' bo bk := by
  have h0 := s.1
  exact ⟨(f.R 68 5 (by omega) h1).trans P.1, P.2.1.fr f P.2.2 h2, P.2.2⟩
def xIH (rc : Nat → Int32 → Int32 → Int32 → z_T → Option z_T) (bo : Nat) (bk : Nat → Nat) (n r : Nat) : Prop :=
  ∀ (h : z_T) (y : Nat) (Q : z_T → Prop), a_aq y 6 + r = n → y < 729 → SX h → xPl h bo bk → xRw h bk y → xKI h bk n →
    (∀ h', x_fr (xCc (a_aq y 6)) h h' → xKI h' bk n → xMk h h' → ¬ z_I h' 78 y = nI 0 → Q h') → p_W (rc 68 (nI y) (nI (a_mk y)) (nI r) h) Q
theorem x_behind {h : z_T} {x t e : Nat} (ht : t < 6) (he : e = 1 ∨ e = 0) : fX5_behind (nI x) (nI t) (nI e) h = some (nI (x + (if e = 1 then 1 else 2) * 3 ^ t)) := by
  have hu : z_unit t = nI (3 ^ t) := by
    have : ∀ t, t < 6 → z_unit t = nI (3 ^ t) := by decide
    exact this t ht
  refine p_of ?_
  unfold fX5_behind fX5_behind_b20 fX5_behind_b21
  generalize 3 ^ t = P at *
  simp (disch := first | assumption | omega) only [p_some, p_gd, p_br, p_bi, p_nm, p_mp, p_Sl, p_Sr, p_bis, p_gdt, q_IL, q_IR, q_LI, q_LR, q_RI, q_RL, q_KI, q_KL, q_KR, q_NI, q_NL, q_NR, q_nI, q_nL, q_nR, q_okI, q_okL, q_okR, q_Ie, q_In, q_Le, q_Ln, SM_I, SM_L, s_c0, s_cg0, s_cl0, s_cge, s_cle, r_le, r_lt, r_eq, r_md, r_2, r_3, r_lit, r_litL, r_m1, nI_add, nI_1, nI_clamp, nI_leI, nI_ltI, nI_eq, pk_sub, q_ix, nI_l, lN_add, lN_mul, r_m1n, r_m1n', r_m1lt, r_m1nlt, r_m1le, r_m1nle, Nat.not_lt_zero, Nat.reduceEqDiff, Nat.reduceLT, Nat.reduceLeDiff, true_and, and_true, true_implies, false_implies, not_true_eq_false, not_false_eq_true, implies_true, and_self, ne_eq, decide_true, decide_false, Bool.not_true, Bool.not_false, if_true, if_false, reduceIte, hu, show ¬ 6 ≤ t by omega, pk_mul]
  refine ⟨fun c => ?_, fun c => ?_⟩
  · rw [if_pos c, Nat.one_mul]
  · rw [if_neg c]
theorem x_isState {x : Nat} (hx : x < 729) : fX5_isState (nI x) = some (nI 1) := by
  refine p_of ?_
  unfold fX5_isState fX5_isState_b15
  simp (disch := first | assumption | omega) only [p_some, p_gd, p_br, p_bi, p_nm, p_mp, p_Sl, p_Sr, p_bis, p_gdt, q_IL, q_IR, q_LI, q_LR, q_RI, q_RL, q_KI, q_KL, q_KR, q_NI, q_NL, q_NR, q_nI, q_nL, q_nR, q_okI, q_okL, q_okR, q_Ie, q_In, q_Le, q_Ln, SM_I, SM_L, s_c0, s_cg0, s_cl0, s_cge, s_cle, r_le, r_lt, r_eq, r_md, r_2, r_3, r_lit, r_litL, r_m1, nI_add, nI_1, nI_clamp, nI_leI, nI_ltI, nI_eq, pk_sub, q_ix, nI_l, lN_add, lN_mul, r_m1n, r_m1n', r_m1lt, r_m1nlt, r_m1le, r_m1nle, Nat.not_lt_zero, Nat.reduceEqDiff, Nat.reduceLT, Nat.reduceLeDiff, true_and, and_true, true_implies, false_implies, not_true_eq_false, not_false_eq_true, implies_true, and_self, ne_eq, decide_true, decide_false, Bool.not_true, Bool.not_false, if_true, if_false, reduceIte, show ¬ 729 ≤ x by omega]
theorem x_costBehind {rc : Nat → Int32 → Int32 → Int32 → z_T → Option z_T} {h : z_T} {bo n r x t e : Nat} {bk : Nat → Nat} {Q : Int64 × z_T → Prop} (IH : xIH rc bo bk n r) (s : SX h) (b : BOK bk) (P : xPl h bo bk) (hn : n ≤ 4) (hx : x < 729) (har : a_aq x 6 + (r + 1) = n) (ht : t < 6) (hd0 : a_dg x t = 0) (he : e = 1 ∨ e = 0) (R : xRw h bk x) (K : xKI h bk n)
    (k : ∀ h', x_fr (xCc (a_aq x 6)) h h' → xKI h' bk n → xMk h h' → ¬ z_I h' 78 (x + (if e = 1 then 1 else 2) * 3 ^ t) = nI 0 → Q (lN (a_V bk r (x + (if e = 1 then 1 else 2) * 3 ^ t)).1, h')) : p_W (fX5_costBehind rc 68 (nI x) (nI (a_mk x)) (nI (r + 1)) (nI t) (nI e) h) Q := by
  have h0 := s.1
  obtain ⟨g1, g2, g3⟩ := a_go x hx t ht hd0
  obtain ⟨d1, d2⟩ := a_go2 x hx t ht hd0
  have p30 : 0 < 3 ^ t := Nat.pow_pos (by decide)
  have hb := x_behind (h := h) (x := x) ht he
  have hy : x + (if e = 1 then 1 else 2) * 3 ^ t < 729 := by
    rcases he with e1 | e1 <;> subst e1
    · rw [if_pos rfl]; omega
    · rw [if_neg (by decide)]; exact g1
  have hdy : ∀ i, i < 6 → a_dg (x + (if e = 1 then 1 else 2) * 3 ^ t) i = if i = t then (if e = 1 then 1 else 2) else a_dg x i := by
    rcases he with e1 | e1 <;> subst e1
    · rw [if_pos rfl, Nat.one_mul]; exact d1
    · rw [if_neg (by decide)]; exact d2
  have hay : a_aq (x + (if e = 1 then 1 else 2) * 3 ^ t) 6 = a_aq x 6 + 1 := by
    rcases he with e1 | e1 <;> subst e1
    · rw [if_pos rfl, Nat.one_mul]; exact g2
    · rw [if_neg (by decide)]; exact g3
  have hne : ¬ (if e = 1 then 1 else 2) = 0 := by split <;> omega
  have hF : ∀ q, a_F bk q t (if e = 1 then 1 else 2) = a_F bk q t e := fun q => by
    rcases he with e1 | e1 <;> subst e1 <;> rfl
  have hmk := a_mk_go ht hne hdy
  have hqy : ∀ q, a_q bk (x + (if e = 1 then 1 else 2) * 3 ^ t) q = a_q bk x q * a_F bk q t e := fun q => by rw [a_q_go ht hd0 hne hdy, hF]
  generalize x + (if e = 1 then 1 else 2) * 3 ^ t = y at *
  have hfin : ∀ h3, x_fr (xCc (a_aq x 6)) h h3 → xKI h3 bk n → xMk h h3 → ¬ z_I h3 78 y = nI 0 → p_W (fX5_costBehind_b57 rc 68 (nI y) h3) Q := fun h3 f3 K3 M3 k3 => by
    have s3 := f3.s s
    obtain ⟨q1, q2, -, -, -⟩ := K3 y hy k3
    rw [hay, show n - (a_aq x 6 + 1) = r by omega] at q2
    have kk := k h3 f3 K3 M3 k3
    unfold fX5_costBehind_b57
    generalize (a_V bk r y).1 = V at *
    simp (disch := first | assumption | omega) only [p_some, p_gd, p_br, p_bi, p_nm, p_mp, p_Sl, p_Sr, p_bis, p_gdt, q_IL, q_IR, q_LI, q_LR, q_RI, q_RL, q_KI, q_KL, q_KR, q_NI, q_NL, q_NR, q_nI, q_nL, q_nR, q_okI, q_okL, q_okR, q_Ie, q_In, q_Le, q_Ln, SM_I, SM_L, s_c0, s_cg0, s_cl0, s_cge, s_cle, r_le, r_lt, r_eq, r_md, r_2, r_3, r_lit, r_litL, r_m1, nI_add, nI_1, nI_clamp, nI_leI, nI_ltI, nI_eq, pk_sub, q_ix, nI_l, lN_add, lN_mul, r_m1n, r_m1n', r_m1lt, r_m1nlt, r_m1le, r_m1nle, Nat.not_lt_zero, Nat.reduceEqDiff, Nat.reduceLT, Nat.reduceLeDiff, true_and, and_true, true_implies, false_implies, not_true_eq_false, not_false_eq_true, implies_true, and_self, ne_eq, decide_true, decide_false, Bool.not_true, Bool.not_false, if_true, if_false, reduceIte, xb_0, xb_1, xb_2, xb_3, xb_4, xb_5, xb_6, xb_7, xb_8, xb_9, xb_10, xb_11, xb_12, xb_13, xb_14, xb_15, xb_16, xb_17, xb_18, xb_19, xb_20, xb_21, xo_0, xo_1, xo_2, xo_3, xo_4, xo_5, xo_6, xo_7, xo_8, xo_9, xk68 s3, xr68_1 s3, xk75 s3, xn75 s3, q2]
    exact kk
  have hpc := a_mk_pc x hx
  have hml := a_mk_lt (x := x)
  have bc := x_bits (a_mk x) (by omega)
  rw [hpc] at bc
  unfold fX5_costBehind
  simp (disch := first | assumption | omega) only [p_some, p_gd, p_br, p_bi, p_nm, p_mp, p_Sl, p_Sr, p_bis, p_gdt, q_IL, q_IR, q_LI, q_LR, q_RI, q_RL, q_KI, q_KL, q_KR, q_NI, q_NL, q_NR, q_nI, q_nL, q_nR, q_okI, q_okL, q_okR, q_Ie, q_In, q_Le, q_Ln, SM_I, SM_L, s_c0, s_cg0, s_cl0, s_cge, s_cle, r_le, r_lt, r_eq, r_md, r_2, r_3, r_lit, r_litL, r_m1, nI_add, nI_1, nI_clamp, nI_leI, nI_ltI, nI_eq, pk_sub, q_ix, nI_l, lN_add, lN_mul, r_m1n, r_m1n', r_m1lt, r_m1nlt, r_m1le, r_m1nle, Nat.not_lt_zero, Nat.reduceEqDiff, Nat.reduceLT, Nat.reduceLeDiff, true_and, and_true, true_implies, false_implies, not_true_eq_false, not_false_eq_true, implies_true, and_self, ne_eq, decide_true, decide_false, Bool.not_true, Bool.not_false, if_true, if_false, reduceIte, xb_0, xb_1, xb_2, xb_3, xb_4, xb_5, xb_6, xb_7, xb_8, xb_9, xb_10, xb_11, xb_12, xb_13, xb_14, xb_15, xb_16, xb_17, xb_18, xb_19, xb_20, xb_21, xo_0, xo_1, xo_2, xo_3, xo_4, xo_5, xo_6, xo_7, xo_8, xo_9, hb, x_isState hy, xk68 s, xr68_4 s, xk78 s, xn78 s]
  refine ⟨fun c => ?_, fun c => hfin h x_fr.rf K (fun _ q => q) c⟩
  simp (disch := first | assumption | omega) only [p_some, p_gd, p_br, p_bi, p_nm, p_mp, p_Sl, p_Sr, p_bis, p_gdt, q_IL, q_IR, q_LI, q_LR, q_RI, q_RL, q_KI, q_KL, q_KR, q_NI, q_NL, q_NR, q_nI, q_nL, q_nR, q_okI, q_okL, q_okR, q_Ie, q_In, q_Le, q_Ln, SM_I, SM_L, s_c0, s_cg0, s_cl0, s_cge, s_cle, r_le, r_lt, r_eq, r_md, r_2, r_3, r_lit, r_litL, r_m1, nI_add, nI_1, nI_clamp, nI_leI, nI_ltI, nI_eq, pk_sub, q_ix, nI_l, lN_add, lN_mul, r_m1n, r_m1n', r_m1lt, r_m1nlt, r_m1le, r_m1nle, Nat.not_lt_zero, Nat.reduceEqDiff, Nat.reduceLT, Nat.reduceLeDiff, true_and, and_true, true_implies, false_implies, not_true_eq_false, not_false_eq_true, implies_true, and_self, ne_eq, decide_true, decide_false, Bool.not_true, Bool.not_false, if_true, if_false, reduceIte, xb_0, xb_1, xb_2, xb_3, xb_4, xb_5, xb_6, xb_7, xb_8, xb_9, xb_10, xb_11, xb_12, xb_13, xb_14, xb_15, xb_16, xb_17, xb_18, xb_19, xb_20, xb_21, xo_0, xo_1, xo_2, xo_3, xo_4, xo_5, xo_6, xo_7, xo_8, xo_9, bc]
  refine x_goOn s b P (show a_aq x 6 < 4 by omega) (show t < 8 by omega) he R (fun h1 f1 w1 => ?_)
  have s1 := f1.s s
  have P1 := P.fr s f1 (by omega) (fun j k hj => by have := P.2.2; omega)
  have R1 : xRw h1 bk y := fun q hq => by
    rw [hay, show 70 + (a_aq x 6 + 1) = 71 + a_aq x 6 by omega, w1 q hq, hqy q]
  have K1 : xKI h1 bk n := fun z hz hk => by
    rw [f1.I 78 z (by omega) (by omega)] at hk
    obtain ⟨a1, a2, a3, a4, a5⟩ := K z hz hk
    refine ⟨a1, (f1.L 75 z (by omega) (by omega)).trans a2, (f1.I 76 z (by omega) (by omega)).trans a3, (f1.I 77 z (by omega) (by omega)).trans a4, ?_⟩
    rw [f1.I 78 _ (by omega) (by omega), f1.I 78 _ (by omega) (by omega)]
    exact a5
  have ih := IH h1 y (fun h3 => p_W (fX5_costBehind_b57 rc 68 (nI y) h3) Q) (by omega) hy s1 P1 R1 K1 (fun h3 f3 K3 M3 k3 => hfin h3 ((f1.w (fun o k _ c => by unfold xCc at c; omega)).tr (f3.w (fun o k _ c => by unfold xCc at c ⊢; omega))) K3 (fun z hz => M3 z (by rw [f1.I 78 z (by omega) (by omega)]; exact hz)) k3)
  rw [hmk] at ih
  simp (disch := first | assumption | omega) only [p_some, p_gd, p_br, p_bi, p_nm, p_mp, p_Sl, p_Sr, p_bis, p_gdt, Nat.not_lt_zero, Nat.reduceEqDiff, Nat.reduceLT, Nat.reduceLeDiff, true_and, and_true, true_implies, false_implies, not_true_eq_false, not_false_eq_true, implies_true, and_self, ne_eq, decide_true, decide_false, Bool.not_true, Bool.not_false, if_true, if_false, reduceIte, r_shl, fa_or, pk_sub, nI_1, r_lit]
  exact ⟨xk68 s1, ih⟩
