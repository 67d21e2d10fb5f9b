/-! write: the reference's stack, the class's way -/
def mNm (h : z_T) (bk nm : Nat → Nat) : Prop := (∀ t, t < bk 0 → z_L h 5 t = lN (a_c8 7 (nm t))) ∧ ∀ d, d < bk 1 → z_L h 5 (8 + d) = lN (a_c8 7 (nm (8 + d)))
def xNm (h : z_T) (bo : Nat) (bk nm : Nat → Nat) : Prop := (∀ t, t < bk 0 → z_L h (bo + 2) t = lN (nm t)) ∧ ∀ d, d < bk 1 → z_L h (bo + 5) d = lN (nm (8 + d))
def NMO (bk nm : Nat → Nat) : Prop := (∀ t, t < bk 0 → 0 < nm t ∧ nm t < 32 ^ 7) ∧ ∀ d, d < bk 1 → 0 < nm (8 + d) ∧ nm (8 + d) < 32 ^ 7
def a_lw (bk : Nat → Nat) (x : Nat) : List Nat := if bk 5 * a_q bk x 0 < bk 6 * a_q1 bk x 6 then [98, 101, 100] else [117, 112]
def a_wt (bk nm : Nat → Nat) : Nat → Nat → List Nat
  | 0, x => a_lw bk x
  | r + 1, x => if (a_V bk (r + 1) x).2 = 6 then a_lw bk x else a_nt (nm (a_V bk (r + 1) x).2) ++ [32, 40, 32] ++ a_wt bk nm r (x + 3 ^ (a_V bk (r + 1) x).2) ++ [32, 59, 32] ++ a_wt bk nm r (x + 2 * 3 ^ (a_V bk (r + 1) x).2) ++ [32, 41]
def a_wl : Nat → Nat
  | 0 => 3
  | r + 1 => 2 * a_wl r + 15
theorem a_lw_len {bk : Nat → Nat} {x : Nat} : (a_lw bk x).length ≤ 3 := by
  unfold a_lw
  split
  · exact Nat.le_refl _
  · show 2 ≤ 3
    omega
theorem a_wl3 : ∀ r, 3 ≤ a_wl r
  | 0 => Nat.le_refl _
  | r + 1 => by have := a_wl3 r; rw [a_wl]; omega
theorem a_wt_len {bk nm : Nat → Nat} : ∀ r x, (a_wt bk nm r x).length ≤ a_wl r
  | 0, x => a_lw_len
  | r + 1, x => by
    have h1 := a_wt_len (bk := bk) (nm := nm) r (x + 3 ^ (a_V bk (r + 1) x).2)
    have h2 := a_wt_len (bk := bk) (nm := nm) r (x + 2 * 3 ^ (a_V bk (r + 1) x).2)
    have h3 := a_lw_len (bk := bk) (x := x)
    have h4 : (a_nt (nm (a_V bk (r + 1) x).2)).length ≤ 7 := a_ew_len
    rw [a_wt, a_wl]
    split
    · omega
    · simp only [List.length_append, List.length_cons, List.length_nil]
      omega
theorem a_fd_6 {f : Nat → Nat} {x v0 : Nat} : ∀ i, (a_fd f x v0 i).2 = 6 ∨ ((a_fd f x v0 i).2 < i ∧ a_dg x (a_fd f x v0 i).2 = 0)
  | 0 => Or.inl rfl
  | i + 1 => by
    have ih := a_fd_6 (f := f) (x := x) (v0 := v0) i
    rw [a_fd_s]
    split
    · rename_i c
      exact Or.inr ⟨Nat.lt_succ_self _, c.1⟩
    · exact ih.imp id (fun q => ⟨by omega, q.2⟩)
theorem a_V_6 {bk : Nat → Nat} {r x : Nat} : (a_V bk r x).2 = 6 ∨ ((a_V bk r x).2 < bk 0 ∧ a_dg x (a_V bk r x).2 = 0) := by
  cases r with
  | zero => exact Or.inl rfl
  | succ r => exact a_fd_6 _
def xCw (a k : Nat) : Prop := a ≠ 12 ∧ (a ≠ 11 ∨ k ≠ 1)
theorem xKI.fr {C : Nat → Nat → Prop} {h h' : z_T} {bk : Nat → Nat} {n : Nat} (K : xKI h bk n) (s : SX h) (f : x_fr C h h') (h1 : ∀ o k, 75 ≤ o → o < 79 → C o k) : xKI h' bk n := fun y hy hk => by
  have h0 := s.1
  rw [f.I 78 y (by omega) (h1 _ _ (by omega) (by omega))] at hk
  obtain ⟨a1, a2, a3, a4, a5⟩ := K y hy hk
  refine ⟨a1, (f.L 75 y (by omega) (h1 _ _ (by omega) (by omega))).trans a2, (f.I 76 y (by omega) (h1 _ _ (by omega) (by omega))).trans a3, (f.I 77 y (by omega) (h1 _ _ (by omega) (by omega))).trans a4, ?_⟩
  rw [f.I 78 _ (by omega) (h1 _ _ (by omega) (by omega)), f.I 78 _ (by omega) (h1 _ _ (by omega) (by omega))]
  exact a5
theorem x_nameOf {h : z_T} {bo t : Nat} {nm : Nat → Nat} (s : xBs h bo) (ht : t < 8) (e : z_L h (bo + 2) t = lN (nm t)) : fX0_nameOf bo (nI t) h = some (lN (nm t)) := by
  refine p_of ?_
  unfold fX0_nameOf fX0_nameOf_b22
  simp (disch := first | assumption | omega) only [p_some, p_gd, p_br, p_bi, p_nm, p_mp, p_Sl, p_Sr, p_bis, p_gdt, q_IL, q_IR, q_LI, q_LR, q_RI, q_RL, q_KI, q_KL, q_KR, q_NI, q_NL, q_NR, q_nI, q_nL, q_nR, q_okI, q_okL, q_okR, q_Ie, q_In, q_Le, q_Ln, SM_I, SM_L, s_c0, s_cg0, s_cl0, s_cge, s_cle, r_le, r_lt, r_eq, r_md, r_2, r_3, r_lit, r_litL, r_m1, nI_add, nI_1, nI_clamp, nI_leI, nI_ltI, nI_eq, pk_sub, q_ix, nI_l, lN_add, lN_mul, r_m1n, r_m1n', r_m1lt, r_m1nlt, r_m1le, r_m1nle, Nat.not_lt_zero, Nat.reduceEqDiff, Nat.reduceLT, Nat.reduceLeDiff, true_and, and_true, true_implies, false_implies, not_true_eq_false, not_false_eq_true, implies_true, and_self, ne_eq, decide_true, decide_false, Bool.not_true, Bool.not_false, if_true, if_false, reduceIte, xb_0, xb_1, xb_2, xb_3, xb_4, xb_5, xb_6, xb_7, xb_8, xb_9, xb_10, xb_11, xb_12, xb_13, xb_14, xb_15, xb_16, xb_17, xb_18, xb_19, xb_20, xb_21, xo_0, xo_1, xo_2, xo_3, xo_4, xo_5, xo_6, xo_7, xo_8, xo_9, e, r_nlt0, show ¬ 8 ≤ t by omega]
theorem x_way {bo n : Nat} {bk nm : Nat → Nat} (b : BOK bk) (hn : n ≤ 4) (hb0 : bk 0 ≤ 6) (hM : NMO bk nm) (hb : bo = 1 ∨ 83 ≤ bo) : ∀ d r, r < d → ∀ (h : z_T) (x : Nat) (T : List Nat) (Q : z_T → Prop), a_aq x 6 + r = n → x < 729 → SX h → xPl h bo bk → xNm h bo bk nm → xKI h bk n → ¬ z_I h 78 x = nI 0 → xT h T → T.length + a_wl r + 10 ≤ 940 → (∀ h', x_fr xCt h h' → xT h' (T ++ a_wt bk nm r x) → Q h') → p_W (fX5_writeWay d 68 11 (nI x) (nI (a_aq x 6)) h) Q := by
  intro d
  induction d with
  | zero => exact fun r h => absurd h (Nat.not_lt_zero _)
  | succ d ih =>
    intro r hr h x T Q har hx s P N K hk X hL k
    obtain ⟨k1, k2, k3, k4, k5⟩ := K x hx hk
    have er : n - a_aq x 6 = r := by omega
    rw [er] at k2 k3 k5
    have w3 := a_wl3 r
    have leaf : (a_V bk r x).2 = 6 → a_wt bk nm r x = a_lw bk x := fun e => by
      cases r with
      | zero => rfl
      | succ r => rw [a_wt, if_pos e]
    show p_W (fX5_writeWay_s (fX5_writeWay d) 68 11 (nI x) (nI (a_aq x 6)) h) Q
    unfold fX5_writeWay_s
    by_cases c6 : (a_V bk r x).2 = 6
    · rw [leaf c6] at k
      rw [c6, show a_cI 6 = m1 from rfl] at k3
      unfold a_lw at k
      unfold a_ub at k4
      by_cases c : bk 5 * a_q bk x 0 < bk 6 * a_q1 bk x 6
      · rw [if_pos c] at k k4
        simp (disch := first | assumption | omega) only [p_some, p_gd, p_br, p_bi, p_nm, p_mp, p_Sl, p_Sr, p_bis, p_gdt, q_IL, q_IR, q_LI, q_LR, q_RI, q_RL, q_KI, q_KL, q_KR, q_NI, q_NL, q_NR, q_nI, q_nL, q_nR, q_okI, q_okL, q_okR, q_Ie, q_In, q_Le, q_Ln, SM_I, SM_L, s_c0, s_cg0, s_cl0, s_cge, s_cle, r_le, r_lt, r_eq, r_md, r_2, r_3, r_lit, r_litL, r_m1, nI_add, nI_1, nI_clamp, nI_leI, nI_ltI, nI_eq, pk_sub, q_ix, nI_l, lN_add, lN_mul, r_m1n, r_m1n', r_m1lt, r_m1nlt, r_m1le, r_m1nle, Nat.not_lt_zero, Nat.reduceEqDiff, Nat.reduceLT, Nat.reduceLeDiff, true_and, and_true, true_implies, false_implies, not_true_eq_false, not_false_eq_true, implies_true, and_self, ne_eq, decide_true, decide_false, Bool.not_true, Bool.not_false, if_true, if_false, reduceIte, xb_0, xb_1, xb_2, xb_3, xb_4, xb_5, xb_6, xb_7, xb_8, xb_9, xb_10, xb_11, xb_12, xb_13, xb_14, xb_15, xb_16, xb_17, xb_18, xb_19, xb_20, xb_21, xo_0, xo_1, xo_2, xo_3, xo_4, xo_5, xo_6, xo_7, xo_8, xo_9, x_isState hx, xk68 s, xr68_2 s, xk76 s, xn76 s, k3, xr68_3 s, xk77 s, xn77 s, k4, xk11 s, show a_aq x 6 ≤ 4 by omega]
        exact x_putText (bs := [98, 101, 100]) (by decide) rfl s_tx1 (by decide) s X (by omega) (fun h1 f1 X1 => k h1 f1 X1)
      · rw [if_neg c] at k k4
        simp (disch := first | assumption | omega) only [p_some, p_gd, p_br, p_bi, p_nm, p_mp, p_Sl, p_Sr, p_bis, p_gdt, q_IL, q_IR, q_LI, q_LR, q_RI, q_RL, q_KI, q_KL, q_KR, q_NI, q_NL, q_NR, q_nI, q_nL, q_nR, q_okI, q_okL, q_okR, q_Ie, q_In, q_Le, q_Ln, SM_I, SM_L, s_c0, s_cg0, s_cl0, s_cge, s_cle, r_le, r_lt, r_eq, r_md, r_2, r_3, r_lit, r_litL, r_m1, nI_add, nI_1, nI_clamp, nI_leI, nI_ltI, nI_eq, pk_sub, q_ix, nI_l, lN_add, lN_mul, r_m1n, r_m1n', r_m1lt, r_m1nlt, r_m1le, r_m1nle, Nat.not_lt_zero, Nat.reduceEqDiff, Nat.reduceLT, Nat.reduceLeDiff, true_and, and_true, true_implies, false_implies, not_true_eq_false, not_false_eq_true, implies_true, and_self, ne_eq, decide_true, decide_false, Bool.not_true, Bool.not_false, if_true, if_false, reduceIte, xb_0, xb_1, xb_2, xb_3, xb_4, xb_5, xb_6, xb_7, xb_8, xb_9, xb_10, xb_11, xb_12, xb_13, xb_14, xb_15, xb_16, xb_17, xb_18, xb_19, xb_20, xb_21, xo_0, xo_1, xo_2, xo_3, xo_4, xo_5, xo_6, xo_7, xo_8, xo_9, x_isState hx, xk68 s, xr68_2 s, xk76 s, xn76 s, k3, xr68_3 s, xk77 s, xn77 s, k4, xk11 s, show a_aq x 6 ≤ 4 by omega, show ¬ (1 : Nat) = 0 by decide]
        exact x_putText (bs := [117, 112]) (by decide) rfl s_tx0 (by decide) s X (by omega) (fun h1 f1 X1 => k h1 f1 X1)
    · cases r with
      | zero => exact absurd rfl c6
      | succ r =>
        have k5' := k5.resolve_left c6
        obtain ⟨v1, v2⟩ := (a_V_6 (bk := bk) (r := r + 1) (x := x)).resolve_left c6
        rw [a_wt, if_neg c6] at k
        rw [a_cI_n c6] at k3
        rw [a_wl] at hL
        generalize (a_V bk (r + 1) x).2 = t at *
        obtain ⟨g1, g2, g3⟩ := a_go x hx t (by omega) v2
        have p30 : 0 < 3 ^ t := Nat.pow_pos (by decide)
        have hnm := hM.1 t v1
        have hnl : (a_nt (nm t)).length ≤ 7 := a_ew_len
        have hw := a_wt_len (bk := bk) (nm := nm) r (x + 3 ^ t)
        have b1 := fun h' => x_behind (h := h') (x := x) (t := t) (e := 1) (by omega) (Or.inl rfl)
        have b0 := fun h' => x_behind (h := h') (x := x) (t := t) (e := 0) (by omega) (Or.inr rfl)
        simp only [if_pos, if_true, Nat.one_mul] at b1
        simp only [show ¬ (0 : Nat) = 1 by decide, if_false] at b0
        have B := P.2.1.1
        have r5 := P.1
        have nmo := x_nameOf (nm := nm) B (show t < 8 by omega) (N.1 t v1)
        have ih1 := ih r (by omega)
        have a1 : nI (a_aq x 6) + nI 1 = nI (a_aq (x + 3 ^ t) 6) := by rw [g2, nI_add]
        have a2 : nI (a_aq x 6) + nI 1 = nI (a_aq (x + 2 * 3 ^ t) 6) := by rw [g3, nI_add]
        have q2 : a_aq (x + 3 ^ t) 6 + r = n := by omega
        have q3 : a_aq (x + 2 * 3 ^ t) 6 + r = n := by omega
        have hx2 : x + 3 ^ t < 729 := by omega
        generalize x + 3 ^ t = y at *
        generalize x + 2 * 3 ^ t = z at *
        simp (disch := first | assumption | omega) only [p_some, p_gd, p_br, p_bi, p_nm, p_mp, p_Sl, p_Sr, p_bis, p_gdt, Nat.not_lt_zero, Nat.reduceEqDiff, Nat.reduceLT, Nat.reduceLeDiff, true_and, and_true, true_implies, false_implies, not_true_eq_false, not_false_eq_true, implies_true, and_self, ne_eq, decide_true, decide_false, Bool.not_true, Bool.not_false, if_true, if_false, reduceIte, x_isState hx, r_lit, nI_eq, xk68 s, xr68_2 s, xk76 s, xn76 s, q_ix, nI_clamp, k3, r_m1, r_m1n, r5, xb_0 B, nmo, xk11 s, nI_leI, show a_aq x 6 ≤ 4 by omega, show ¬ 1 = 0 by decide]
        refine x_putName s X (by omega) hnm.2 (fun h1 f1 X1 => ?_)
        have s1 := f1.s s
        have l1 : (T ++ a_nt (nm t)).length = T.length + (a_nt (nm t)).length := List.length_append
        simp (disch := first | assumption | omega) only [p_some, p_gd, p_br, p_bi, p_nm, p_mp, p_Sl, p_Sr, p_bis, p_gdt, Nat.not_lt_zero, Nat.reduceEqDiff, Nat.reduceLT, Nat.reduceLeDiff, true_and, and_true, true_implies, false_implies, not_true_eq_false, not_false_eq_true, implies_true, and_self, ne_eq, decide_true, decide_false, Bool.not_true, Bool.not_false, if_true, if_false, reduceIte, xk11 s1]
        refine x_putText (bs := [32, 40, 32]) (by decide) rfl s_tx2 (by decide) s1 X1 (by omega) (fun h2 f2 X2 => ?_)
        have s2 := f2.s s1
        have f12 := f1.tr f2
        have h0 := s.1
        have fC : ∀ o k, 13 ≤ o → xCt o k := fun o k c => by unfold xCt; omega
        have frB : ∀ j k, j < 8 → xCt (bo + j) k := fun j k hj => by unfold xCt; omega
        have bl2 := z_ok_lt (xb_4 B)
        have bl5 := z_ok_lt (xb_13 B)
        have frN : ∀ h', x_fr xCt h h' → xNm h' bo bk nm := fun h' f => ⟨fun t ht => (f.L (bo + 2) t bl2 (frB 2 t (by omega))).trans (N.1 t ht), fun t ht => (f.L (bo + 5) t bl5 (frB 5 t (by omega))).trans (N.2 t ht)⟩
        have frK : ∀ h', x_fr xCt h h' → xKI h' bk n := fun h' f => K.fr s f (fun o k c _ => fC o k (by omega))
        have l2 : (T ++ a_nt (nm t) ++ [32, 40, 32]).length = T.length + (a_nt (nm t)).length + 3 := by rw [List.length_append, l1]; rfl
        simp (disch := first | assumption | omega) only [p_some, p_gd, p_br, p_bi, p_nm, p_mp, p_Sl, p_Sr, p_bis, p_gdt, Nat.not_lt_zero, Nat.reduceEqDiff, Nat.reduceLT, Nat.reduceLeDiff, true_and, and_true, true_implies, false_implies, not_true_eq_false, not_false_eq_true, implies_true, and_self, ne_eq, decide_true, decide_false, Bool.not_true, Bool.not_false, if_true, if_false, reduceIte, b1, xk68 s2, r_lit]
        rw [a1]
        refine ih1 h2 y _ _ q2 hx2 s2 (P.fr s f12 (fC 68 5 (by omega)) frB) (frN h2 f12) (frK h2 f12) (by rw [f12.I 78 y (by omega) (fC _ _ (by omega))]; exact k5'.1) X2 (by omega) (fun h3 f3 X3 => ?_)
        have s3 := f3.s s2
        have l3 : (T ++ a_nt (nm t) ++ [32, 40, 32] ++ a_wt bk nm r y).length = T.length + (a_nt (nm t)).length + 3 + (a_wt bk nm r y).length := by rw [List.length_append, l2]
        simp (disch := first | assumption | omega) only [p_some, p_gd, p_br, p_bi, p_nm, p_mp, p_Sl, p_Sr, p_bis, p_gdt, Nat.not_lt_zero, Nat.reduceEqDiff, Nat.reduceLT, Nat.reduceLeDiff, true_and, and_true, true_implies, false_implies, not_true_eq_false, not_false_eq_true, implies_true, and_self, ne_eq, decide_true, decide_false, Bool.not_true, Bool.not_false, if_true, if_false, reduceIte, xk11 s3]
        refine x_putText (bs := [32, 59, 32]) (by decide) rfl s_tx3 (by decide) s3 X3 (by omega) (fun h4 f4 X4 => ?_)
        have s4 := f4.s s3
        have f14 := f12.tr (f3.tr f4)
        have l4 : (T ++ a_nt (nm t) ++ [32, 40, 32] ++ a_wt bk nm r y ++ [32, 59, 32]).length = T.length + (a_nt (nm t)).length + 3 + (a_wt bk nm r y).length + 3 := by rw [List.length_append, l3]; rfl
        simp (disch := first | assumption | omega) only [p_some, p_gd, p_br, p_bi, p_nm, p_mp, p_Sl, p_Sr, p_bis, p_gdt, Nat.not_lt_zero, Nat.reduceEqDiff, Nat.reduceLT, Nat.reduceLeDiff, true_and, and_true, true_implies, false_implies, not_true_eq_false, not_false_eq_true, implies_true, and_self, ne_eq, decide_true, decide_false, Bool.not_true, Bool.not_false, if_true, if_false, reduceIte, b0, xk68 s4, r_lit]
        rw [show nI (a_aq y 6) = nI (a_aq z 6) by rw [g2, g3]]
        refine ih1 h4 z _ _ q3 g1 s4 (P.fr s f14 (fC 68 5 (by omega)) frB) (frN h4 f14) (frK h4 f14) (by rw [f14.I 78 z (by omega) (fC _ _ (by omega))]; exact k5'.2) X4 (by omega) (fun h5 f5 X5 => ?_)
        have s5 := f5.s s4
        have hw2 := a_wt_len (bk := bk) (nm := nm) r z
        have l5 : (T ++ a_nt (nm t) ++ [32, 40, 32] ++ a_wt bk nm r y ++ [32, 59, 32] ++ a_wt bk nm r z).length = T.length + (a_nt (nm t)).length + 3 + (a_wt bk nm r y).length + 3 + (a_wt bk nm r z).length := by rw [List.length_append, l4]
        simp (disch := first | assumption | omega) only [p_some, p_gd, p_br, p_bi, p_nm, p_mp, p_Sl, p_Sr, p_bis, p_gdt, Nat.not_lt_zero, Nat.reduceEqDiff, Nat.reduceLT, Nat.reduceLeDiff, true_and, and_true, true_implies, false_implies, not_true_eq_false, not_false_eq_true, implies_true, and_self, ne_eq, decide_true, decide_false, Bool.not_true, Bool.not_false, if_true, if_false, reduceIte, xk11 s5]
        refine x_putText (bs := [32, 41]) (by decide) rfl s_tx4 (by decide) s5 X5 (by omega) (fun h6 f6 X6 => ?_)
        refine k h6 (f14.tr (f5.tr f6)) ?_
        simp only [List.append_assoc] at X6 ⊢
        exact X6
