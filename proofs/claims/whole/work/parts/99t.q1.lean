/-! the reference fills its costs from the full states down -/
def mCf (o k : Nat) : Prop := (o ≠ 0 ∨ (k ≠ 27 ∧ k ≠ 28)) ∧ o ≠ 10 ∧ o ≠ 11
def mKy (h : z_T) (bk : Nat → Nat) (n y : Nat) : Prop := z_L h 10 y = lN (a_V bk (n - a_aq y 6) y).1 ∧ z_I h 11 y = a_cI (a_V bk (n - a_aq y 6) y).2
def mKn (h : z_T) (bk : Nat → Nat) (n lev j : Nat) : Prop := ∀ y, y < 729 → a_aq y 6 ≤ n → (lev < a_aq y 6 ∨ (a_aq y 6 = lev ∧ y < j)) → mKy h bk n y
theorem a_V_s {bk : Nat → Nat} {d x : Nat} : a_V bk (d + 1) x = a_fd (fun y => (a_V bk d y).1) x (a_lf bk x * 9 ^ (d + 1)) (bk 0) := rfl
theorem a_V_0 {bk : Nat → Nat} {x : Nat} : a_V bk 0 x = (a_lf bk x * 9 ^ 0, 6) := rfl
theorem m_cbState {h : z_T} {bk : Nat → Nat} {n lev x : Nat} {Q : (Int32 × z_T) ⊕ ((Int32 × z_T) ⊕ z_T) → Prop} (s : SM h) (b : BOK bk) (hB : mB h bk) (hn : n ≤ 4) (hl : lev ≤ n) (hx : x < 729) (hb0 : bk 0 ≤ 6) (ha : a_aq x 6 = lev) (K : mKn h bk n lev x)
    (k : ∀ h', m_fr mCf h h' → mKn h' bk n lev (x + 1) → Q (.inl (nI (x + 1), h'))) : p_W (fX12_costsBy_b8_i 0 (nI n) (nI lev) (nI x) h) Q := by
  have ma := m_askedIn s hx
  rw [ha] at ma
  have q0 := a_q_le b (x := x) (q := 0) (by decide)
  have q1 := a_q1_le b (x := x)
  have h5 := b.2.2.2.2.2.1
  have h6 := b.2.2.2.2.2.2.1
  have v5 : bk 5 * a_q bk x 0 ≤ 99 * 10628820 := Nat.mul_le_mul h5 q0
  have v6 : bk 6 * a_q1 bk x 6 ≤ 99 * 63772920 := Nat.mul_le_mul h6 q1
  have ml : fX12_lesser (lN (bk 5 * a_q bk x 0)) (lN (bk 6 * a_q1 bk x 6)) = some (lN (a_lf bk x)) := m_lesser (by omega) (by omega)
  have vv : a_lf bk x * 9 ^ (n - lev) ≤ 6903833114000 := Nat.le_trans (Nat.mul_le_mul (a_lf_le b) (Nat.pow_le_pow_right (by decide) (show n - lev ≤ 4 by omega))) (by decide)
  have mp := m_power (a := 9) (n := n - lev) (by decide) (by omega)
  unfold fX12_costsBy_b8_i
  simp (disch := first | assumption | omega) only [p_some, p_gd, p_br, p_bi, p_nm, p_mp, p_Sl, p_Sr, p_bis, p_gdt, q_IL, q_IR, q_LI, q_LR, q_RI, q_RL, q_KI, q_KL, q_KR, q_NI, q_NL, q_NR, q_nI, q_nL, q_nR, q_okI, q_okL, q_okR, q_Ie, q_In, q_Le, q_Ln, SM_I, SM_L, s_c0, s_cg0, s_cl0, s_cge, s_cle, r_le, r_lt, r_eq, r_md, r_2, r_3, r_lit, r_litL, r_m1, nI_add, nI_1, nI_clamp, nI_leI, nI_ltI, nI_eq, pk_sub, q_ix, nI_l, lN_add, lN_mul, r_m1n, r_m1n', r_m1lt, r_m1nlt, r_m1le, r_m1nle, Nat.not_lt_zero, Nat.reduceEqDiff, Nat.reduceLT, Nat.reduceLeDiff, true_and, and_true, true_implies, false_implies, not_true_eq_false, not_false_eq_true, implies_true, and_self, ne_eq, decide_true, decide_false, Bool.not_true, Bool.not_false, if_true, if_false, reduceIte, mk0, mk1, mk2, mk3, mk4, mk5, mk6, mk7, mk8, mk9, mk10, mk11, mk12, mk13, mk14, mk15, mk16, mk17, mk18, mk19, mk20, mk21, mk22, mn1, mn2, mn3, mn4, mn5, mn6, mn7, mn8, mn9, mn10, mn11, mn12, mn13, mn14, mn15, mn16, mn17, mn18, mn19, mn20, mn21, mn22, mr1, mr6, mr7, mr8, mr9, mr10, mr21, mr22, mr23, mr25, mr26, mr29, mr30, mr32, mr33, mr34, mr43, mr47, mr53, mr54, mr55, mr56, ma, show ¬ 729 ≤ x by omega]
  refine m_weighs s b hB hx (fun h1 f1 g27 g28 => ?_)
  have s1 := f1.s s
  have hB1 : mB h1 bk := fun k hk => (f1.I 2 k (by unfold mWf; omega)).trans (hB k hk)
  have hB15 := hB1 5 (by decide)
  have hB16 := hB1 6 (by decide)
  simp (disch := first | assumption | omega) only [p_some, p_gd, p_br, p_bi, p_nm, p_mp, p_Sl, p_Sr, p_bis, p_gdt, q_IL, q_IR, q_LI, q_LR, q_RI, q_RL, q_KI, q_KL, q_KR, q_NI, q_NL, q_NR, q_nI, q_nL, q_nR, q_okI, q_okL, q_okR, q_Ie, q_In, q_Le, q_Ln, SM_I, SM_L, s_c0, s_cg0, s_cl0, s_cge, s_cle, r_le, r_lt, r_eq, r_md, r_2, r_3, r_lit, r_litL, r_m1, nI_add, nI_1, nI_clamp, nI_leI, nI_ltI, nI_eq, pk_sub, q_ix, nI_l, lN_add, lN_mul, r_m1n, r_m1n', r_m1lt, r_m1nlt, r_m1le, r_m1nle, Nat.not_lt_zero, Nat.reduceEqDiff, Nat.reduceLT, Nat.reduceLeDiff, true_and, and_true, true_implies, false_implies, not_true_eq_false, not_false_eq_true, implies_true, and_self, ne_eq, decide_true, decide_false, Bool.not_true, Bool.not_false, if_true, if_false, reduceIte, mk0, mk1, mk2, mk3, mk4, mk5, mk6, mk7, mk8, mk9, mk10, mk11, mk12, mk13, mk14, mk15, mk16, mk17, mk18, mk19, mk20, mk21, mk22, mn1, mn2, mn3, mn4, mn5, mn6, mn7, mn8, mn9, mn10, mn11, mn12, mn13, mn14, mn15, mn16, mn17, mn18, mn19, mn20, mn21, mn22, mr1, mr6, mr7, mr8, mr9, mr10, mr21, mr22, mr23, mr25, mr26, mr29, mr30, mr32, mr33, mr34, mr43, mr47, mr53, mr54, mr55, mr56, g27, g28, hB15, hB16, ml, mp]
  have n0 : ∀ y, y ≠ x → z_L (z_sI (z_sL h1 10 x (lN (a_lf bk x * 9 ^ (n - lev)))) 11 x m1) 10 y = z_L h 10 y ∧ z_I (z_sI (z_sL h1 10 x (lN (a_lf bk x * 9 ^ (n - lev)))) 11 x m1) 11 y = z_I h 11 y := fun y hy => by
    refine ⟨?_, ?_⟩
    · exact (q_Ln (by omega)).trans (f1.L 10 y (by unfold mWf; omega))
    · exact (q_In (by omega)).trans (f1.I 11 y (by unfold mWf; omega))
  have nL : z_L (z_sI (z_sL h1 10 x (lN (a_lf bk x * 9 ^ (n - lev)))) 11 x m1) 10 x = lN (a_lf bk x * 9 ^ (n - lev)) := q_Le rfl rfl
  have nI' : z_I (z_sI (z_sL h1 10 x (lN (a_lf bk x * 9 ^ (n - lev)))) 11 x m1) 11 x = m1 := q_Ie rfl rfl
  have f3 : m_fr mCf h (z_sI (z_sL h1 10 x (lN (a_lf bk x * 9 ^ (n - lev)))) 11 x m1) := ((f1.w (fun o k c => c.1)).sL (by unfold mCf; omega)).sI (by unfold mCf; omega)
  generalize z_sI (z_sL h1 10 x (lN (a_lf bk x * 9 ^ (n - lev)))) 11 x m1 = h3 at n0 nL nI' f3 ⊢
  have s3 := f3.s s
  have hB3 : mB h3 bk := fun k hk => (f3.I 2 k (by unfold mCf; omega)).trans (hB k hk)
  have upd : ∀ h4, m_fr (mCx x) h3 h4 → z_L h4 10 x = lN (a_V bk (n - lev) x).1 → z_I h4 11 x = a_cI (a_V bk (n - lev) x).2 → Q (.inl (nI (x + 1), h4)) := fun h4 f4 w1 w2 => by
    refine k h4 (f3.tr (f4.w (fun o k c => by unfold mCf at c; unfold mCx; omega))) (fun y hy hy2 hy3 => ?_)
    by_cases e : y = x
    · subst e
      unfold mKy
      rw [ha]
      exact ⟨w1, w2⟩
    · obtain ⟨k1, k2⟩ := K y hy hy2 (by omega)
      obtain ⟨n1, n2⟩ := n0 y e
      exact ⟨((f4.L 10 y (by unfold mCx; omega)).trans n1).trans k1, ((f4.I 11 y (by unfold mCx; omega)).trans n2).trans k2⟩
  by_cases c : lev = n
  · subst c
    refine m_cbNo s3 hB3 hn hx hb0 (upd h3 m_fr.rf ?_ ?_)
    · rw [nL, Nat.sub_self]
      exact rfl
    · rw [nI', Nat.sub_self]
      exact rfl
  · obtain ⟨d, hd⟩ : ∃ d, n - lev = d + 1 := ⟨n - lev - 1, by omega⟩
    rw [hd] at vv nL upd
    refine m_cbIn (f := fun y => (a_V bk d y).1) s3 hB3 hn (by omega) hx hb0 (fun i hi hdg => ?_) (fun y => a_V_b b (by omega)) vv nL nI' (fun h4 f4 w1 w2 => upd h4 f4 w1 w2)
    obtain ⟨t1, t2, t3⟩ := a_go x hx i (by omega) hdg
    have p30 : 0 < 3 ^ i := Nat.pow_pos (by decide)
    have K1 := (K (x + 3 ^ i) (by omega) (by omega) (by omega)).1
    have K2 := (K (x + 2 * 3 ^ i) (by omega) (by omega) (by omega)).1
    rw [t2, ha, show n - (lev + 1) = d by omega] at K1
    rw [t3, ha, show n - (lev + 1) = d by omega] at K2
    exact ⟨(n0 _ (by omega)).1.trans K1, (n0 _ (by omega)).1.trans K2⟩
theorem m_costsBy {h : z_T} {bk : Nat → Nat} {n : Nat} {Q : z_T → Prop} (s : SM h) (b : BOK bk) (hB : mB h bk) (hn : n ≤ 4) (hb0 : bk 0 ≤ 6)
    (k : ∀ h', m_fr mCf h h' → mKn h' bk n 0 729 → Q h') : p_W (fX12_costsBy 0 (nI n) h) Q := by
  unfold fX12_costsBy fX12_costsBy_b2
  refine p_for (n + 1) (fun l w => m_fr mCf h w.2 ∧ ((l ≤ n ∧ w.1 = nI (n - l) ∧ mKn w.2 bk n (n - l) 0) ∨ (l = n + 1 ∧ w.1 = m1 ∧ mKn w.2 bk n 0 729))) ?_ ?_ 0 (by omega) ⟨m_fr.rf, Or.inl ⟨by omega, rfl, fun y hy h1 h2 => by omega⟩⟩
  · rintro l ⟨x2, h1⟩ hl ⟨f1, ⟨hl2, e1, K1⟩ | ⟨hl2, -, -⟩⟩
    rotate_left
    · omega
    dsimp only at f1 e1 K1
    subst e1
    have s1 := f1.s s
    obtain ⟨v, hv⟩ : ∃ v, n - l = v := ⟨_, rfl⟩
    rw [hv] at K1 ⊢
    unfold fX12_costsBy_b2_i
    simp (disch := first | assumption | omega) only [p_some, p_gd, p_br, p_bi, p_nm, p_mp, p_Sl, p_Sr, p_bis, p_gdt, Nat.not_lt_zero, Nat.reduceEqDiff, Nat.reduceLT, Nat.reduceLeDiff, true_and, and_true, true_implies, false_implies, not_true_eq_false, not_false_eq_true, implies_true, and_self, ne_eq, decide_true, decide_false, Bool.not_true, Bool.not_false, if_true, if_false, reduceIte, r_lit, nI_ltI, Nat.not_lt_zero]
    unfold fX12_costsBy_b8
    refine p_for 729 (fun x w => w.1 = nI x ∧ m_fr mCf h w.2 ∧ mKn w.2 bk n v x) ?_ ?_ 0 (by omega) ⟨rfl, f1, K1⟩
    · rintro x ⟨y, h2⟩ hx ⟨e2, f2, K2⟩
      dsimp only at e2 f2 K2
      subst e2
      have s2 := f2.s s
      have hB2 : mB h2 bk := fun k hk => (f2.I 2 k (by unfold mCf; omega)).trans (hB k hk)
      by_cases ca : a_aq x 6 = v
      · exact m_cbState s2 b hB2 hn (by omega) hx hb0 ca K2 (fun h3 f3 K3 => ⟨rfl, f2.tr f3, K3⟩)
      · have la := a_aq_le (x := x) (m := 6)
        have ma := m_askedIn s2 hx
        unfold fX12_costsBy_b8_i fX12_costsBy_b178
        generalize hg : a_aq x 6 = g at *
        simp (disch := first | assumption | omega) only [p_some, p_gd, p_br, p_bi, p_nm, p_mp, p_Sl, p_Sr, p_bis, p_gdt, q_IL, q_IR, q_LI, q_LR, q_RI, q_RL, q_KI, q_KL, q_KR, q_NI, q_NL, q_NR, q_nI, q_nL, q_nR, q_okI, q_okL, q_okR, q_Ie, q_In, q_Le, q_Ln, SM_I, SM_L, s_c0, s_cg0, s_cl0, s_cge, s_cle, r_le, r_lt, r_eq, r_md, r_2, r_3, r_lit, r_litL, r_m1, nI_add, nI_1, nI_clamp, nI_leI, nI_ltI, nI_eq, pk_sub, q_ix, nI_l, lN_add, lN_mul, r_m1n, r_m1n', r_m1lt, r_m1nlt, r_m1le, r_m1nle, Nat.not_lt_zero, Nat.reduceEqDiff, Nat.reduceLT, Nat.reduceLeDiff, true_and, and_true, true_implies, false_implies, not_true_eq_false, not_false_eq_true, implies_true, and_self, ne_eq, decide_true, decide_false, Bool.not_true, Bool.not_false, if_true, if_false, reduceIte, mk0, mk1, mk2, mk3, mk4, mk5, mk6, mk7, mk8, mk9, mk10, mk11, mk12, mk13, mk14, mk15, mk16, mk17, mk18, mk19, mk20, mk21, mk22, mn1, mn2, mn3, mn4, mn5, mn6, mn7, mn8, mn9, mn10, mn11, mn12, mn13, mn14, mn15, mn16, mn17, mn18, mn19, mn20, mn21, mn22, mr1, mr6, mr7, mr8, mr9, mr10, mr21, mr22, mr23, mr25, mr26, mr29, mr30, mr32, mr33, mr34, mr43, mr47, mr53, mr54, mr55, mr56, ma, ca, show ¬ 729 ≤ x by omega]
        refine ⟨f2, fun y hy h1 h3 => K2 y hy h1 ?_⟩
        rcases h3 with h3 | h3
        · exact Or.inl h3
        · by_cases e : y = x
          · rw [e, hg] at h3; exact absurd h3.1 ca
          · exact Or.inr ⟨h3.1, by omega⟩
    · rintro ⟨y, h2⟩ ⟨e2, f2, K2⟩
      dsimp only at e2 f2 K2
      subst e2
      unfold fX12_costsBy_b8_i
      rw [p_brT (show (729 : Int32) ≤ nI 729 by decide)]
      by_cases cv : v = 0
      · rw [cv] at K2 ⊢
        simp (disch := first | assumption | omega) only [p_some, p_gd, p_br, p_bi, p_nm, p_mp, p_Sl, p_Sr, p_bis, p_gdt, Nat.not_lt_zero, Nat.reduceEqDiff, Nat.reduceLT, Nat.reduceLeDiff, true_and, and_true, true_implies, false_implies, not_true_eq_false, not_false_eq_true, implies_true, and_self, ne_eq, decide_true, decide_false, Bool.not_true, Bool.not_false, if_true, if_false, reduceIte, show nI 0 + (-1 : Int32) = m1 from by decide]
        exact ⟨f2, Or.inr ⟨by omega, K2⟩⟩
      · simp (disch := first | assumption | omega) only [p_some, p_gd, p_br, p_bi, p_nm, p_mp, p_Sl, p_Sr, p_bis, p_gdt, Nat.not_lt_zero, Nat.reduceEqDiff, Nat.reduceLT, Nat.reduceLeDiff, true_and, and_true, true_implies, false_implies, not_true_eq_false, not_false_eq_true, implies_true, and_self, ne_eq, decide_true, decide_false, Bool.not_true, Bool.not_false, if_true, if_false, reduceIte, s_dec]
        refine ⟨f2, Or.inl ⟨by omega, by rw [show n - (l + 1) = v - 1 by omega], fun y hy h1 h3 => K2 y hy h1 (by omega)⟩⟩
  · rintro ⟨x2, h1⟩ ⟨f1, ⟨hl2, -, -⟩ | ⟨-, e1, K1⟩⟩
    · omega
    dsimp only at f1 e1 K1
    subst e1
    unfold fX12_costsBy_b2_i
    rw [p_brT (show (m1 : Int32) < 0 by decide)]
    simp (disch := first | assumption | omega) only [p_some, p_gd, p_br, p_bi, p_nm, p_mp, p_Sl, p_Sr, p_bis, p_gdt, Nat.not_lt_zero, Nat.reduceEqDiff, Nat.reduceLT, Nat.reduceLeDiff, true_and, and_true, true_implies, false_implies, not_true_eq_false, not_false_eq_true, implies_true, and_self, ne_eq, decide_true, decide_false, Bool.not_true, Bool.not_false, if_true, if_false, reduceIte]
    exact k h1 f1 K1
