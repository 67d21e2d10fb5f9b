/-! the class reads the lines of nights -/
def xRd (h : z_T) (ac va : Nat → Nat) (n : Nat) : Prop := ∀ i, i < n → z_I h 80 i = nI (ac i) ∧ z_I h 81 i = nI (va i)
def xNg (o k : Nat) : Prop := xGF o k ∧ (o ≠ 79 ∨ (k ≠ 2 ∧ k ≠ 3)) ∧ o ≠ 80 ∧ o ≠ 81
theorem x_ntLoop {by8 : Nat → Nat} {L bo : Nat} {bk nm : Nat → Nat} {Q : Int32 × z_T → Prop} (b : BOK bk) (N : NMO bk nm) (hbo : bo = 1 ∨ 83 ≤ bo) : ∀ m (h : z_T) n asked (ac va : Nat → Nat) t, m + n = 41 → WL bk ac va n asked → xL by8 L 400 h t → xBN h bo bk nm → z_I h 79 2 = nI n → (¬ n = 0 → z_I h 79 3 = nI asked) → xRd h ac va n →
    (∀ h' e, a_nts (a_ne by8 L 400) bk nm m n asked ac va t = .inl e → x_fr xNg h h' → xF h' e → Q (nI 0, h')) →
    (∀ h' w, a_nts (a_ne by8 L 400) bk nm m n asked ac va t = .inr w → x_fr xNg h h' → z_I h' 13 8 = nI 0 → z_I h' 79 2 = nI w.1 → xRd h' w.2.1 w.2.2 w.1 → Q (nI 1, h')) →
    p_W (y_lp (fun q : Int32 × z_T => fX3_readLines_b7_i 79 13 bo q.1 q.2) (nI n, h)) Q := by
  intro m
  induction m with
  | zero =>
    intro h n asked ac va t hm W
    have := W.1
    omega
  | succ m ih =>
    intro h n asked ac va t hm W l R h2 h3 rd k0 k1
    have s := l.1
    obtain ⟨-, t4, -, -, -, t9, -⟩ := l.2.2.1.k
    have n40 := W.1
    have h00 := s.1
    refine p_unP (fun P hP => ?_)
    rw [a_nts] at k0 k1
    unfold fX3_readLines_b7_i
    by_cases c0 : t.1 = 0
    · rw [if_pos c0] at k1
      rw [c0] at t4
      have kk := k1 h _ rfl x_fr.rf l.2.2.2.2.2.2 h2 rd
      simp (disch := first | assumption | omega) only [p_some, p_gd, p_br, p_bi, p_nm, p_mp, p_Sl, p_Sr, p_bis, p_gdt, Nat.not_lt_zero, Nat.reduceEqDiff, Nat.reduceLT, Nat.reduceLeDiff, true_and, and_true, true_implies, false_implies, not_true_eq_false, not_false_eq_true, implies_true, and_self, ne_eq, decide_true, decide_false, Bool.not_true, Bool.not_false, if_true, if_false, reduceIte, xk13 s, r_lit, nI_ltI, show ¬ 40 < n by omega, t4]
      exact kk
    · rw [if_neg c0] at k0 k1
      simp (disch := first | assumption | omega) only [p_some, p_gd, p_br, p_bi, p_nm, p_mp, p_Sl, p_Sr, p_bis, p_gdt, Nat.not_lt_zero, Nat.reduceEqDiff, Nat.reduceLT, Nat.reduceLeDiff, true_and, and_true, true_implies, false_implies, not_true_eq_false, not_false_eq_true, implies_true, and_self, ne_eq, decide_true, decide_false, Bool.not_true, Bool.not_false, if_true, if_false, reduceIte, xk13 s, xk79 s, r_lit, nI_ltI, show ¬ 40 < n by omega, t4, nI_eq, c0]
      have ng : ∀ h1 h2, x_fr (xNf n) h1 h2 → x_fr xNg h1 h2 := fun h1 h2 f => f.w (fun o k _ c => by obtain ⟨c1, c2, c3, c4⟩ := c; exact ⟨c1, by omega, by omega, by omega⟩)
      refine x_nightLine l b N R hbo W.1 W.2.2.1 h2 h3 (fun h1 e q f g => ?_) (fun h1 w q hn f g => ?_)
      · simp (disch := first | assumption | omega) only [p_some, p_gd, p_br, p_bi, p_nm, p_mp, p_Sl, p_Sr, p_bis, p_gdt, Nat.not_lt_zero, Nat.reduceEqDiff, Nat.reduceLT, Nat.reduceLeDiff, true_and, and_true, true_implies, false_implies, not_true_eq_false, not_false_eq_true, implies_true, and_self, ne_eq, decide_true, decide_false, Bool.not_true, Bool.not_false, if_true, if_false, reduceIte]
        exact k0 h1 e (by rw [q, a_bdl]) (ng _ _ f) g
      · obtain ⟨l1, g2, g3, ga, gv⟩ := g
        have s1 := l1.1
        have W1 := W.go q hn
        have h01 := s1.1
        simp (disch := first | assumption | omega) only [p_some, p_gd, p_br, p_bi, p_nm, p_mp, p_Sl, p_Sr, p_bis, p_gdt, Nat.not_lt_zero, Nat.reduceEqDiff, Nat.reduceLT, Nat.reduceLeDiff, true_and, and_true, true_implies, false_implies, not_true_eq_false, not_false_eq_true, implies_true, and_self, ne_eq, decide_true, decide_false, Bool.not_true, Bool.not_false, if_true, if_false, reduceIte, s_10, xk13 s1]
        refine x_take (c := 59) l1 (by decide) (fun h2 c59 f2 g2 => ?_) (fun h2' c59 f2 l2 => ?_)
        · simp (disch := first | assumption | omega) only [p_some, p_gd, p_br, p_bi, p_nm, p_mp, p_Sl, p_Sr, p_bis, p_gdt, Nat.not_lt_zero, Nat.reduceEqDiff, Nat.reduceLT, Nat.reduceLeDiff, true_and, and_true, true_implies, false_implies, not_true_eq_false, not_false_eq_true, implies_true, and_self, ne_eq, decide_true, decide_false, Bool.not_true, Bool.not_false, if_true, if_false, reduceIte]
          exact k0 h2 _ (by rw [q, a_bdr, if_neg c59]) ((ng _ _ f).tr (ng _ _ (xNf.gf f2))) g2
        · have s2 := l2.1
          rw [q, a_bdr, if_pos c59] at k0 k1
          have F2 : x_fr xNg h h2' := (ng _ _ f).tr (ng _ _ (xNf.gf f2))
          have R2 : xBN h2' bo bk nm := R.fr hbo F2 (fun j k hj => by unfold xNg xGF; omega)
          have e2 : z_I h2' 79 2 = nI (n + 1) := (f2.I 79 2 (by omega) (by unfold xGF; omega)).trans g2
          have e3 : z_I h2' 79 3 = nI w.2.2.1 := (f2.I 79 3 (by omega) (by unfold xGF; omega)).trans g3
          have R3 : xRd h2' (a_ud ac n w.1) (a_ud va n w.2.1) (n + 1) := fun i hi => by
            by_cases e : i = n
            · subst e
              rw [a_ud_e, a_ud_e]
              exact ⟨(f2.I 80 _ (by omega) (by unfold xGF; omega)).trans ga, (f2.I 81 _ (by omega) (by unfold xGF; omega)).trans gv⟩
            · rw [a_ud_n e, a_ud_n e]
              obtain ⟨r1, r2⟩ := rd i (by omega)
              exact ⟨(f2.I 80 _ (by omega) (by unfold xGF; omega)).trans ((f.I 80 _ (by omega) (by unfold xNf xGF; omega)).trans r1), (f2.I 81 _ (by omega) (by unfold xGF; omega)).trans ((f.I 81 _ (by omega) (by unfold xNf xGF; omega)).trans r2)⟩
          simp (disch := first | assumption | omega) only [p_some, p_gd, p_br, p_bi, p_nm, p_mp, p_Sl, p_Sr, p_bis, p_gdt, Nat.not_lt_zero, Nat.reduceEqDiff, Nat.reduceLT, Nat.reduceLeDiff, true_and, and_true, true_implies, false_implies, not_true_eq_false, not_false_eq_true, implies_true, and_self, ne_eq, decide_true, decide_false, Bool.not_true, Bool.not_false, if_true, if_false, reduceIte, s_10, nI_add, nI_1]
          refine hP _ ?_
          exact ih _ _ _ _ _ _ (by omega) W1 l2 R2 e2 (fun _ => e3) R3 (fun h4 e q4 f4 g4 => k0 h4 e q4 (F2.tr f4) g4) (fun h4 w4 q4 f4 g4 g5 g6 => k1 h4 w4 q4 (F2.tr f4) g4 g5 g6)
theorem x_readLines {by8 : Nat → Nat} {L bo : Nat} {bk nm : Nat → Nat} {Q : Int32 × z_T → Prop} {h : z_T} {t : Nat × Nat × Nat × Nat} (b : BOK bk) (N : NMO bk nm) (hbo : bo = 1 ∨ 83 ≤ bo) (l : xL by8 L 400 h t) (R : xBN h bo bk nm)
    (k0 : ∀ h' e, a_nts (a_ne by8 L 400) bk nm 41 0 0 (fun _ => 0) (fun _ => 0) t = .inl e → x_fr xNg h h' → xF h' e → Q (nI 0, h'))
    (k1 : ∀ h' w, a_nts (a_ne by8 L 400) bk nm 41 0 0 (fun _ => 0) (fun _ => 0) t = .inr w → x_fr xNg h h' → z_I h' 13 8 = nI 0 → z_I h' 79 2 = nI w.1 → xRd h' w.2.1 w.2.2 w.1 → Q (nI 1, h')) : p_W (fX3_readLines 79 13 bo h) Q := by
  have s := l.1
  have f0 : x_fr xNg h (z_sI h 79 2 (nI 0)) := x_fr.rf.sI (fun _ => by unfold xNg; omega)
  have l0 : xL by8 L 400 (z_sI h 79 2 (nI 0)) t := l.fr (C := fun o k => o < 79) (x_fr.rf.sI (fun _ => by omega)) (fun o k c => by unfold xKt at c; omega)
  have R0 : xBN (z_sI h 79 2 (nI 0)) bo bk nm := R.fr hbo f0 (fun j k hj => by unfold xNg xGF; omega)
  unfold fX3_readLines fX3_readLines_b7
  simp (disch := first | assumption | omega) only [p_some, p_gd, p_br, p_bi, p_nm, p_mp, p_Sl, p_Sr, p_bis, p_gdt, q_IL, q_IR, q_LI, q_LR, q_RI, q_RL, q_KI, q_KL, q_KR, q_NI, q_NL, q_NR, q_nI, q_nL, q_nR, q_okI, q_okL, q_okR, q_Ie, q_In, q_Le, q_Ln, SM_I, SM_L, s_c0, s_cg0, s_cl0, s_cge, s_cle, r_le, r_lt, r_eq, r_md, r_2, r_3, r_lit, r_litL, r_m1, nI_add, nI_1, nI_clamp, nI_leI, nI_ltI, nI_eq, pk_sub, q_ix, nI_l, lN_add, lN_mul, r_m1n, r_m1n', r_m1lt, r_m1nlt, r_m1le, r_m1nle, Nat.not_lt_zero, Nat.reduceEqDiff, Nat.reduceLT, Nat.reduceLeDiff, true_and, and_true, true_implies, false_implies, not_true_eq_false, not_false_eq_true, implies_true, and_self, ne_eq, decide_true, decide_false, Bool.not_true, Bool.not_false, if_true, if_false, reduceIte, xk79 s, r_lit]
  exact x_ntLoop b N hbo 41 _ 0 0 _ _ _ (by omega) ⟨by omega, rfl, by omega, fun q => absurd q (by omega), fun i hi => absurd hi (by omega)⟩ l0 R0 (q_Ie rfl rfl) (fun q => absurd rfl q) (fun i hi => absurd hi (by omega)) (fun h1 e q f g => k0 h1 e q (f0.tr f) g) (fun h1 w q f g g2 g3 => k1 h1 w q (f0.tr f) g g2 g3)
