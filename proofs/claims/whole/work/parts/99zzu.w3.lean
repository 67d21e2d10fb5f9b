/-! nights as they are judged, all lines -/
def a_jI (o : Option Nat) : Int32 := match o with
  | none => m1
  | some i => nI i
def a_jl (bk ac va : Nat → Nat) : Nat → Nat → a_JS → Option Nat × Nat × a_JS
  | 0, _, st => (none, 0, st)
  | m + 1, i, st => if (a_jg bk (ac i) (va i) st).1 = 0 then a_jl bk ac va m (i + 1) (a_jg bk (ac i) (va i) st).2 else (some i, a_jg bk (ac i) (va i) st)
def JI (bk ac : Nat → Nat) (i : Nat) (st : a_JS) : Prop := st.2.2.2.1 ≤ i ∧ st.2.2.2.2 ≤ i ∧ (¬ i = 0 → JOK bk i st ∧ st.2.1 = a_as ac i)
theorem a_jg_le {bk : Nat → Nat} {c v : Nat} {st : a_JS} : (a_jg bk c v st).1 ≤ 3 := by
  unfold a_jg
  split
  · exact Nat.zero_le _
  · split
    · split
      · exact Nat.le_of_ble_eq_true rfl
      · split
        · exact Nat.le_of_ble_eq_true rfl
        · exact Nat.zero_le _
    · split
      · exact Nat.zero_le _
      · exact Nat.le_of_ble_eq_true rfl
theorem JI.go {bk ac va : Nat → Nat} {n asked i : Nat} {st : a_JS} (W : WL bk ac va n asked) (hi : i < n) (h : JI bk ac i st) (e : (a_jg bk (ac i) (va i) st).1 = 0) : JI bk ac (i + 1) (a_jg bk (ac i) (va i) st).2 := by
  obtain ⟨p, n0, ans, bg, aw⟩ := st
  obtain ⟨-, -, -, w4, w5⟩ := W
  obtain ⟨c3, v0, v1⟩ := w5 i hi
  obtain ⟨g1, g2, g3⟩ := h
  dsimp only at g1 g2
  unfold a_jg at e ⊢
  dsimp only at e ⊢
  by_cases c0 : ac i = 0
  · rw [if_pos c0]
    have := v0 c0
    refine ⟨by dsimp only; omega, by dsimp only; omega, fun _ => ⟨⟨this, Nat.zero_le _, fun j hj => absurd hj (Nat.not_lt_zero j), by dsimp only; omega, by dsimp only; omega⟩, ?_⟩⟩
    rw [a_as, if_pos c0]
  · have i0 : ¬ i = 0 := fun q => by subst q; exact c0 (w4 hi)
    obtain ⟨⟨hp, hn, ha, -, -⟩, hs⟩ := g3 i0
    dsimp only at hp hn ha hs
    rw [if_neg c0] at e ⊢
    by_cases c1 : ac i = 1
    · obtain ⟨v2, v3⟩ := v1 c1
      rw [if_pos c1] at e ⊢
      by_cases q1 : a_fa (a_od bk ans n0 p (va i / 2)) (va i % 2) = 0
      · rw [if_pos q1] at e
        exact absurd e Nat.one_ne_zero
      · rw [if_neg q1] at e ⊢
        by_cases q2 : a_ws bk (a_u ans n0 (va i)) p (n0 + 1)
        · rw [if_pos q2] at e
          exact absurd e (Nat.succ_ne_zero 1)
        · rw [if_neg q2]
          refine ⟨by dsimp only; omega, by dsimp only; omega, fun _ => ⟨⟨hp, by dsimp only; omega, fun j hj => ?_, by dsimp only; omega, by dsimp only; omega⟩, ?_⟩⟩
          · dsimp only at hj ⊢
            unfold a_u
            split
            · exact v2
            · exact ha j (by omega)
          · rw [a_as, if_neg c0, if_pos c1, ← hs]
    · rw [if_neg c1] at e ⊢
      have fin : JI bk ac (i + 1) (p, n0, ans, bg, aw) := ⟨by dsimp only; omega, by dsimp only; omega, fun _ => ⟨⟨hp, hn, ha, by dsimp only; omega, by dsimp only; omega⟩, by rw [a_as, if_neg c0, if_neg c1, ← hs]⟩⟩
      split
      · exact fin
      · exact fin
def xJg (o k : Nat) : Prop := xJf o k ∧ (o ≠ 79 ∨ k ≠ 5)
theorem x_jgLoop {bk ac va : Nat → Nat} {bo n asked : Nat} {Q : Int32 × z_T → Prop} (b : BOK bk) (hbo : bo = 1 ∨ 83 ≤ bo) (W : WL bk ac va n asked) : ∀ m (h : z_T) i (st : a_JS), m + i = n → JI bk ac i st → SX h → xNi h 64 bo bk st.2.2.1 st.2.1 → xRd h ac va n → z_I h 79 2 = nI n → z_I h 79 5 = nI 0 → z_I h 79 6 = nI st.2.2.2.1 → z_I h 79 7 = nI st.2.2.2.2 → (¬ i = 0 → z_I h 79 4 = nI st.1) →
    (∀ h', x_fr xJg h h' → z_I h' 79 5 = nI (a_jl bk ac va m i st).2.1 → z_I h' 79 6 = nI (a_jl bk ac va m i st).2.2.2.2.2.1 → z_I h' 79 7 = nI (a_jl bk ac va m i st).2.2.2.2.2.2 → Q (a_jI (a_jl bk ac va m i st).1, h')) →
    p_W (y_lp (fun q : Int32 × z_T => fX3_judge_b17_i 79 64 q.1 q.2) (nI i, h)) Q := by
  intro m
  have n40 := W.1
  induction m with
  | zero =>
    intro h i st hm JJ s N rd h2 h5 j1 j2 h4 k
    refine p_unP (fun P hP => ?_)
    unfold fX3_judge_b17_i
    rw [a_jl] at k
    have kk := k h x_fr.rf h5 j1 j2
    simp (disch := first | assumption | omega) only [p_some, p_gd, p_br, p_bi, p_nm, p_mp, p_Sl, p_Sr, p_bis, p_gdt, Nat.not_lt_zero, Nat.reduceEqDiff, Nat.reduceLT, Nat.reduceLeDiff, true_and, and_true, true_implies, false_implies, not_true_eq_false, not_false_eq_true, implies_true, and_self, ne_eq, decide_true, decide_false, Bool.not_true, Bool.not_false, if_true, if_false, reduceIte, xk79 s, h2, r_lit, nI_leI, show n ≤ i by omega, r_m1]
    exact kk
  | succ m ih =>
    intro h i st hm JJ s N rd h2 h5 j1 j2 h4 k
    have h0 := s.1
    have hi : i < n := by omega
    obtain ⟨ra, rv⟩ := rd i hi
    obtain ⟨c3, v0, v1⟩ := W.2.2.2.2 i hi
    refine p_unP (fun P hP => ?_)
    unfold fX3_judge_b17_i
    rw [a_jl] at k
    simp (disch := first | assumption | omega) only [p_some, p_gd, p_br, p_bi, p_nm, p_mp, p_Sl, p_Sr, p_bis, p_gdt, q_IL, q_IR, q_LI, q_LR, q_RI, q_RL, q_KI, q_KL, q_KR, q_NI, q_NL, q_NR, q_nI, q_nL, q_nR, q_okI, q_okL, q_okR, q_Ie, q_In, q_Le, q_Ln, SM_I, SM_L, s_c0, s_cg0, s_cl0, s_cge, s_cle, r_le, r_lt, r_eq, r_md, r_2, r_3, r_lit, r_litL, r_m1, nI_add, nI_1, nI_clamp, nI_leI, nI_ltI, nI_eq, pk_sub, q_ix, nI_l, lN_add, lN_mul, r_m1n, r_m1n', r_m1lt, r_m1nlt, r_m1le, r_m1nle, Nat.not_lt_zero, Nat.reduceEqDiff, Nat.reduceLT, Nat.reduceLeDiff, true_and, and_true, true_implies, false_implies, not_true_eq_false, not_false_eq_true, implies_true, and_self, ne_eq, decide_true, decide_false, Bool.not_true, Bool.not_false, if_true, if_false, reduceIte, xk79 s, h2, xr79_0 s, xr79_1 s, xk80 s, xk81 s, xn80 s, xn81 s, ra, rv, show ¬ n ≤ i by omega, show ¬ 40 ≤ i by omega]
    have i0 : ¬ ac i = 0 → ¬ i = 0 := fun q z => by subst z; exact q (W.2.2.2.1 hi)
    have g3 := JJ.2.2
    refine x_judgeLine (m := i) s b hbo N j1 j2 JJ.1 JJ.2.1 (fun q => ⟨h4 (i0 q), (g3 (i0 q)).1⟩) (by omega) c3 v0 (fun q => ⟨(v1 q).1, by have := (g3 (i0 (by omega))).2; have := (v1 q).2; omega⟩) (fun h1 f J1 => ?_)
    have s1 := f.s s
    obtain ⟨N1, i4, i6, i7⟩ := J1
    have wle := a_jg_le (bk := bk) (c := ac i) (v := va i) (st := st)
    have JG := JI.go W hi JJ
    generalize a_jg bk (ac i) (va i) st = w at *
    have F : x_fr xJg h (z_sI h1 79 5 (nI w.1)) := (f.w (fun o k _ c => c.1)).sI (fun _ => by unfold xJg; omega)
    have N2 : xNi (z_sI h1 79 5 (nI w.1)) 64 bo bk w.2.2.2.1 w.2.2.1 := N1.fr (C := fun o _ => o ≠ 79) (x_fr.rf.sI (fun _ => by omega)) (by unfold isN; omega) hbo (fun j k hj => by omega) (fun j k hj => by omega)
    have y4 : z_I (z_sI h1 79 5 (nI w.1)) 79 4 = nI w.2.1 := (q_In (by omega)).trans i4
    have y6 : z_I (z_sI h1 79 5 (nI w.1)) 79 6 = nI w.2.2.2.2.1 := (q_In (by omega)).trans i6
    have y7 : z_I (z_sI h1 79 5 (nI w.1)) 79 7 = nI w.2.2.2.2.2 := (q_In (by omega)).trans i7
    have y5 : z_I (z_sI h1 79 5 (nI w.1)) 79 5 = nI w.1 := q_Ie rfl rfl
    have s2 : SX (z_sI h1 79 5 (nI w.1)) := s1
    have y2 : z_I (z_sI h1 79 5 (nI w.1)) 79 2 = nI n := (F.I 79 2 (by omega) (by unfold xJg xJf nC; omega)).trans h2
    have rd2 : xRd (z_sI h1 79 5 (nI w.1)) ac va n := fun j hj => ⟨(F.I 80 j (by omega) (by unfold xJg xJf nC; omega)).trans (rd j hj).1, (F.I 81 j (by omega) (by unfold xJg xJf nC; omega)).trans (rd j hj).2⟩
    simp (disch := first | assumption | omega) only [p_some, p_gd, p_br, p_bi, p_nm, p_mp, p_Sl, p_Sr, p_bis, p_gdt, Nat.not_lt_zero, Nat.reduceEqDiff, Nat.reduceLT, Nat.reduceLeDiff, true_and, and_true, true_implies, false_implies, not_true_eq_false, not_false_eq_true, implies_true, and_self, ne_eq, decide_true, decide_false, Bool.not_true, Bool.not_false, if_true, if_false, reduceIte, xk79 s1, y5]
    generalize z_sI h1 79 5 (nI w.1) = h3 at *
    simp (disch := first | assumption | omega) only [p_some, p_gd, p_br, p_bi, p_nm, p_mp, p_Sl, p_Sr, p_bis, p_gdt, q_IL, q_IR, q_LI, q_LR, q_RI, q_RL, q_KI, q_KL, q_KR, q_NI, q_NL, q_NR, q_nI, q_nL, q_nR, q_okI, q_okL, q_okR, q_Ie, q_In, q_Le, q_Ln, SM_I, SM_L, s_c0, s_cg0, s_cl0, s_cge, s_cle, r_le, r_lt, r_eq, r_md, r_2, r_3, r_lit, r_litL, r_m1, nI_add, nI_1, nI_clamp, nI_leI, nI_ltI, nI_eq, pk_sub, q_ix, nI_l, lN_add, lN_mul, r_m1n, r_m1n', r_m1lt, r_m1nlt, r_m1le, r_m1nle, Nat.not_lt_zero, Nat.reduceEqDiff, Nat.reduceLT, Nat.reduceLeDiff, true_and, and_true, true_implies, false_implies, not_true_eq_false, not_false_eq_true, implies_true, and_self, ne_eq, decide_true, decide_false, Bool.not_true, Bool.not_false, if_true, if_false, reduceIte, nI_eq]
    refine ⟨fun z => ?_, fun z => ?_⟩
    · rw [if_pos z] at k
      refine hP _ ?_
      rw [z] at y5
      exact ih h3 (i + 1) w.2 (by omega) (JG z) s2 N2 rd2 y2 y5 y6 y7 (fun _ => y4) (fun h4 f4 a1 a2 a3 => k h4 (F.tr f4) a1 a2 a3)
    · rw [if_neg z] at k
      exact k h3 F y5 y6 y7
