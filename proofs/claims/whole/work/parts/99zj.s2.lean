/-! the class goes on to the next token -/
theorem x_rtLoop {L lim q n : Nat} {by8 : Nat → Nat} (hb : BY L by8) (hq : q < L) (hn : ∀ j, j < n → q + j < L ∧ a_A (by8 (q + j)) = true) (he : q + n = L ∨ (q + n < L ∧ a_A (by8 (q + n)) = false)) : ∀ m i, i + m = n → ∀ (h : z_T) (Q : z_T → Prop), SX h → xTape h L lim by8 → xWi h by8 q i → (∀ h', x_fr xGo h h' → xTok h' (if 0 < n then a_tkN by8 q n else if a_S (by8 q) = true then (by8 q, 0, q, q + 1) else (1, 0, q, 0)) → Q h') → p_W (y_lp (fun w : Int32 × Int32 × Int32 × z_T => fX6_readToken_b9_i 13 w.1 w.2.1 w.2.2.1 w.2.2.2) (nI (a_cl by8 q i), nI (i - a_cl by8 q i), nI (q + i), h)) Q := by
  intro m
  have hL := hb.1
  induction m with
  | zero =>
    intro i hi h Q s T w k
    have : i = n := hi
    subst this
    refine p_unP (fun P hP => ?_)
    have fin := x_tkEnd s T hb hq hn he w k
    unfold fX6_readToken_b9_i
    dsimp only
    rcases he with he | ⟨he, hA⟩
    · simp (disch := first | assumption | omega) only [p_some, p_gd, p_br, p_bi, p_nm, p_mp, p_Sl, p_Sr, p_bis, p_gdt, Nat.not_lt_zero, Nat.reduceEqDiff, Nat.reduceLT, Nat.reduceLeDiff, true_and, and_true, true_implies, false_implies, not_true_eq_false, not_false_eq_true, implies_true, and_self, ne_eq, decide_true, decide_false, Bool.not_true, Bool.not_false, if_true, if_false, reduceIte, xk13 s, xr13_0 s, xk9 s, T.1, r_lit, nI_leI, show L ≤ q + i by omega]
      exact fin
    · have at1 := x_at s T hb he
      have b8 := hb.2 _ he
      have xL := s_xL _ b8
      have xD := s_xD _ b8
      unfold a_A at hA
      rw [Bool.or_eq_false_iff] at hA
      rw [s_b0 hA.1] at xL
      rw [s_b0 hA.2] at xD
      simp (disch := first | assumption | omega) only [p_some, p_gd, p_br, p_bi, p_nm, p_mp, p_Sl, p_Sr, p_bis, p_gdt, Nat.not_lt_zero, Nat.reduceEqDiff, Nat.reduceLT, Nat.reduceLeDiff, true_and, and_true, true_implies, false_implies, not_true_eq_false, not_false_eq_true, implies_true, and_self, ne_eq, decide_true, decide_false, Bool.not_true, Bool.not_false, if_true, if_false, reduceIte, xk13 s, xr13_0 s, xk9 s, T.1, r_lit, nI_leI, show ¬ L ≤ q + i by omega, at1, xL, xD]
      exact fin
  | succ m ih =>
    intro i hi h Q s T w k
    obtain ⟨hqi, hA⟩ := hn i (by omega)
    have at1 := x_at s T hb hqi
    have b8 := hb.2 _ hqi
    have xL := s_xL _ b8
    have xD := s_xD _ b8
    have cl := a_cl_le (by8 := by8) (q := q) (n := i)
    have ec := a_cl_s (by8 := by8) (q := q) (n := i)
    obtain ⟨w1, w2, w3, w4⟩ := w
    have eW : a_W5 by8 q (i + 1) = if a_L (by8 (q + i)) = true then (a_W5 by8 q i <<< ((nI 5).toInt64 &&& lN 63)) ||| (a_sb (by8 (q + i)) - nI 97 + nI 1).toInt64 else a_W5 by8 q i := rfl
    have eN : a_N5 by8 q (i + 1) = if a_L (by8 (q + i)) = true then a_N5 by8 q i else nI 10 * a_N5 by8 q i + a_sb (by8 (q + i)) - nI 48 := rfl
    refine p_unP (fun P hP => ?_)
    have b48 : p_W (fX6_readToken_b48 13 (nI (a_cl by8 q i)) (nI (i - a_cl by8 q i)) (nI (q + i)) h) (p_S P Q) := by
      unfold fX6_readToken_b48 fX6_withLetter fX6_readToken_b113
      by_cases cL : a_L (by8 (q + i)) = true
      · rw [s_b1 cL] at xL
        rw [if_pos cL] at eW eN ec
        simp (disch := first | assumption | omega) only [p_some, p_gd, p_br, p_bi, p_nm, p_mp, p_Sl, p_Sr, p_bis, p_gdt, Nat.not_lt_zero, Nat.reduceEqDiff, Nat.reduceLT, Nat.reduceLeDiff, true_and, and_true, true_implies, false_implies, not_true_eq_false, not_false_eq_true, implies_true, and_self, ne_eq, decide_true, decide_false, Bool.not_true, Bool.not_false, if_true, if_false, reduceIte, xk13 s, xr13_0 s, xk9 s, at1, xL, r_lit, r_litL, show (nI 1 = nI 0) = False from by decide, w1, nI_add]
        refine hP _ ?_
        have f1 : x_fr xGo h (z_sL h 13 6 (a_W5 by8 q (i + 1))) := x_fr.rf.sL (fun _ => by unfold xGo; omega)
        have := ih (i + 1) (by omega) (z_sL h 13 6 (a_W5 by8 q (i + 1))) Q (f1.s s) (T.fr s f1) ⟨q_Le rfl rfl, by rw [eN]; exact w2, w3, w4⟩ (fun h2 f2 t2 => k h2 (f1.tr f2) t2)
        rw [eW, ec, show i + 1 - (a_cl by8 q i + 1) = i - a_cl by8 q i by omega, ← Nat.add_assoc] at this
        exact this
      · rw [s_b0 (Bool.eq_false_iff.mpr cL)] at xL
        rw [if_neg cL] at eW eN ec
        simp (disch := first | assumption | omega) only [p_some, p_gd, p_br, p_bi, p_nm, p_mp, p_Sl, p_Sr, p_bis, p_gdt, Nat.not_lt_zero, Nat.reduceEqDiff, Nat.reduceLT, Nat.reduceLeDiff, true_and, and_true, true_implies, false_implies, not_true_eq_false, not_false_eq_true, implies_true, and_self, ne_eq, decide_true, decide_false, Bool.not_true, Bool.not_false, if_true, if_false, reduceIte, xk13 s, xr13_0 s, xk9 s, at1, xL, r_lit, r_litL, w2, nI_add]
        refine hP _ ?_
        have f1 : x_fr xGo h (z_sI h 13 5 (a_N5 by8 q (i + 1))) := x_fr.rf.sI (fun _ => by unfold xGo; omega)
        have := ih (i + 1) (by omega) (z_sI h 13 5 (a_N5 by8 q (i + 1))) Q (f1.s s) (T.fr s f1) ⟨by rw [eW]; exact w1, q_Ie rfl rfl, (q_In (by omega)).trans w3, w4⟩ (fun h2 f2 t2 => k h2 (f1.tr f2) t2)
        rw [eN, ec, Nat.add_zero, show i + 1 - a_cl by8 q i = i - a_cl by8 q i + 1 by omega, ← Nat.add_assoc] at this
        exact this
    unfold fX6_readToken_b9_i
    dsimp only
    unfold a_A at hA
    rw [Bool.or_eq_true] at hA
    simp (disch := first | assumption | omega) only [p_some, p_gd, p_br, p_bi, p_nm, p_mp, p_Sl, p_Sr, p_bis, p_gdt, Nat.not_lt_zero, Nat.reduceEqDiff, Nat.reduceLT, Nat.reduceLeDiff, true_and, and_true, true_implies, false_implies, not_true_eq_false, not_false_eq_true, implies_true, and_self, ne_eq, decide_true, decide_false, Bool.not_true, Bool.not_false, if_true, if_false, reduceIte, xk13 s, xr13_0 s, xk9 s, T.1, r_lit, nI_leI, show ¬ L ≤ q + i by omega, at1, xL, xD, bI_0]
    refine ⟨fun c => ⟨fun c2 => absurd (hA.resolve_left c) c2, fun _ => b48⟩, fun _ => b48⟩
theorem x_readToken {h : z_T} {L lim q : Nat} {by8 : Nat → Nat} {Q : z_T → Prop} (s : SX h) (T : xTape h L lim by8) (hb : BY L by8) (hq : q < L) (w : xWi h by8 q 0) (k : ∀ h', x_fr xGo h h' → xTok h' (a_tok by8 L q) → Q h') : p_W (fX6_readToken 13 h) Q := by
  have hL := hb.1
  have r := a_run_le (P := fun i => a_A (by8 i)) (L - q) q
  have ri := a_run_in (P := fun i => a_A (by8 i)) (L - q) q
  have ro := a_run_out (P := fun i => a_A (by8 i)) (L - q) q
  have rq : a_A (by8 q) = true → q < a_run (fun i => a_A (by8 i)) (L - q) q := fun hA => by
    obtain ⟨d, hd⟩ : ∃ d, L - q = d + 1 := ⟨L - q - 1, by omega⟩
    have l2 := a_run_le (P := fun i => a_A (by8 i)) d (q + 1)
    rw [hd, a_run, if_pos hA]
    omega
  have rq0 : ¬ a_A (by8 q) = true → a_run (fun i => a_A (by8 i)) (L - q) q = q := fun hA => by
    obtain ⟨d, hd⟩ : ∃ d, L - q = d + 1 := ⟨L - q - 1, by omega⟩
    rw [hd, a_run, if_neg hA]
  have et : a_tok by8 L q = if 0 < a_run (fun i => a_A (by8 i)) (L - q) q - q then a_tkN by8 q (a_run (fun i => a_A (by8 i)) (L - q) q - q) else if a_S (by8 q) = true then (by8 q, 0, q, q + 1) else (1, 0, q, 0) := by
    unfold a_tok a_tkN
    by_cases hA : a_A (by8 q) = true
    · have := rq hA
      rw [if_pos hA, if_pos (show 0 < a_run (fun i => a_A (by8 i)) (L - q) q - q by omega), show q + (a_run (fun i => a_A (by8 i)) (L - q) q - q) = a_run (fun i => a_A (by8 i)) (L - q) q by omega]
    · have := rq0 hA
      rw [if_neg hA, if_neg (show ¬ 0 < a_run (fun i => a_A (by8 i)) (L - q) q - q by omega)]
  rw [et] at k
  generalize a_run (fun i => a_A (by8 i)) (L - q) q = e at *
  unfold fX6_readToken fX6_readToken_b9
  simp (disch := first | assumption | omega) only [p_some, p_gd, p_br, p_bi, p_nm, p_mp, p_Sl, p_Sr, p_bis, p_gdt, Nat.not_lt_zero, Nat.reduceEqDiff, Nat.reduceLT, Nat.reduceLeDiff, true_and, and_true, true_implies, false_implies, not_true_eq_false, not_false_eq_true, implies_true, and_self, ne_eq, decide_true, decide_false, Bool.not_true, Bool.not_false, if_true, if_false, reduceIte, xk13 s, w.2.2.1]
  exact x_rtLoop (n := e - q) hb hq (fun j hj => ⟨by omega, ri (q + j) (by omega) (by omega)⟩) (by
      by_cases c : e = L
      · exact Or.inl (by omega)
      · refine Or.inr ⟨by omega, ?_⟩
        rw [show q + (e - q) = e by omega]
        exact ro (by omega)) (e - q) 0 (by omega) h Q s T w k
theorem x_advEnd {h : z_T} {L lim q : Nat} {by8 : Nat → Nat} {Q : z_T → Prop} (s : SX h) (T : xTape h L lim by8) (hb : BY L by8) (hl : lim ≤ 900) (hq : q ≤ L)
    (k : ∀ h', x_fr xGo h h' → xTok h' (a_lexq by8 L lim q) → Q h') : p_W (fX6_advance_b36 13 (nI q) h) Q := by
  have hL := hb.1
  have hM : xM 13 7 := Or.inl ⟨rfl, rfl⟩
  have f1 : x_fr xGo h (z_sR (z_sL (z_sI h 13 5 (nI 0)) 13 6 (lN 0)) 13 7 (some 0)) := ((x_fr.rf.sI (fun _ => by unfold xGo; omega)).sL (fun _ => by unfold xGo; omega)).sR (fun _ => ⟨by unfold xGo; omega, hM⟩)
  unfold fX6_advance_b36
  simp (disch := first | assumption | omega) only [p_some, p_gd, p_br, p_bi, p_nm, p_mp, p_Sl, p_Sr, p_bis, p_gdt, Nat.not_lt_zero, Nat.reduceEqDiff, Nat.reduceLT, Nat.reduceLeDiff, true_and, and_true, true_implies, false_implies, not_true_eq_false, not_false_eq_true, implies_true, and_self, ne_eq, decide_true, decide_false, Bool.not_true, Bool.not_false, if_true, if_false, reduceIte, xk13 s, r_lit, r_litL, q_okI, q_okL]
  have e6 : z_L (z_sR (z_sL (z_sI h 13 5 (nI 0)) 13 6 (lN 0)) 13 7 (some 0)) 13 6 = lN 0 := (q_Le rfl rfl : z_L (z_sL (z_sI h 13 5 (nI 0)) 13 6 (lN 0)) 13 6 = lN 0)
  have e5 : z_I (z_sR (z_sL (z_sI h 13 5 (nI 0)) 13 6 (lN 0)) 13 7 (some 0)) 13 5 = nI 0 := (q_Ie rfl rfl : z_I (z_sI h 13 5 (nI 0)) 13 5 = nI 0)
  have e7 : z_R (z_sR (z_sL (z_sI h 13 5 (nI 0)) 13 6 (lN 0)) 13 7 (some 0)) 13 7 = some 0 := q_Re rfl rfl
  generalize z_sR (z_sL (z_sI h 13 5 (nI 0)) 13 6 (lN 0)) 13 7 (some 0) = h1 at *
  have s1 := f1.s s
  have T1 := T.fr s f1
  have b91 : ¬ (lim < L ∧ lim ≤ q) → p_W (fX6_advance_b91 13 (nI q) h1) Q := fun hc => by
    unfold a_lexq at k
    rw [if_neg hc] at k
    unfold fX6_advance_b91
    simp (disch := first | assumption | omega) only [p_some, p_gd, p_br, p_bi, p_nm, p_mp, p_Sl, p_Sr, p_bis, p_gdt, Nat.not_lt_zero, Nat.reduceEqDiff, Nat.reduceLT, Nat.reduceLeDiff, true_and, and_true, true_implies, false_implies, not_true_eq_false, not_false_eq_true, implies_true, and_self, ne_eq, decide_true, decide_false, Bool.not_true, Bool.not_false, if_true, if_false, reduceIte, xk13 s1, xr13_0 s1, xk9 s1, T1.1, nI_ltI, r_lit]
    refine ⟨fun c => ?_, fun c => ?_⟩
    · rw [if_neg (by omega)] at k
      have f2 : x_fr xGo h1 (z_sI h1 13 3 (nI q)) := x_fr.rf.sI (fun _ => by unfold xGo; omega)
      refine x_readToken (h := z_sI h1 13 3 (nI q)) (f2.s s1) (T1.fr s1 f2) hb c ⟨e6, (q_In (by omega)).trans e5, q_Ie rfl rfl, e7⟩ (fun h2 f3 t3 => ?_)
      exact k h2 (f1.tr (f2.tr f3)) t3
    · rw [if_pos (by omega)] at k
      exact k _ ((f1.sI (fun _ => by unfold xGo; omega)).sI (fun _ => by unfold xGo; omega)) ⟨(q_In (by omega)).trans (q_Ie rfl rfl), q_Ie rfl rfl, e7.trans s_if0, Or.inl rfl⟩
  simp (disch := first | assumption | omega) only [p_some, p_gd, p_br, p_bi, p_nm, p_mp, p_Sl, p_Sr, p_bis, p_gdt, Nat.not_lt_zero, Nat.reduceEqDiff, Nat.reduceLT, Nat.reduceLeDiff, true_and, and_true, true_implies, false_implies, not_true_eq_false, not_false_eq_true, implies_true, and_self, ne_eq, decide_true, decide_false, Bool.not_true, Bool.not_false, if_true, if_false, reduceIte, xr13_0 s1, xk9 s1, T1.1, T1.2.1, nI_leI, nI_ltI]
  refine ⟨fun c => b91 (by omega), fun c => ⟨fun c2 => b91 (by omega), fun c2 => ?_⟩⟩
  unfold a_lexq at k
  rw [if_pos ⟨by omega, by omega⟩] at k
  exact k _ ((f1.sI (fun _ => by unfold xGo; omega)).sI (fun _ => by unfold xGo; omega)) ⟨(q_In (by omega)).trans (q_Ie rfl rfl), q_Ie rfl rfl, e7.trans s_if1, Or.inr (Or.inl rfl)⟩
theorem x_advLoop {h : z_T} {L lim : Nat} {by8 : Nat → Nat} {Q : z_T → Prop} (s : SX h) (T : xTape h L lim by8) (hb : BY L by8) (hl : lim ≤ 900) : ∀ m p, p + m = L → (∀ h', x_fr xGo h h' → xTok h' (a_lexq by8 L lim (a_run (fun i => a_B (by8 i)) m p)) → Q h') → p_W (y_lp (fun q => fX6_advance_b5_i 13 h q) (nI p)) Q := by
  intro m
  have hL := hb.1
  induction m with
  | zero =>
    intro p hp k
    refine p_unP (fun P hP => ?_)
    unfold fX6_advance_b5_i
    simp (disch := first | assumption | omega) only [p_some, p_gd, p_br, p_bi, p_nm, p_mp, p_Sl, p_Sr, p_bis, p_gdt, Nat.not_lt_zero, Nat.reduceEqDiff, Nat.reduceLT, Nat.reduceLeDiff, true_and, and_true, true_implies, false_implies, not_true_eq_false, not_false_eq_true, implies_true, and_self, ne_eq, decide_true, decide_false, Bool.not_true, Bool.not_false, if_true, if_false, reduceIte, xk13 s, xr13_0 s, xk9 s, T.1, nI_leI, show L ≤ p by omega]
    exact x_advEnd s T hb hl (by omega) k
  | succ m ih =>
    intro p hp k
    have at1 := x_at s T hb (show p < L by omega)
    have xB := s_xB _ (hb.2 p (by omega))
    have ihp := ih (p + 1) (by omega)
    rw [a_run] at k
    refine p_unP (fun P hP => ?_)
    have hPp := hP (nI (p + 1))
    have en : ¬ a_B (by8 p) = true → p_W (fX6_advance_b36 13 (nI p) h) Q := fun c => by
      rw [if_neg c] at k
      exact x_advEnd s T hb hl (by omega) k
    have nx : a_B (by8 p) = true → P (nI (p + 1)) := fun c => by
      rw [if_pos c] at k
      exact hPp (ihp k)
    clear k ih ihp hP hPp
    unfold fX6_advance_b5_i
    simp (disch := first | assumption | omega) only [p_some, p_gd, p_br, p_bi, p_nm, p_mp, p_Sl, p_Sr, p_bis, p_gdt, Nat.not_lt_zero, Nat.reduceEqDiff, Nat.reduceLT, Nat.reduceLeDiff, true_and, and_true, true_implies, false_implies, not_true_eq_false, not_false_eq_true, implies_true, and_self, ne_eq, decide_true, decide_false, Bool.not_true, Bool.not_false, if_true, if_false, reduceIte, xk13 s, xr13_0 s, xk9 s, T.1, nI_leI, show ¬ L ≤ p by omega, at1, xB, bI_0, r_lit, nI_add]
    exact ⟨en, fun c => nx (Classical.not_not.mp c)⟩
theorem x_adv {h : z_T} {L lim p : Nat} {by8 : Nat → Nat} {Q : z_T → Prop} (s : SX h) (T : xTape h L lim by8) (hb : BY L by8) (hl : lim ≤ 900) (hp : p ≤ L) (w : z_I h 13 2 = nI p) (k : ∀ h', x_fr xGo h h' → xTok h' (a_lex by8 L lim p) → Q h') : p_W (fX6_advance 13 h) Q := by
  unfold fX6_advance fX6_advance_b5
  simp (disch := first | assumption | omega) only [p_some, p_gd, p_br, p_bi, p_nm, p_mp, p_Sl, p_Sr, p_bis, p_gdt, Nat.not_lt_zero, Nat.reduceEqDiff, Nat.reduceLT, Nat.reduceLeDiff, true_and, and_true, true_implies, false_implies, not_true_eq_false, not_false_eq_true, implies_true, and_self, ne_eq, decide_true, decide_false, Bool.not_true, Bool.not_false, if_true, if_false, reduceIte, xk13 s, w]
  exact x_advLoop s T hb hl (L - p) p (by omega) k
