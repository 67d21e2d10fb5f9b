/-! the reference goes on to the next token -/
theorem mTok.S {t : Nat × Nat × Nat × Nat} (h : a_S t.1 = true) : t.1 = 59 ∨ t.1 = 40 ∨ t.1 = 41 ∨ t.1 = 60 ∨ t.1 = 61 ∨ t.1 = 62 := by
  unfold a_S at h
  rw [decide_eq_true_eq] at h
  exact h
theorem m_tok {h : z_T} {L lim q : Nat} {by8 : Nat → Nat} {Q : z_T → Prop} (s : SM h) (T : mTape h L lim by8) (hb : BY L by8) (hq : q < L) (w4 : z_I h 0 4 = nI q) (w12 : z_I h 0 12 = nI q) (w13 : z_I h 0 13 = nI 0)
    (k : ∀ h', m_fr mGo h h' → mTok h' (a_tok by8 L q) → Q h') : p_W (fX12_go_b80 0 h) Q := by
  have hL := hb.1
  have pk := m_peek s T hb hq w4
  have b8 := hb.2 _ hq
  have sm1 := s_sm _ b8
  have di1 := s_di _ b8
  have wd : a_A (by8 q) = true → p_W (fX12_go_b164 0 (nI (by8 q)) h) Q := fun hA => by
    unfold fX12_go_b164
    simp (disch := first | assumption | omega) only [p_some, p_gd, p_br, p_bi, p_nm, p_mp, p_Sl, p_Sr, p_bis, p_gdt, Nat.not_lt_zero, Nat.reduceEqDiff, Nat.reduceLT, Nat.reduceLeDiff, true_and, and_true, true_implies, false_implies, not_true_eq_false, not_false_eq_true, implies_true, and_self, ne_eq, decide_true, decide_false, Bool.not_true, Bool.not_false, if_true, if_false, reduceIte, mk0 s, sm1, r_lit, r_litL, q_okL]
    have f1 : m_fr mGo h (z_sI (z_sL h 0 17 (lN 0)) 0 14 (nI 0)) := (m_fr.rf.sL (by unfold mGo; omega)).sI (by unfold mGo; omega)
    have r := a_run_le (P := fun i => a_A (by8 i)) (L - q) q
    have ri := a_run_in (P := fun i => a_A (by8 i)) (L - q) q
    have ro := a_run_out (P := fun i => a_A (by8 i)) (L - q) q
    have rq : q < a_run (fun i => a_A (by8 i)) (L - q) q := by
      obtain ⟨d, hd⟩ : ∃ d, L - q = d + 1 := ⟨L - q - 1, by omega⟩
      have l2 := a_run_le (P := fun i => a_A (by8 i)) d (q + 1)
      rw [hd, a_run, if_pos hA]
      omega
    have et : a_tok by8 L q = a_tkN by8 q (a_run (fun i => a_A (by8 i)) (L - q) q - q) := by
      unfold a_tok a_tkN
      rw [if_pos hA, show q + (a_run (fun i => a_A (by8 i)) (L - q) q - q) = a_run (fun i => a_A (by8 i)) (L - q) q by omega]
    rw [et] at k
    generalize a_run (fun i => a_A (by8 i)) (L - q) q = e at *
    unfold fX12_go_b181
    exact m_wloop (n := e - q) (sm := a_L (by8 q)) hb (fun j hj => ⟨by omega, ri (q + j) (by omega) (by omega)⟩) (by omega) rfl (by
      by_cases c : e = L
      · exact Or.inl (by omega)
      · refine Or.inr ⟨by omega, ?_⟩
        rw [show q + (e - q) = e by omega]
        exact ro (by omega)) (e - q) 0 (by omega) _ Q (f1.s s) (T.fr f1) ⟨(q_In (by omega)).trans w4, (q_In (by omega)).trans w13, q_Le rfl rfl, q_Ie rfl rfl, (q_In (by omega)).trans w12⟩ (fun h2 f2 t2 => k h2 (f1.tr f2) t2)
  have cA : ¬ a_L (by8 q) = true → ¬ a_D (by8 q) = true → ¬ a_A (by8 q) = true := fun c1 c2 c => by
    unfold a_A at c
    rw [Bool.or_eq_true] at c
    exact c.elim c1 c2
  have sg : ¬ a_A (by8 q) = true → a_S (by8 q) = true → p_W (fX12_go_b140 0 (nI (by8 q)) 0 h) Q := fun hA hS => by
    have et : a_tok by8 L q = (by8 q, 0, q, q + 1) := by
      unfold a_tok
      rw [if_neg hA, if_pos hS]
    rw [et] at k
    unfold fX12_go_b140 fX12_go_b145
    simp (disch := first | assumption | omega) only [p_some, p_gd, p_br, p_bi, p_nm, p_mp, p_Sl, p_Sr, p_bis, p_gdt, q_IL, q_IR, q_LI, q_LR, q_RI, q_RL, q_KI, q_KL, q_KR, q_NI, q_NL, q_NR, q_nI, q_nL, q_nR, q_okI, q_okL, q_okR, q_Ie, q_In, q_Le, q_Ln, SM_I, SM_L, s_c0, s_cg0, s_cl0, s_cge, s_cle, r_le, r_lt, r_eq, r_md, r_2, r_3, r_lit, r_litL, r_m1, nI_add, nI_1, nI_clamp, nI_leI, nI_ltI, nI_eq, pk_sub, q_ix, nI_l, lN_add, lN_mul, r_m1n, r_m1n', r_m1lt, r_m1nlt, r_m1le, r_m1nle, Nat.not_lt_zero, Nat.reduceEqDiff, Nat.reduceLT, Nat.reduceLeDiff, true_and, and_true, true_implies, false_implies, not_true_eq_false, not_false_eq_true, implies_true, and_self, ne_eq, decide_true, decide_false, Bool.not_true, Bool.not_false, if_true, if_false, reduceIte, mk0, mk1, mk2, mk3, mk4, mk5, mk6, mk7, mk8, mk9, mk10, mk11, mk12, mk13, mk14, mk15, mk16, mk17, mk18, mk19, mk20, mk21, mk22, mn1, mn2, mn3, mn4, mn5, mn6, mn7, mn8, mn9, mn10, mn11, mn12, mn13, mn14, mn15, mn16, mn17, mn18, mn19, mn20, mn21, mn22, mr1, mr6, mr7, mr8, mr9, mr10, mr21, mr22, mr23, mr25, mr26, mr29, mr30, mr32, mr33, mr34, mr43, mr47, mr53, mr54, mr55, mr56, w4]
    refine k _ (((m_fr.rf.sI (by unfold mGo; omega)).sI (by unfold mGo; omega)).sI (by unfold mGo; omega)) ⟨?_, Or.inr (Or.inr (Or.inr (Or.inr ⟨hS, ?_, ?_, ?_⟩)))⟩
    · rw [q_In (by omega), q_In (by omega), q_In (by omega)]; exact w12
    · rw [q_In (by omega), q_In (by omega), q_Ie rfl rfl]
    · rw [q_In (by omega), q_Ie rfl rfl]
    · exact q_Ie rfl rfl
  have ns : ¬ a_A (by8 q) = true → ¬ a_S (by8 q) = true → p_W (fX12_go_b144 0 (nI (by8 q)) 0 h) Q := fun hA hS => by
    have et : a_tok by8 L q = (1, 0, q, 0) := by
      unfold a_tok
      rw [if_neg hA, if_neg hS]
    rw [et] at k
    unfold fX12_go_b144 fX12_go_b145
    simp (disch := first | assumption | omega) only [p_some, p_gd, p_br, p_bi, p_nm, p_mp, p_Sl, p_Sr, p_bis, p_gdt, q_IL, q_IR, q_LI, q_LR, q_RI, q_RL, q_KI, q_KL, q_KR, q_NI, q_NL, q_NR, q_nI, q_nL, q_nR, q_okI, q_okL, q_okR, q_Ie, q_In, q_Le, q_Ln, SM_I, SM_L, s_c0, s_cg0, s_cl0, s_cge, s_cle, r_le, r_lt, r_eq, r_md, r_2, r_3, r_lit, r_litL, r_m1, nI_add, nI_1, nI_clamp, nI_leI, nI_ltI, nI_eq, pk_sub, q_ix, nI_l, lN_add, lN_mul, r_m1n, r_m1n', r_m1lt, r_m1nlt, r_m1le, r_m1nle, Nat.not_lt_zero, Nat.reduceEqDiff, Nat.reduceLT, Nat.reduceLeDiff, true_and, and_true, true_implies, false_implies, not_true_eq_false, not_false_eq_true, implies_true, and_self, ne_eq, decide_true, decide_false, Bool.not_true, Bool.not_false, if_true, if_false, reduceIte, mk0, mk1, mk2, mk3, mk4, mk5, mk6, mk7, mk8, mk9, mk10, mk11, mk12, mk13, mk14, mk15, mk16, mk17, mk18, mk19, mk20, mk21, mk22, mn1, mn2, mn3, mn4, mn5, mn6, mn7, mn8, mn9, mn10, mn11, mn12, mn13, mn14, mn15, mn16, mn17, mn18, mn19, mn20, mn21, mn22, mr1, mr6, mr7, mr8, mr9, mr10, mr21, mr22, mr23, mr25, mr26, mr29, mr30, mr32, mr33, mr34, mr43, mr47, mr53, mr54, mr55, mr56, w4]
    refine k _ (((m_fr.rf.sI (by unfold mGo; omega)).sI (by unfold mGo; omega)).sI (by unfold mGo; omega)) ⟨?_, Or.inr (Or.inl ⟨rfl, ?_⟩)⟩
    · rw [q_In (by omega), q_In (by omega), q_In (by omega)]; exact w12
    · rw [q_In (by omega), q_In (by omega), q_Ie rfl rfl]
  have hS : (a_S (by8 q) = true) ↔ (by8 q = 59 ∨ by8 q = 40 ∨ by8 q = 41 ∨ by8 q = 60 ∨ by8 q = 61 ∨ by8 q = 62) := by
    unfold a_S
    exact decide_eq_true_iff
  clear k
  unfold fX12_go_b80
  generalize by8 q = C at *
  simp (disch := first | assumption | omega) only [p_some, p_gd, p_br, p_bi, p_nm, p_mp, p_Sl, p_Sr, p_bis, p_gdt, Nat.not_lt_zero, Nat.reduceEqDiff, Nat.reduceLT, Nat.reduceLeDiff, true_and, and_true, true_implies, false_implies, not_true_eq_false, not_false_eq_true, implies_true, and_self, ne_eq, decide_true, decide_false, Bool.not_true, Bool.not_false, if_true, if_false, reduceIte, mk0 s, pk, r_lit, nI_leI, Nat.zero_le, sm1, di1, bI_0, nI_eq, nI_ltI]
  refine ⟨fun cL => ⟨fun cD => ⟨fun e => sg (cA cL cD) (hS.mpr (by omega)), fun e1 => ⟨fun e => sg (cA cL cD) (hS.mpr (by omega)), fun e2 => ⟨fun e => sg (cA cL cD) (hS.mpr (by omega)), fun e3 => ⟨fun e4 => ns (cA cL cD) (fun q => by have := hS.mp q; omega), fun e4 => ⟨fun e5 => ns (cA cL cD) (fun q => by have := hS.mp q; omega), fun e5 => sg (cA cL cD) (hS.mpr (by omega))⟩⟩⟩⟩⟩, fun cD => wd ?_⟩, fun cL => wd ?_⟩
  · unfold a_A
    rw [Bool.or_eq_true]
    exact Or.inr (Classical.not_not.mp cD)
  · unfold a_A
    rw [Bool.or_eq_true]
    exact Or.inl (Classical.not_not.mp cL)
def a_lexq (by8 : Nat → Nat) (L lim q : Nat) : Nat × Nat × Nat × Nat := if lim < L ∧ lim ≤ q then (1, 0, lim, 0) else if L ≤ q then (0, 0, L, 0) else a_tok by8 L q
theorem m_goEnd {h : z_T} {L lim q : Nat} {by8 : Nat → Nat} {P Q : z_T → Prop} (s : SM h) (T : mTape h L lim by8) (hb : BY L by8) (hl : lim ≤ 900) (hq : q ≤ L) (hB : q < L → a_B (by8 q) = false) (w4 : z_I h 0 4 = nI q)
    (k : ∀ h', m_fr mGo h h' → mTok h' (a_lexq by8 L lim q) → Q h') : p_W (fX12_go_b0_i 0 h) (p_S P Q) := by
  have hL := hb.1
  have f1 : m_fr mGo h (z_sI (z_sI h 0 12 (nI q)) 0 13 (nI 0)) := (m_fr.rf.sI (by unfold mGo; omega)).sI (by unfold mGo; omega)
  have j3 : z_I (z_sI (z_sI h 0 12 (nI q)) 0 13 (nI 0)) 0 3 = nI L := (f1.I 0 3 (by unfold mGo; omega)).trans T.1
  have j5 : z_I (z_sI (z_sI h 0 12 (nI q)) 0 13 (nI 0)) 0 5 = nI lim := (f1.I 0 5 (by unfold mGo; omega)).trans T.2.1
  have j4 : z_I (z_sI (z_sI h 0 12 (nI q)) 0 13 (nI 0)) 0 4 = nI q := (q_In (by omega)).trans ((q_In (by omega)).trans w4)
  have j12 : z_I (z_sI (z_sI h 0 12 (nI q)) 0 13 (nI 0)) 0 12 = nI q := (q_In (by omega)).trans (q_Ie rfl rfl)
  have j13 : z_I (z_sI (z_sI h 0 12 (nI q)) 0 13 (nI 0)) 0 13 = nI 0 := q_Ie rfl rfl
  have b80 : ¬ (lim < L ∧ lim ≤ q) → p_W (fX12_go_b80 0 (z_sI (z_sI h 0 12 (nI q)) 0 13 (nI 0))) Q := fun hc => by
    unfold a_lexq at k
    rw [if_neg hc] at k
    by_cases c : q < L
    · rw [if_neg (by omega)] at k
      exact m_tok (f1.s s) (T.fr f1) hb c j4 j12 j13 (fun h2 f2 t2 => k h2 (f1.tr f2) t2)
    · rw [if_pos (by omega)] at k
      have e : q = L := by omega
      subst e
      have pk := m_peekE (f1.s s) (T.fr f1) hb (Nat.le_refl q) (by omega) j4
      have s1 := f1.s s
      unfold fX12_go_b80
      simp (disch := first | assumption | omega) only [p_some, p_gd, p_br, p_bi, p_nm, p_mp, p_Sl, p_Sr, p_bis, p_gdt, Nat.not_lt_zero, Nat.reduceEqDiff, Nat.reduceLT, Nat.reduceLeDiff, true_and, and_true, true_implies, false_implies, not_true_eq_false, not_false_eq_true, implies_true, and_self, ne_eq, decide_true, decide_false, Bool.not_true, Bool.not_false, if_true, if_false, reduceIte, mk0 s1, pk, r_lit, r_m1nle]
      exact k _ (f1.sI (by unfold mGo; omega)) ⟨(q_In (by omega)).trans j12, Or.inl ⟨rfl, q_Ie rfl rfl⟩⟩
  have rest : (L ≤ lim → p_W (fX12_go_b80 0 (z_sI (z_sI h 0 12 (nI q)) 0 13 (nI 0))) Q) ∧ (¬ L ≤ lim → (q < lim → p_W (fX12_go_b80 0 (z_sI (z_sI h 0 12 (nI q)) 0 13 (nI 0))) Q) ∧ (¬ q < lim → Q (z_sI (z_sI (z_sI (z_sI h 0 12 (nI q)) 0 13 (nI 0)) 0 12 (nI lim)) 0 11 (nI 4)))) := by
    refine ⟨fun c => b80 (by omega), fun c => ⟨fun c2 => b80 (by omega), fun c2 => ?_⟩⟩
    unfold a_lexq at k
    rw [if_pos ⟨by omega, by omega⟩] at k
    exact k _ ((f1.sI (by unfold mGo; omega)).sI (by unfold mGo; omega)) ⟨(q_In (by omega)).trans (q_Ie rfl rfl), Or.inr (Or.inl ⟨rfl, q_Ie rfl rfl⟩)⟩
  unfold fX12_go_b0_i
  by_cases c : q < L
  · have pk := m_peek s T hb c w4
    have nb := hB c
    unfold a_B at nb
    rw [decide_eq_false_iff_not] at nb
    have b8 := hb.2 _ c
    clear k b80
    generalize by8 q = C at *
    simp (disch := first | assumption | omega) only [p_some, p_gd, p_br, p_bi, p_nm, p_mp, p_Sl, p_Sr, p_bis, p_gdt, Nat.not_lt_zero, Nat.reduceEqDiff, Nat.reduceLT, Nat.reduceLeDiff, true_and, and_true, true_implies, false_implies, not_true_eq_false, not_false_eq_true, implies_true, and_self, ne_eq, decide_true, decide_false, Bool.not_true, Bool.not_false, if_true, if_false, reduceIte, mk0 s, pk, r_lit, nI_eq, show ¬ C = 32 by omega, show ¬ C = 10 by omega, w4, j3, j5, j4, nI_leI, nI_ltI]
    exact rest
  · have pk := m_peekE s T hb (show L ≤ q by omega) (by omega) w4
    clear k b80
    simp (disch := first | assumption | omega) only [p_some, p_gd, p_br, p_bi, p_nm, p_mp, p_Sl, p_Sr, p_bis, p_gdt, Nat.not_lt_zero, Nat.reduceEqDiff, Nat.reduceLT, Nat.reduceLeDiff, true_and, and_true, true_implies, false_implies, not_true_eq_false, not_false_eq_true, implies_true, and_self, ne_eq, decide_true, decide_false, Bool.not_true, Bool.not_false, if_true, if_false, reduceIte, mk0 s, pk, r_lit, r_m1n', w4, j3, j5, j4, nI_leI, nI_ltI]
    exact rest
theorem m_goLoop {L lim : Nat} {by8 : Nat → Nat} (hb : BY L by8) (hl : lim ≤ 900) : ∀ m p, p + m = L → ∀ (h : z_T) (Q : z_T → Prop), SM h → mTape h L lim by8 → z_I h 0 4 = nI p → (∀ h', m_fr mGo h h' → mTok h' (a_lexq by8 L lim (a_run (fun i => a_B (by8 i)) m p)) → Q h') → p_W (y_lp (fun q => fX12_go_b0_i 0 q) h) Q := by
  intro m
  have hL := hb.1
  induction m with
  | zero =>
    intro p hp h Q s T w4 k
    refine p_unP (fun P hP => ?_)
    exact m_goEnd s T hb hl (by omega) (fun q => absurd q (by omega)) w4 k
  | succ m ih =>
    intro p hp h Q s T w4 k
    refine p_unP (fun P hP => ?_)
    rw [a_run] at k
    by_cases c : a_B (by8 p) = true
    · rw [if_pos c] at k
      have pk := m_peek s T hb (show p < L by omega) w4
      have b8 := hb.2 _ (show p < L by omega)
      have f1 : m_fr mGo h (z_sI h 0 4 (nI (p + 1))) := m_fr.rf.sI (by unfold mGo; omega)
      have nx : p_W (fX12_go_b18 0 h) (p_S P Q) := by
        unfold fX12_go_b18
        simp (disch := first | assumption | omega) only [p_some, p_gd, p_br, p_bi, p_nm, p_mp, p_Sl, p_Sr, p_bis, p_gdt, Nat.not_lt_zero, Nat.reduceEqDiff, Nat.reduceLT, Nat.reduceLeDiff, true_and, and_true, true_implies, false_implies, not_true_eq_false, not_false_eq_true, implies_true, and_self, ne_eq, decide_true, decide_false, Bool.not_true, Bool.not_false, if_true, if_false, reduceIte, mk0 s, w4, r_lit, nI_add]
        exact hP _ (ih (p + 1) (by omega) _ Q (f1.s s) (T.fr f1) (q_Ie rfl rfl) (fun h2 f2 t2 => k h2 (f1.tr f2) t2))
      unfold a_B at c
      rw [decide_eq_true_eq] at c
      clear k ih
      unfold fX12_go_b0_i
      generalize by8 p = C at *
      simp (disch := first | assumption | omega) only [p_some, p_gd, p_br, p_bi, p_nm, p_mp, p_Sl, p_Sr, p_bis, p_gdt, Nat.not_lt_zero, Nat.reduceEqDiff, Nat.reduceLT, Nat.reduceLeDiff, true_and, and_true, true_implies, false_implies, not_true_eq_false, not_false_eq_true, implies_true, and_self, ne_eq, decide_true, decide_false, Bool.not_true, Bool.not_false, if_true, if_false, reduceIte, mk0 s, pk, r_lit, nI_eq]
      refine ⟨fun _ => nx, fun c1 => ⟨fun _ => nx, fun c2 => absurd c (by omega)⟩⟩
    · rw [if_neg c] at k
      exact m_goEnd s T hb hl (by omega) (fun _ => Bool.eq_false_iff.mpr c) w4 k
theorem m_go {h : z_T} {L lim p : Nat} {by8 : Nat → Nat} {Q : z_T → Prop} (s : SM h) (T : mTape h L lim by8) (hb : BY L by8) (hl : lim ≤ 900) (hp : p ≤ L) (w4 : z_I h 0 4 = nI p) (k : ∀ h', m_fr mGo h h' → mTok h' (a_lex by8 L lim p) → Q h') : p_W (fX12_go 0 h) Q := by
  unfold fX12_go fX12_go_b0
  exact m_goLoop hb hl (L - p) p (by omega) h Q s T w4 k
