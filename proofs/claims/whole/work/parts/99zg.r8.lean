/-! the reference reads a token: words, numbers -/
theorem a_cl_1 {by8 : Nat → Nat} {q : Nat} (h : a_L (by8 q) = true) : ∀ n, 1 ≤ a_cl by8 q (n + 1)
  | 0 => by rw [a_cl_s, Nat.add_zero, if_pos h]; omega
  | n + 1 => by have := a_cl_1 h n; rw [a_cl_s]; omega
theorem a_cl_0 {by8 : Nat → Nat} {q : Nat} (h : a_L (by8 q) = false) : ∀ n, a_cl by8 q (n + 1) ≤ n
  | 0 => by
    rw [a_cl_s, Nat.add_zero, if_neg (by rw [h]; decide)]
    exact Nat.le_refl 0
  | n + 1 => by
    have := a_cl_0 h n
    rw [a_cl_s]
    split <;> omega
def mWi (h : z_T) (by8 : Nat → Nat) (q i : Nat) : Prop := z_I h 0 4 = nI (q + i) ∧ z_I h 0 13 = nI i ∧ z_L h 0 17 = a_W8 by8 q i ∧ z_I h 0 14 = a_N8 by8 q i ∧ z_I h 0 12 = nI q
theorem m_b275 {h : z_T} {q i : Nat} {W : Int64} {N x2 s0 : Int32} {P : Int32 × z_T → Prop} {R : z_T → Prop} (s : SM h) (w : z_I h 0 4 = nI (q + i) ∧ z_I h 0 13 = nI i ∧ z_L h 0 17 = W ∧ z_I h 0 14 = N ∧ z_I h 0 12 = nI q)
    (k : ∀ h', m_fr mGo h h' → (z_I h' 0 4 = nI (q + (i + 1)) ∧ z_I h' 0 13 = nI (i + 1) ∧ z_L h' 0 17 = W ∧ z_I h' 0 14 = N ∧ z_I h' 0 12 = nI q) → P (s0, h')) : p_W (fX12_go_b275 0 x2 s0 h) (p_S P R) := by
  obtain ⟨w1, w2, w3, w4, w5⟩ := w
  unfold fX12_go_b275
  simp (disch := first | assumption | omega) only [p_some, p_gd, p_br, p_bi, p_nm, p_mp, p_Sl, p_Sr, p_bis, p_gdt, q_IL, q_IR, q_LI, q_LR, q_RI, q_RL, q_KI, q_KL, q_KR, q_NI, q_NL, q_NR, q_nI, q_nL, q_nR, q_okI, q_okL, q_okR, q_Ie, q_In, q_Le, q_Ln, SM_I, SM_L, s_c0, s_cg0, s_cl0, s_cge, s_cle, r_le, r_lt, r_eq, r_md, r_2, r_3, r_lit, r_litL, r_m1, nI_add, nI_1, nI_clamp, nI_leI, nI_ltI, nI_eq, pk_sub, q_ix, nI_l, lN_add, lN_mul, r_m1n, r_m1n', r_m1lt, r_m1nlt, r_m1le, r_m1nle, Nat.not_lt_zero, Nat.reduceEqDiff, Nat.reduceLT, Nat.reduceLeDiff, true_and, and_true, true_implies, false_implies, not_true_eq_false, not_false_eq_true, implies_true, and_self, ne_eq, decide_true, decide_false, Bool.not_true, Bool.not_false, if_true, if_false, reduceIte, mk0, mk1, mk2, mk3, mk4, mk5, mk6, mk7, mk8, mk9, mk10, mk11, mk12, mk13, mk14, mk15, mk16, mk17, mk18, mk19, mk20, mk21, mk22, mn1, mn2, mn3, mn4, mn5, mn6, mn7, mn8, mn9, mn10, mn11, mn12, mn13, mn14, mn15, mn16, mn17, mn18, mn19, mn20, mn21, mn22, mr1, mr6, mr7, mr8, mr9, mr10, mr21, mr22, mr23, mr25, mr26, mr29, mr30, mr32, mr33, mr34, mr43, mr47, mr53, mr54, mr55, mr56, w1, w2]
  refine k _ ((m_fr.rf.sI (by unfold mGo; omega)).sI (by unfold mGo; omega)) ⟨?_, ?_, w3, ?_, ?_⟩
  · rw [q_Ie rfl rfl, Nat.add_assoc]
  · rw [q_In (by omega), q_Ie rfl rfl]
  · rw [q_In (by omega), q_In (by omega), w4]
  · rw [q_In (by omega), q_In (by omega), w5]
theorem m_b248 {h : z_T} {L lim q i : Nat} {by8 : Nat → Nat} {W : Int64} {x2 s0 : Int32} {P : Int32 × z_T → Prop} {R : z_T → Prop} (s : SM h) (T : mTape h L lim by8) (hb : BY L by8) (hi : q + i < L) (w : z_I h 0 4 = nI (q + i) ∧ z_I h 0 13 = nI i ∧ z_L h 0 17 = W ∧ z_I h 0 14 = a_N8 by8 q i ∧ z_I h 0 12 = nI q)
    (k : ∀ h', m_fr mGo h h' → (z_I h' 0 4 = nI (q + (i + 1)) ∧ z_I h' 0 13 = nI (i + 1) ∧ z_L h' 0 17 = W ∧ z_I h' 0 14 = a_N8 by8 q (i + 1) ∧ z_I h' 0 12 = nI q) → P (s0, h')) : p_W (fX12_go_b248 0 x2 s0 h) (p_S P R) := by
  have pk := m_peek s T hb hi w.1
  obtain ⟨w1, w2, w3, w4, w5⟩ := w
  have hL := hb.1
  rw [a_N8] at k
  unfold fX12_go_b248
  generalize a_N8 by8 q i = N at *
  generalize by8 (q + i) = C at *
  simp (disch := first | assumption | omega) only [p_some, p_gd, p_br, p_bi, p_nm, p_mp, p_Sl, p_Sr, p_bis, p_gdt, Nat.not_lt_zero, Nat.reduceEqDiff, Nat.reduceLT, Nat.reduceLeDiff, true_and, and_true, true_implies, false_implies, not_true_eq_false, not_false_eq_true, implies_true, and_self, ne_eq, decide_true, decide_false, Bool.not_true, Bool.not_false, if_true, if_false, reduceIte, mk0 s, w2, r_lit, nI_leI]
  refine ⟨fun c => ?_, fun c => ?_⟩
  · rw [if_neg (by omega)] at k
    exact m_b275 s ⟨w1, w2, w3, w4, w5⟩ k
  · rw [if_pos (by omega)] at k
    simp (disch := first | assumption | omega) only [p_some, p_gd, p_br, p_bi, p_nm, p_mp, p_Sl, p_Sr, p_bis, p_gdt, Nat.not_lt_zero, Nat.reduceEqDiff, Nat.reduceLT, Nat.reduceLeDiff, true_and, and_true, true_implies, false_implies, not_true_eq_false, not_false_eq_true, implies_true, and_self, ne_eq, decide_true, decide_false, Bool.not_true, Bool.not_false, if_true, if_false, reduceIte, pk, w4]
    refine m_b275 (h := z_sI h 0 14 _) s ⟨?_, ?_, w3, q_Ie rfl rfl, ?_⟩ (fun h' f' w' => k h' ((m_fr.rf.sI (by unfold mGo; omega)).tr f') w')
    · rw [q_In (by omega), w1]
    · rw [q_In (by omega), w2]
    · rw [q_In (by omega), w5]
theorem m_b221 {h : z_T} {L lim q i : Nat} {by8 : Nat → Nat} {x2 s0 : Int32} {P : Int32 × z_T → Prop} {R : z_T → Prop} (s : SM h) (T : mTape h L lim by8) (hb : BY L by8) (hi : q + i < L) (w : mWi h by8 q i) (k : ∀ h', m_fr mGo h h' → mWi h' by8 q (i + 1) → P (s0, h')) : p_W (fX12_go_b221 0 x2 s0 h) (p_S P R) := by
  have pk := m_peek s T hb hi w.1
  obtain ⟨w1, w2, w3, w4, w5⟩ := w
  have hL := hb.1
  have eW : a_W8 by8 q (i + 1) = if i < 7 then (a_W8 by8 q i <<< ((nI 8).toInt64 &&& lN 63)) ||| (nI (by8 (q + i))).toInt64 else a_W8 by8 q i := rfl
  unfold mWi at k
  unfold fX12_go_b221
  generalize a_W8 by8 q i = W at *
  generalize a_W8 by8 q (i + 1) = W' at *
  simp (disch := first | assumption | omega) only [p_some, p_gd, p_br, p_bi, p_nm, p_mp, p_Sl, p_Sr, p_bis, p_gdt, Nat.not_lt_zero, Nat.reduceEqDiff, Nat.reduceLT, Nat.reduceLeDiff, true_and, and_true, true_implies, false_implies, not_true_eq_false, not_false_eq_true, implies_true, and_self, ne_eq, decide_true, decide_false, Bool.not_true, Bool.not_false, if_true, if_false, reduceIte, mk0 s, w2, r_lit, r_litL, nI_leI]
  refine ⟨fun c => ?_, fun c => ?_⟩
  · rw [if_neg (by omega)] at eW
    subst eW
    exact m_b248 s T hb hi ⟨w1, w2, w3, w4, w5⟩ k
  · rw [if_pos (by omega)] at eW
    simp (disch := first | assumption | omega) only [p_some, p_gd, p_br, p_bi, p_nm, p_mp, p_Sl, p_Sr, p_bis, p_gdt, Nat.not_lt_zero, Nat.reduceEqDiff, Nat.reduceLT, Nat.reduceLeDiff, true_and, and_true, true_implies, false_implies, not_true_eq_false, not_false_eq_true, implies_true, and_self, ne_eq, decide_true, decide_false, Bool.not_true, Bool.not_false, if_true, if_false, reduceIte, pk, w3]
    have f1 : m_fr mGo h (z_sL h 0 17 ((W <<< ((nI 8).toInt64 &&& lN 63)) ||| (nI (by8 (q + i))).toInt64)) := m_fr.rf.sL (by unfold mGo; omega)
    refine m_b248 (h := z_sL h 0 17 _) s (T.fr f1) hb hi ⟨w1, w2, ?_, w4, w5⟩ (fun h' f' w' => k h' (f1.tr f') w')
    rw [q_Le rfl rfl, eW]
theorem s_bq {a b : Bool} : (bI (a = true) = bI (b = true)) = (a = b) := by
  cases a <;> cases b <;> decide
theorem s_b1 {a : Bool} (h : a = true) : bI (a = true) = nI 1 := if_pos h
theorem s_b0 {a : Bool} (h : a = false) : bI (a = true) = nI 0 := if_neg (by rw [h]; decide)
def a_tkN (by8 : Nat → Nat) (q n : Nat) : Nat × Nat × Nat × Nat := if a_cl by8 q n = n ∧ n ≤ 7 then (2, a_w5 by8 q n, q, q + n) else if a_cl by8 q n = 0 ∧ n ≤ 2 then (3, a_nu by8 q n, q, q + n) else (1, 0, q, 0)
theorem m_wEnd {h : z_T} {L lim q n : Nat} {by8 : Nat → Nat} {sm : Bool} {Q : z_T → Prop} (s : SM h) (T : mTape h L lim by8) (hb : BY L by8) (hn : ∀ j, j < n → q + j < L ∧ a_A (by8 (q + j)) = true) (h0 : 0 < n) (hs : a_L (by8 q) = sm) (he : q + n = L ∨ (q + n < L ∧ a_A (by8 (q + n)) = false)) (w : mWi h by8 q n)
    (k : ∀ h', m_fr mGo h h' → mTok h' (a_tkN by8 q n) → Q h') : p_W (fX12_go_b181_i 0 (bI (sm = true)) (bI (a_al by8 q sm n = true)) h) (p_S (fun _ => False) Q) := by
  have hL := hb.1
  have ae := a_al_e (by8 := by8) (q := q) (sm := sm) (i := n)
  obtain ⟨w1, w2, w3, w4, w5⟩ := w
  have fin : ∀ K : Nat, K ≤ 4 → mTok (z_sI h 0 11 (nI K)) (a_tkN by8 q n) → Q (z_sI h 0 11 (nI K)) := fun K _ t => k _ (m_fr.rf.sI (by unfold mGo; omega)) t
  have e11 : ∀ K : Nat, z_I (z_sI h 0 11 (nI K)) 0 11 = nI K := fun K => q_Ie rfl rfl
  have e12 : ∀ K : Nat, z_I (z_sI h 0 11 (nI K)) 0 12 = nI q := fun K => (q_In (by omega)).trans w5
  have e4 : ∀ K : Nat, z_I (z_sI h 0 11 (nI K)) 0 4 = nI (q + n) := fun K => (q_In (by omega)).trans w1
  have e14 : ∀ K : Nat, z_I (z_sI h 0 11 (nI K)) 0 14 = a_N8 by8 q n := fun K => (q_In (by omega)).trans w4
  have e17 : ∀ K : Nat, z_L (z_sI h 0 11 (nI K)) 0 17 = a_W8 by8 q n := fun K => w3
  obtain ⟨n', rfl⟩ : ∃ n', n = n' + 1 := ⟨n - 1, by omega⟩
  have bad : ¬ (a_cl by8 q (n' + 1) = n' + 1 ∧ n' + 1 ≤ 7) → ¬ (a_cl by8 q (n' + 1) = 0 ∧ n' + 1 ≤ 2) → mTok (z_sI h 0 11 (nI 4)) (a_tkN by8 q (n' + 1)) := fun c1 c2 => by
    unfold a_tkN
    rw [if_neg c1, if_neg c2]
    exact ⟨e12 4, Or.inr (Or.inl ⟨rfl, e11 4⟩)⟩
  have end2 : p_W (y_br (bI (a_al by8 q sm (n' + 1) = true) = 0) (fX12_go_b320 0 h) (y_br (bI (sm = true) = 0) (fX12_go_b317 (bI (sm = true)) 0 (z_I h 0 13) (2 : Int32) h) (fX12_go_b317 (bI (sm = true)) 0 (z_I h 0 13) (7 : Int32) h))) Q := by
    unfold fX12_go_b317 fX12_go_b320
    simp (disch := first | assumption | omega) only [p_some, p_gd, p_br, p_bi, p_nm, p_mp, p_Sl, p_Sr, p_bis, p_gdt, Nat.not_lt_zero, Nat.reduceEqDiff, Nat.reduceLT, Nat.reduceLeDiff, true_and, and_true, true_implies, false_implies, not_true_eq_false, not_false_eq_true, implies_true, and_self, ne_eq, decide_true, decide_false, Bool.not_true, Bool.not_false, if_true, if_false, reduceIte, mk0 s, w2, r_lit, nI_leI, bI_0]
    cases sm with
    | true =>
      have c1 := a_cl_1 hs n'
      refine ⟨fun c => fin 4 (by decide) (bad (fun q => c (ae.mpr q.1)) (fun q => by omega)), fun c => ⟨fun q => absurd rfl q, fun _ => ⟨fun c7 => ⟨fun q => absurd rfl q, fun _ => fin 1 (by decide) ?_⟩, fun c7 => fin 4 (by decide) (bad (fun q => by omega) (fun q => by omega))⟩⟩⟩
      have cl := ae.mp (Classical.not_not.mp c)
      rw [if_pos rfl] at cl
      have c7 : n' + 1 ≤ 7 := by omega
      unfold a_tkN
      rw [if_pos ⟨cl, c7⟩]
      exact ⟨e12 1, Or.inr (Or.inr (Or.inl ⟨rfl, e11 1, (e17 1).trans (a_W8_e c7 cl), a_w5_pos cl (by omega), Nat.lt_of_lt_of_le (a_w5_lt cl) (Nat.pow_le_pow_right (by decide) c7), e4 1⟩))⟩
    | false =>
      have c1 := a_cl_0 hs n'
      refine ⟨fun c => fin 4 (by decide) (bad (fun q => by omega) (fun q => c (ae.mpr (by rw [if_neg (by decide)]; exact q.1)))), fun c => ⟨fun _ => ⟨fun c7 => ⟨fun _ => fin 2 (by decide) ?_, fun q => absurd (by decide) q⟩, fun c7 => fin 4 (by decide) (bad (fun q => by omega) (fun q => by omega))⟩, fun q => absurd (by decide) q⟩⟩
      have cl := ae.mp (Classical.not_not.mp c)
      rw [if_neg (by decide)] at cl
      have c7 : n' + 1 ≤ 2 := by omega
      have ha : ∀ j, j < n' + 1 → a_A (by8 (q + j)) = true := fun j hj => (hn j hj).2
      have nl := Nat.lt_of_lt_of_le (a_nu_lt cl ha) (Nat.pow_le_pow_right (show 0 < 10 by decide) c7)
      unfold a_tkN
      rw [if_neg (by omega), if_pos ⟨cl, c7⟩]
      exact ⟨e12 2, Or.inr (Or.inr (Or.inr (Or.inl ⟨rfl, e11 2, (e14 2).trans (a_N8_e c7 cl ha), nl, e4 2⟩)))⟩
  unfold fX12_go_b181_i
  rcases he with he | ⟨he, hA⟩
  · have pk := m_peekE s T hb (show L ≤ q + (n' + 1) by omega) (by omega) w1
    simp (disch := first | assumption | omega) only [p_some, p_gd, p_br, p_bi, p_nm, p_mp, p_Sl, p_Sr, p_bis, p_gdt, Nat.not_lt_zero, Nat.reduceEqDiff, Nat.reduceLT, Nat.reduceLeDiff, true_and, and_true, true_implies, false_implies, not_true_eq_false, not_false_eq_true, implies_true, and_self, ne_eq, decide_true, decide_false, Bool.not_true, Bool.not_false, if_true, if_false, reduceIte, mk0 s, pk, s_smm, s_dim, r_lit]
    exact end2
  · have pk := m_peek s T hb he w1
    have b8 := hb.2 _ he
    have sm1 := s_sm _ b8
    have di1 := s_di _ b8
    unfold a_A at hA
    rw [Bool.or_eq_false_iff] at hA
    rw [s_b0 hA.1] at sm1
    rw [s_b0 hA.2] at di1
    simp (disch := first | assumption | omega) only [p_some, p_gd, p_br, p_bi, p_nm, p_mp, p_Sl, p_Sr, p_bis, p_gdt, Nat.not_lt_zero, Nat.reduceEqDiff, Nat.reduceLT, Nat.reduceLeDiff, true_and, and_true, true_implies, false_implies, not_true_eq_false, not_false_eq_true, implies_true, and_self, ne_eq, decide_true, decide_false, Bool.not_true, Bool.not_false, if_true, if_false, reduceIte, mk0 s, pk, sm1, di1, r_lit]
    exact end2
theorem m_wloop {L lim q n : Nat} {by8 : Nat → Nat} {sm : Bool} (hb : BY L by8) (hn : ∀ j, j < n → q + j < L ∧ a_A (by8 (q + j)) = true) (h0 : 0 < n) (hs : a_L (by8 q) = sm) (he : q + n = L ∨ (q + n < L ∧ a_A (by8 (q + n)) = false)) : ∀ m i, i + m = n → ∀ (h : z_T) (Q : z_T → Prop), SM h → mTape h L lim by8 → mWi h by8 q i → (∀ h', m_fr mGo h h' → mTok h' (a_tkN by8 q n) → Q h') → p_W (y_lp (fun w : Int32 × z_T => fX12_go_b181_i 0 (bI (sm = true)) w.1 w.2) (bI (a_al by8 q sm i = true), h)) Q := by
  intro m
  induction m with
  | zero =>
    intro i hi h Q s T w k
    have : i = n := hi
    subst this
    refine p_unP (fun P hP => ?_)
    have := m_wEnd s T hb hn h0 hs he w k
    refine p_mono this (fun v hv => ?_)
    cases v with
    | inl v => exact absurd hv id
    | inr v => exact hv
  | succ m ih =>
    intro i hi h Q s T w k
    obtain ⟨hq, hA⟩ := hn i (by omega)
    have pk := m_peek s T hb hq w.1
    have b8 := hb.2 _ hq
    have sm1 := s_sm _ b8
    have di1 := s_di _ b8
    refine p_unP (fun P hP => ?_)
    have nx : ∀ s0, s0 = bI (a_al by8 q sm (i + 1) = true) → p_W (fX12_go_b221 0 (bI (sm = true)) s0 h) (p_S P Q) := fun s0 e0 => by
      refine m_b221 s T hb hq w (fun h1 f1 w1 => ?_)
      rw [e0]
      refine hP _ ?_
      exact ih (i + 1) (by omega) h1 Q (f1.s s) (T.fr f1) w1 (fun h2 f2 t2 => k h2 (f1.tr f2) t2)
    have eal : a_al by8 q sm (i + 1) = (a_al by8 q sm i && decide (a_L (by8 (q + i)) = sm)) := rfl
    have b201 : p_W (fX12_go_b201 0 (bI (sm = true)) (bI (a_al by8 q sm i = true)) h) (p_S P Q) := by
      unfold fX12_go_b201 fX12_go_b220
      simp (disch := first | assumption | omega) only [p_some, p_gd, p_br, p_bi, p_nm, p_mp, p_Sl, p_Sr, p_bis, p_gdt, Nat.not_lt_zero, Nat.reduceEqDiff, Nat.reduceLT, Nat.reduceLeDiff, true_and, and_true, true_implies, false_implies, not_true_eq_false, not_false_eq_true, implies_true, and_self, ne_eq, decide_true, decide_false, Bool.not_true, Bool.not_false, if_true, if_false, reduceIte, mk0 s, pk, sm1, r_lit, bI_0, s_bq]
      refine ⟨fun c => nx _ ?_, fun c => ⟨fun c2 => nx _ ?_, fun c2 => nx _ ?_⟩⟩
      · rw [eal, Bool.eq_false_iff.mpr c, Bool.false_and]; rfl
      · rw [eal, Classical.not_not.mp c, decide_eq_true c2]; rfl
      · rw [eal, decide_eq_false c2, Bool.and_false]; rfl
    unfold fX12_go_b181_i
    dsimp only
    unfold a_A at hA
    rw [Bool.or_eq_true] at hA
    simp (disch := first | assumption | omega) only [p_some, p_gd, p_br, p_bi, p_nm, p_mp, p_Sl, p_Sr, p_bis, p_gdt, Nat.not_lt_zero, Nat.reduceEqDiff, Nat.reduceLT, Nat.reduceLeDiff, true_and, and_true, true_implies, false_implies, not_true_eq_false, not_false_eq_true, implies_true, and_self, ne_eq, decide_true, decide_false, Bool.not_true, Bool.not_false, if_true, if_false, reduceIte, mk0 s, pk, sm1, di1, r_lit, bI_0]
    refine ⟨fun c => ⟨fun c2 => ?_, fun _ => b201⟩, fun _ => b201⟩
    exact absurd (hA.resolve_left c) c2
