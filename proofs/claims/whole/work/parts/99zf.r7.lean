/-! tokens: bytes 0 to 255; words as numbers of five bits a letter -/
def a_sb (c : Nat) : Int32 := (nI c).toInt8.toInt32
def a_L (c : Nat) : Bool := decide (97 ≤ c ∧ c ≤ 122)
def a_D (c : Nat) : Bool := decide (48 ≤ c ∧ c ≤ 57)
def a_B (c : Nat) : Bool := decide (c = 32 ∨ c = 10)
def a_S (c : Nat) : Bool := decide (c = 59 ∨ c = 40 ∨ c = 41 ∨ c = 60 ∨ c = 61 ∨ c = 62)
def a_A (c : Nat) : Bool := a_L c || a_D c
def BY (L : Nat) (by8 : Nat → Nat) : Prop := L ≤ 940 ∧ ∀ i, i < L → by8 i < 256
def a_run (P : Nat → Bool) : Nat → Nat → Nat
  | 0, p => p
  | m + 1, p => if P p = true then a_run P m (p + 1) else p
theorem a_run_le {P : Nat → Bool} : ∀ m p, p ≤ a_run P m p ∧ a_run P m p ≤ p + m
  | 0, p => ⟨Nat.le_refl _, Nat.le_refl _⟩
  | m + 1, p => by
    have ih := a_run_le (P := P) m (p + 1)
    rw [a_run]
    split <;> omega
theorem a_run_in {P : Nat → Bool} : ∀ m p i, p ≤ i → i < a_run P m p → P i = true
  | 0, p, i, h1, h2 => by rw [a_run] at h2; omega
  | m + 1, p, i, h1, h2 => by
    rw [a_run] at h2
    split at h2
    · rename_i c
      by_cases e : i = p
      · rw [e]; exact c
      · exact a_run_in m (p + 1) i (by omega) h2
    · omega
theorem a_run_out {P : Nat → Bool} : ∀ m p, a_run P m p < p + m → P (a_run P m p) = false
  | 0, p, h => by rw [a_run] at h; omega
  | m + 1, p, h => by
    rw [a_run] at h ⊢
    split at h
    · rename_i c
      rw [if_pos c]
      exact a_run_out m (p + 1) (by omega)
    · rename_i c
      rw [if_neg c]
      exact Bool.eq_false_iff.mpr c
/-- a word's number, a number's value -/
def a_w5 (by8 : Nat → Nat) (q : Nat) : Nat → Nat
  | 0 => 0
  | i + 1 => 32 * a_w5 by8 q i + (by8 (q + i) - 96)
def a_nu (by8 : Nat → Nat) (q : Nat) : Nat → Nat
  | 0 => 0
  | i + 1 => 10 * a_nu by8 q i + (by8 (q + i) - 48)
def a_cl (by8 : Nat → Nat) (q n : Nat) : Nat := fa_cnt (fun j => a_L (by8 (q + j))) n
def a_tok (by8 : Nat → Nat) (L q : Nat) : Nat × Nat × Nat × Nat :=
  if a_A (by8 q) = true then
    (if a_cl by8 q (a_run (fun i => a_A (by8 i)) (L - q) q - q) = a_run (fun i => a_A (by8 i)) (L - q) q - q ∧ a_run (fun i => a_A (by8 i)) (L - q) q - q ≤ 7 then (2, a_w5 by8 q (a_run (fun i => a_A (by8 i)) (L - q) q - q), q, a_run (fun i => a_A (by8 i)) (L - q) q)
    else if a_cl by8 q (a_run (fun i => a_A (by8 i)) (L - q) q - q) = 0 ∧ a_run (fun i => a_A (by8 i)) (L - q) q - q ≤ 2 then (3, a_nu by8 q (a_run (fun i => a_A (by8 i)) (L - q) q - q), q, a_run (fun i => a_A (by8 i)) (L - q) q)
    else (1, 0, q, 0))
  else if a_S (by8 q) = true then (by8 q, 0, q, q + 1) else (1, 0, q, 0)
def a_lex (by8 : Nat → Nat) (L lim p : Nat) : Nat × Nat × Nat × Nat :=
  if lim < L ∧ lim ≤ a_run (fun i => a_B (by8 i)) (L - p) p then (1, 0, lim, 0)
  else if L ≤ a_run (fun i => a_B (by8 i)) (L - p) p then (0, 0, L, 0)
  else a_tok by8 L (a_run (fun i => a_B (by8 i)) (L - p) p)
theorem a_cl_le {by8 : Nat → Nat} {q n : Nat} : a_cl by8 q n ≤ n := fa_cnt_le _ n
theorem a_cl_s {by8 : Nat → Nat} {q n : Nat} : a_cl by8 q (n + 1) = a_cl by8 q n + if a_L (by8 (q + n)) = true then 1 else 0 := rfl
theorem a_w5_lt {by8 : Nat → Nat} {q : Nat} : ∀ {n}, a_cl by8 q n = n → a_w5 by8 q n < 32 ^ n
  | 0, _ => Nat.zero_lt_one
  | n + 1, h => by
    have l := a_cl_le (by8 := by8) (q := q) (n := n)
    rw [a_cl_s] at h
    have hL : a_L (by8 (q + n)) = true := by
      by_cases c : a_L (by8 (q + n)) = true
      · exact c
      · rw [if_neg c] at h; omega
    rw [if_pos hL] at h
    have ih := a_w5_lt (by8 := by8) (q := q) (n := n) (by omega)
    unfold a_L at hL
    rw [decide_eq_true_eq] at hL
    rw [a_w5, Nat.pow_succ]
    omega
theorem a_w5_pos {by8 : Nat → Nat} {q : Nat} : ∀ {n}, a_cl by8 q n = n → 0 < n → 0 < a_w5 by8 q n
  | 0, _, h => absurd h (Nat.lt_irrefl _)
  | n + 1, h, _ => by
    have l := a_cl_le (by8 := by8) (q := q) (n := n)
    rw [a_cl_s] at h
    have hL : a_L (by8 (q + n)) = true := by
      by_cases c : a_L (by8 (q + n)) = true
      · exact c
      · rw [if_neg c] at h; omega
    unfold a_L at hL
    rw [decide_eq_true_eq] at hL
    rw [a_w5]
    omega
theorem a_nu_lt {by8 : Nat → Nat} {q : Nat} : ∀ {n}, a_cl by8 q n = 0 → (∀ j, j < n → a_A (by8 (q + j)) = true) → a_nu by8 q n < 10 ^ n
  | 0, _, _ => Nat.zero_lt_one
  | n + 1, h, ha => by
    rw [a_cl_s] at h
    have hL : ¬ a_L (by8 (q + n)) = true := fun c => by rw [if_pos c] at h; omega
    have hA := ha n (by omega)
    have ih := a_nu_lt (by8 := by8) (q := q) (n := n) (by omega) (fun j hj => ha j (by omega))
    unfold a_A at hA
    rw [Bool.or_eq_true] at hA
    have hD := hA.resolve_left hL
    unfold a_D at hD
    rw [decide_eq_true_eq] at hD
    rw [a_nu, Nat.pow_succ]
    omega
/-! what the reference packs -/
theorem a_c8_up {m N c : Nat} (hc : c < 32) : a_c8 (m + 1) (32 * N + c) = 256 * a_c8 m N + a_cv c := by
  rw [a_c8, show (32 * N + c) / 32 = N by omega, show (32 * N + c) % 32 = c by omega]
theorem a_c8_big : ∀ m N, N < 32 ^ m → a_c8 (m + 1) N = a_c8 m N
  | 0, N, h => by
    rw [Nat.pow_zero] at h
    rw [show N = 0 by omega]
    rfl
  | m + 1, N, h => by
    rw [Nat.pow_succ] at h
    rw [a_c8, a_c8_big m (N / 32) (by omega)]
    rfl
theorem a_c8_7 : ∀ m N, m ≤ 7 → N < 32 ^ m → a_c8 7 N = a_c8 m N := fun m N hm h => by
  have key : ∀ k, a_c8 (m + k) N = a_c8 m N := fun k => by
    induction k with
    | zero => rfl
    | succ k ih => rw [← Nat.add_assoc, a_c8_big (m + k) N (Nat.lt_of_lt_of_le h (Nat.pow_le_pow_right (by decide) (by omega))), ih]
  have := key (7 - m)
  rw [show m + (7 - m) = 7 by omega] at this
  exact this
def a_W8 (by8 : Nat → Nat) (q : Nat) : Nat → Int64
  | 0 => 0
  | i + 1 => if i < 7 then (a_W8 by8 q i <<< ((nI 8).toInt64 &&& lN 63)) ||| (nI (by8 (q + i))).toInt64 else a_W8 by8 q i
def a_N8 (by8 : Nat → Nat) (q : Nat) : Nat → Int32
  | 0 => 0
  | i + 1 => if i < 2 then nI 10 * a_N8 by8 q i + nI (by8 (q + i)) - nI 48 else a_N8 by8 q i
theorem s_64 {c : Nat} (h : c < 256) : (nI c).toInt64 = lN c := by
  have : ∀ c, c < 256 → (nI c).toInt64 = lN c := by decide +kernel
  exact this c h
theorem s_or8 (W c : Nat) (hW : W < 256 ^ 6) (hc : c < 256) : (lN W <<< ((nI 8).toInt64 &&& lN 63)) ||| lN c = lN (256 * W + c) := by
  have e := wb_shl W (k := 8) (by decide)
  rw [show (63 : Int64) = lN 63 from rfl] at e
  rw [e, wb_or (by omega) (by omega), show W * 2 ^ 8 = 2 ^ 8 * W by omega, ← Nat.two_pow_add_eq_or_of_lt (show c < 2 ^ 8 by omega)]
theorem a_W8_e {by8 : Nat → Nat} {q : Nat} : ∀ {i}, i ≤ 7 → a_cl by8 q i = i → a_W8 by8 q i = lN (a_c8 7 (a_w5 by8 q i))
  | 0, _, _ => by
    show (0 : Int64) = lN (a_c8 7 0)
    rw [show a_c8 7 0 = 0 by decide]
    rfl
  | i + 1, hi, h => by
    have l := a_cl_le (by8 := by8) (q := q) (n := i)
    have h' := h
    rw [a_cl_s] at h
    have hL : a_L (by8 (q + i)) = true := by
      by_cases c : a_L (by8 (q + i)) = true
      · exact c
      · rw [if_neg c] at h; omega
    rw [if_pos hL] at h
    have ih := a_W8_e (by8 := by8) (q := q) (i := i) (by omega) (by omega)
    have lt := a_w5_lt (by8 := by8) (q := q) (n := i) (by omega)
    have lt' := a_w5_lt h'
    unfold a_L at hL
    rw [decide_eq_true_eq] at hL
    have e7 := a_c8_7 i _ (by omega) lt
    have e8 := a_c8_7 (i + 1) _ hi lt'
    have b6 : a_c8 i (a_w5 by8 q i) < 256 ^ 6 := Nat.lt_of_lt_of_le (a_c8_lt _ _) (Nat.pow_le_pow_right (by decide) (by omega))
    rw [e8, a_W8, if_pos (by omega), ih, e7, s_64 (c := by8 (q + i)) (by omega), s_or8 _ _ b6 (by omega), a_w5, a_c8_up (by omega)]
    unfold a_cv
    rw [if_neg (by omega), show 96 + (by8 (q + i) - 96) = by8 (q + i) by omega]
theorem a_N8_e {by8 : Nat → Nat} {q : Nat} : ∀ {i}, i ≤ 2 → a_cl by8 q i = 0 → (∀ j, j < i → a_A (by8 (q + j)) = true) → a_N8 by8 q i = nI (a_nu by8 q i)
  | 0, _, _, _ => rfl
  | i + 1, hi, h, ha => by
    rw [a_cl_s] at h
    have hL : ¬ a_L (by8 (q + i)) = true := fun c => by rw [if_pos c] at h; omega
    have hA := ha i (by omega)
    have ih := a_N8_e (by8 := by8) (q := q) (i := i) (by omega) (by omega) (fun j hj => ha j (by omega))
    unfold a_A at hA
    rw [Bool.or_eq_true] at hA
    have hD := hA.resolve_left hL
    unfold a_D at hD
    rw [decide_eq_true_eq] at hD
    rw [a_N8, if_pos (by omega), ih, a_nu, pk_mul, nI_add, pk_sub (by omega)]
    congr 1
    omega
def a_al (by8 : Nat → Nat) (q : Nat) (sm : Bool) : Nat → Bool
  | 0 => true
  | i + 1 => a_al by8 q sm i && decide (a_L (by8 (q + i)) = sm)
theorem a_al_e {by8 : Nat → Nat} {q : Nat} {sm : Bool} : ∀ {i}, (a_al by8 q sm i = true) ↔ a_cl by8 q i = if sm = true then i else 0
  | 0 => by
    cases sm
    · exact ⟨fun _ => rfl, fun _ => rfl⟩
    · exact ⟨fun _ => rfl, fun _ => rfl⟩
  | i + 1 => by
    have ih := a_al_e (by8 := by8) (q := q) (sm := sm) (i := i)
    have l := a_cl_le (by8 := by8) (q := q) (n := i)
    rw [a_al, Bool.and_eq_true, ih, decide_eq_true_eq, a_cl_s]
    cases hL : a_L (by8 (q + i))
    · cases sm
      · rw [if_neg (by decide), if_neg (by decide), if_neg (by decide)]
        exact ⟨fun q => q.1, fun q => ⟨q, rfl⟩⟩
      · rw [if_pos rfl, if_neg (by decide), if_pos rfl]
        exact ⟨fun q => absurd q.2 (by decide), fun q => by omega⟩
    · cases sm
      · rw [if_neg (by decide), if_pos rfl, if_neg (by decide)]
        exact ⟨fun q => absurd q.2 (by decide), fun q => by omega⟩
      · rw [if_pos rfl, if_pos rfl, if_pos rfl]
        exact ⟨fun q => by omega, fun q => ⟨by omega, rfl⟩⟩
/-! the reference reads a token -/
def mTape (h : z_T) (L lim : Nat) (by8 : Nat → Nat) : Prop := z_I h 0 3 = nI L ∧ z_I h 0 5 = nI lim ∧ ∀ i, i < L → z_I h 1 i = a_sb (by8 i)
def mGo (o k : Nat) : Prop := o ≠ 0 ∨ (k ≠ 4 ∧ k ≠ 11 ∧ k ≠ 12 ∧ k ≠ 13 ∧ k ≠ 14 ∧ k ≠ 17)
def mTok (h : z_T) (t : Nat × Nat × Nat × Nat) : Prop :=
  z_I h 0 12 = nI t.2.2.1 ∧
  ((t.1 = 0 ∧ z_I h 0 11 = nI 0) ∨ (t.1 = 1 ∧ z_I h 0 11 = nI 4) ∨
   (t.1 = 2 ∧ z_I h 0 11 = nI 1 ∧ z_L h 0 17 = lN (a_c8 7 t.2.1) ∧ 0 < t.2.1 ∧ t.2.1 < 32 ^ 7 ∧ z_I h 0 4 = nI t.2.2.2) ∨
   (t.1 = 3 ∧ z_I h 0 11 = nI 2 ∧ z_I h 0 14 = nI t.2.1 ∧ t.2.1 < 100 ∧ z_I h 0 4 = nI t.2.2.2) ∨
   (a_S t.1 = true ∧ z_I h 0 11 = nI 3 ∧ z_I h 0 14 = nI t.1 ∧ z_I h 0 4 = nI t.2.2.2))
theorem mTape.fr {h h' : z_T} {L lim : Nat} {by8 : Nat → Nat} (T : mTape h L lim by8) (f : m_fr mGo h h') : mTape h' L lim by8 := ⟨(f.I 0 3 (by unfold mGo; omega)).trans T.1, (f.I 0 5 (by unfold mGo; omega)).trans T.2.1, fun i hi => (f.I 1 i (by unfold mGo; omega)).trans (T.2.2 i hi)⟩
theorem s_sb255 : ∀ c, c < 256 → a_sb c &&& nI 255 = nI c := by decide +kernel
theorem s_sm : ∀ c, c < 256 → fX12_isSmall (nI c) = some (bI (a_L c = true)) := by decide +kernel
theorem s_di : ∀ c, c < 256 → fX12_isDigit (nI c) = some (bI (a_D c = true)) := by decide +kernel
theorem s_smm : fX12_isSmall m1 = some (nI 0) := by decide +kernel
theorem s_dim : fX12_isDigit m1 = some (nI 0) := by decide +kernel
theorem m_peek {h : z_T} {L lim p : Nat} {by8 : Nat → Nat} (s : SM h) (T : mTape h L lim by8) (hb : BY L by8) (hp : p < L) (e : z_I h 0 4 = nI p) : fX12_peek 0 h = some (nI (by8 p)) := by
  have hL := hb.1
  have t1 := T.1
  have t2 := T.2.2 p hp
  have b := s_sb255 _ (hb.2 p hp)
  refine p_of ?_
  unfold fX12_peek
  simp (disch := first | assumption | omega) only [p_some, p_gd, p_br, p_bi, p_nm, p_mp, p_Sl, p_Sr, p_bis, p_gdt, q_IL, q_IR, q_LI, q_LR, q_RI, q_RL, q_KI, q_KL, q_KR, q_NI, q_NL, q_NR, q_nI, q_nL, q_nR, q_okI, q_okL, q_okR, q_Ie, q_In, q_Le, q_Ln, SM_I, SM_L, s_c0, s_cg0, s_cl0, s_cge, s_cle, r_le, r_lt, r_eq, r_md, r_2, r_3, r_lit, r_litL, r_m1, nI_add, nI_1, nI_clamp, nI_leI, nI_ltI, nI_eq, pk_sub, q_ix, nI_l, lN_add, lN_mul, r_m1n, r_m1n', r_m1lt, r_m1nlt, r_m1le, r_m1nle, Nat.not_lt_zero, Nat.reduceEqDiff, Nat.reduceLT, Nat.reduceLeDiff, true_and, and_true, true_implies, false_implies, not_true_eq_false, not_false_eq_true, implies_true, and_self, ne_eq, decide_true, decide_false, Bool.not_true, Bool.not_false, if_true, if_false, reduceIte, mk0, mk1, mk2, mk3, mk4, mk5, mk6, mk7, mk8, mk9, mk10, mk11, mk12, mk13, mk14, mk15, mk16, mk17, mk18, mk19, mk20, mk21, mk22, mn1, mn2, mn3, mn4, mn5, mn6, mn7, mn8, mn9, mn10, mn11, mn12, mn13, mn14, mn15, mn16, mn17, mn18, mn19, mn20, mn21, mn22, mr1, mr6, mr7, mr8, mr9, mr10, mr21, mr22, mr23, mr25, mr26, mr29, mr30, mr32, mr33, mr34, mr43, mr47, mr53, mr54, mr55, mr56, t1, e, t2, b, show ¬ L ≤ p by omega]
theorem m_peekE {h : z_T} {L lim p : Nat} {by8 : Nat → Nat} (s : SM h) (T : mTape h L lim by8) (hb : BY L by8) (hp : L ≤ p) (hp2 : p < 2 ^ 30) (e : z_I h 0 4 = nI p) : fX12_peek 0 h = some m1 := by
  have hL := hb.1
  have t1 := T.1
  refine p_of ?_
  unfold fX12_peek
  simp (disch := first | assumption | omega) only [p_some, p_gd, p_br, p_bi, p_nm, p_mp, p_Sl, p_Sr, p_bis, p_gdt, q_IL, q_IR, q_LI, q_LR, q_RI, q_RL, q_KI, q_KL, q_KR, q_NI, q_NL, q_NR, q_nI, q_nL, q_nR, q_okI, q_okL, q_okR, q_Ie, q_In, q_Le, q_Ln, SM_I, SM_L, s_c0, s_cg0, s_cl0, s_cge, s_cle, r_le, r_lt, r_eq, r_md, r_2, r_3, r_lit, r_litL, r_m1, nI_add, nI_1, nI_clamp, nI_leI, nI_ltI, nI_eq, pk_sub, q_ix, nI_l, lN_add, lN_mul, r_m1n, r_m1n', r_m1lt, r_m1nlt, r_m1le, r_m1nle, Nat.not_lt_zero, Nat.reduceEqDiff, Nat.reduceLT, Nat.reduceLeDiff, true_and, and_true, true_implies, false_implies, not_true_eq_false, not_false_eq_true, implies_true, and_self, ne_eq, decide_true, decide_false, Bool.not_true, Bool.not_false, if_true, if_false, reduceIte, mk0, mk1, mk2, mk3, mk4, mk5, mk6, mk7, mk8, mk9, mk10, mk11, mk12, mk13, mk14, mk15, mk16, mk17, mk18, mk19, mk20, mk21, mk22, mn1, mn2, mn3, mn4, mn5, mn6, mn7, mn8, mn9, mn10, mn11, mn12, mn13, mn14, mn15, mn16, mn17, mn18, mn19, mn20, mn21, mn22, mr1, mr6, mr7, mr8, mr9, mr10, mr21, mr22, mr23, mr25, mr26, mr29, mr30, mr32, mr33, mr34, mr43, mr47, mr53, mr54, mr55, mr56, t1, e, hp]
