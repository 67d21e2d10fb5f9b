/-! the class reads a token -/
def a_wn : Nat → Nat := fun k => match k with
  | 0 => 0
  | 1 => 661108
  | 2 => 4789293
  | 3 => 605677
  | 4 => 21285028
  | 5 => 644677
  | 6 => 394885
  | 7 => 24722887
  | 8 => 12748366
  | 9 => 302
  | 10 => 20580147
  | 11 => 14145715
  | 12 => 688
  | 13 => 2212
  | 14 => 498
  | 15 => 1476
  | 16 => 14836
  | 17 => 245220
  | 18 => 366100
  | 19 => 1682596
  | 20 => 19381683
  | 21 => 153257395
  | _ => 17171557
theorem a_wn_z : ∀ k, k < 23 → z_wname k = lN (a_wn k) := by decide +kernel
theorem a_wn_b : ∀ k, k < 23 → a_wn k < 32 ^ 7 := by decide +kernel
theorem a_wn_inj : ∀ i, i < 23 → ∀ j, j < 23 → a_wn i = a_wn j → i = j := by decide +kernel
theorem a_wn_pos : ∀ k, k < 23 → 0 < k → 0 < a_wn k := by decide +kernel
def a_wi (V : Nat) : Nat := if fa_first (fun k => decide (a_wn k = V)) 23 < 23 then fa_first (fun k => decide (a_wn k = V)) 23 else 0
theorem a_wi_lt {V : Nat} : a_wi V < 23 := by unfold a_wi; split <;> omega
theorem a_wi_is {V i : Nat} (hi : i < 23) (h0 : 0 < i) : a_wi V = i ↔ V = a_wn i := by
  unfold a_wi
  constructor
  · intro h
    split at h
    · rename_i c
      have := fa_first_yes (fun k => decide (a_wn k = V)) 23 c
      rw [h] at this
      exact (of_decide_eq_true this).symm
    · omega
  · intro h
    have hl := fa_first_le (fun k => decide (a_wn k = V)) 23
    have c : fa_first (fun k => decide (a_wn k = V)) 23 < 23 := by
      refine Classical.byContradiction (fun q => ?_)
      have := fa_first_no (fun k => decide (a_wn k = V)) 23 i (by omega)
      rw [h] at this
      exact absurd rfl (of_decide_eq_false this)
    rw [if_pos c]
    have y := of_decide_eq_true (fa_first_yes (fun k => decide (a_wn k = V)) 23 c)
    exact a_wn_inj _ c _ hi (y.trans h)
theorem x_named {h : z_T} {V : Nat} (hV : V < 32 ^ 7) : fX10_named (lN V) h = some (a_wi V) := by
  refine p_of ?_
  unfold fX10_named fX10_named_b2
  refine p_for 23 (fun j w => w = nI j ∧ ∀ i, i < j → ¬ a_wn i = V) ?_ ?_ 0 (by omega) ⟨rfl, fun i hi => absurd hi (Nat.not_lt_zero _)⟩
  · rintro j w hj ⟨rfl, g⟩
    have wz := a_wn_z j hj
    have wb := a_wn_b j hj
    unfold fX10_named_b2_i
    simp (disch := first | assumption | omega) only [p_some, p_gd, p_br, p_bi, p_nm, p_mp, p_Sl, p_Sr, p_bis, p_gdt, Nat.not_lt_zero, Nat.reduceEqDiff, Nat.reduceLT, Nat.reduceLeDiff, true_and, and_true, true_implies, false_implies, not_true_eq_false, not_false_eq_true, implies_true, and_self, ne_eq, decide_true, decide_false, Bool.not_true, Bool.not_false, if_true, if_false, reduceIte, r_lit, nI_leI, show ¬ 23 ≤ j by omega, q_ix, nI_clamp, hj, wz, s_c0, r_eq]
    refine ⟨fun c => ?_, fun c => ?_⟩
    · have e : a_wi V = j := by
        by_cases j0 : 0 < j
        · exact (a_wi_is hj j0).mpr c.symm
        · have j0' : j = 0 := by omega
          subst j0'
          unfold a_wi
          split
          · rename_i c2
            have y := of_decide_eq_true (fa_first_yes (fun k => decide (a_wn k = V)) 23 c2)
            exact a_wn_inj _ c2 0 (by omega) (y.trans c.symm)
          · rfl
      exact e.symm
    · simp (disch := first | assumption | omega) only [p_some, p_gd, p_br, p_bi, p_nm, p_mp, p_Sl, p_Sr, p_bis, p_gdt, Nat.not_lt_zero, Nat.reduceEqDiff, Nat.reduceLT, Nat.reduceLeDiff, true_and, and_true, true_implies, false_implies, not_true_eq_false, not_false_eq_true, implies_true, and_self, ne_eq, decide_true, decide_false, Bool.not_true, Bool.not_false, if_true, if_false, reduceIte, nI_add, nI_1]
      exact fun i hi => by
        by_cases e : i = j
        · rw [e]; exact c
        · exact g i (by omega)
  · rintro w ⟨rfl, g⟩
    unfold fX10_named_b2_i
    simp (disch := first | assumption | omega) only [p_some, p_gd, p_br, p_bi, p_nm, p_mp, p_Sl, p_Sr, p_bis, p_gdt, Nat.not_lt_zero, Nat.reduceEqDiff, Nat.reduceLT, Nat.reduceLeDiff, true_and, and_true, true_implies, false_implies, not_true_eq_false, not_false_eq_true, implies_true, and_self, ne_eq, decide_true, decide_false, Bool.not_true, Bool.not_false, if_true, if_false, reduceIte, r_lit, nI_leI, Nat.le_refl]
    unfold a_wi
    rw [if_neg]
    intro c
    exact g _ c (of_decide_eq_true (fa_first_yes (fun k => decide (a_wn k = V)) 23 c))
def a_W5 (by8 : Nat → Nat) (q : Nat) : Nat → Int64
  | 0 => 0
  | i + 1 => if a_L (by8 (q + i)) = true then (a_W5 by8 q i <<< ((nI 5).toInt64 &&& lN 63)) ||| (a_sb (by8 (q + i)) - nI 97 + nI 1).toInt64 else a_W5 by8 q i
def a_N5 (by8 : Nat → Nat) (q : Nat) : Nat → Int32
  | 0 => 0
  | i + 1 => if a_L (by8 (q + i)) = true then a_N5 by8 q i else nI 10 * a_N5 by8 q i + a_sb (by8 (q + i)) - nI 48
theorem s_sb5 : ∀ c, c < 123 → 97 ≤ c → (a_sb c - nI 97 + nI 1).toInt64 = lN (c - 96) := by decide +kernel
theorem s_sbp : ∀ c, c < 128 → a_sb c = nI c := by decide +kernel
theorem s_or5 (W c : Nat) (hW : W < 32 ^ 6) (hc : c < 32) : (lN W <<< ((nI 5).toInt64 &&& lN 63)) ||| lN c = lN (32 * W + c) := by
  have e := wb_shl W (k := 5) (by decide)
  rw [show (63 : Int64) = lN 63 from rfl] at e
  rw [e, wb_or (by omega) (by omega), show W * 2 ^ 5 = 2 ^ 5 * W by omega, ← Nat.two_pow_add_eq_or_of_lt (show c < 2 ^ 5 by omega)]
theorem a_W5_e {by8 : Nat → Nat} {q : Nat} : ∀ {i}, i ≤ 7 → a_cl by8 q i = i → a_W5 by8 q i = lN (a_w5 by8 q i)
  | 0, _, _ => rfl
  | i + 1, hi, h => by
    have l := a_cl_le (by8 := by8) (q := q) (n := i)
    rw [a_cl_s] at h
    have hL : a_L (by8 (q + i)) = true := by
      by_cases c : a_L (by8 (q + i)) = true
      · exact c
      · rw [if_neg c] at h; omega
    rw [if_pos hL] at h
    have ih := a_W5_e (by8 := by8) (q := q) (i := i) (by omega) (by omega)
    have lt := a_w5_lt (by8 := by8) (q := q) (n := i) (by omega)
    have b6 : a_w5 by8 q i < 32 ^ 6 := Nat.lt_of_lt_of_le lt (Nat.pow_le_pow_right (by decide) (by omega))
    rw [a_W5, if_pos hL, ih]
    unfold a_L at hL
    rw [decide_eq_true_eq] at hL
    rw [s_sb5 (by8 (q + i)) (by omega) (by omega), s_or5 _ _ b6 (by omega), a_w5]
theorem a_N5_e {by8 : Nat → Nat} {q : Nat} : ∀ {i}, a_cl by8 q i = 0 → (∀ j, j < i → a_A (by8 (q + j)) = true) → a_N5 by8 q i = nI (a_nu by8 q i)
  | 0, _, _ => rfl
  | i + 1, h, ha => by
    rw [a_cl_s] at h
    have hL : ¬ a_L (by8 (q + i)) = true := fun c => by rw [if_pos c] at h; omega
    have hA := ha i (by omega)
    have ih := a_N5_e (by8 := by8) (q := q) (i := i) (by omega) (fun j hj => ha j (by omega))
    unfold a_A at hA
    rw [Bool.or_eq_true] at hA
    have hD := hA.resolve_left hL
    rw [a_N5, if_neg hL]
    unfold a_D at hD
    rw [decide_eq_true_eq] at hD
    rw [ih, a_nu, s_sbp _ (by omega), pk_mul, nI_add, pk_sub (by omega)]
    congr 1
    omega
def xTape (h : z_T) (L lim : Nat) (by8 : Nat → Nat) : Prop := z_I h 9 1 = nI L ∧ z_I h 13 1 = nI lim ∧ ∀ i, i < L → z_I h 10 i = a_sb (by8 i)
def xGo (o k : Nat) : Prop := o ≠ 13 ∨ (k ≠ 2 ∧ k ≠ 3 ∧ k ≠ 4 ∧ k ≠ 5 ∧ k ≠ 6 ∧ k ≠ 7)
def xTok (h : z_T) (t : Nat × Nat × Nat × Nat) : Prop :=
  z_I h 13 3 = nI t.2.2.1 ∧ z_I h 13 4 = nI t.1 ∧ z_R h 13 7 = some (if t.1 = 2 then a_wi t.2.1 else 0) ∧
  (t.1 = 0 ∨ t.1 = 1 ∨
   (t.1 = 2 ∧ z_L h 13 6 = lN t.2.1 ∧ 0 < t.2.1 ∧ t.2.1 < 32 ^ 7 ∧ z_R h 13 7 = some (a_wi t.2.1) ∧ z_I h 13 2 = nI t.2.2.2) ∨
   (t.1 = 3 ∧ z_I h 13 5 = nI t.2.1 ∧ t.2.1 < 100 ∧ z_I h 13 2 = nI t.2.2.2) ∨
   (a_S t.1 = true ∧ z_I h 13 2 = nI t.2.2.2))
theorem xTape.fr {h h' : z_T} {L lim : Nat} {by8 : Nat → Nat} (T : xTape h L lim by8) (s : SX h) (f : x_fr xGo h h') : xTape h' L lim by8 := by
  have h0 := s.1
  exact ⟨(f.I 9 1 (by omega) (by unfold xGo; omega)).trans T.1, (f.I 13 1 (by omega) (by unfold xGo; omega)).trans T.2.1, fun i hi => (f.I 10 i (by omega) (by unfold xGo; omega)).trans (T.2.2 i hi)⟩
theorem s_xL : ∀ c, c < 256 → fX6_isLetter (a_sb c) = some (bI (a_L c = true)) := by decide +kernel
theorem s_xD : ∀ c, c < 256 → fX6_isDigit (a_sb c) = some (bI (a_D c = true)) := by decide +kernel
theorem s_xB : ∀ c, c < 256 → fX6_isBlank (a_sb c) = some (bI (a_B c = true)) := by decide +kernel
theorem s_xS : ∀ c, c < 256 → fX6_isSign (a_sb c) = some (bI (a_S c = true)) := by decide +kernel
theorem x_at {h : z_T} {L lim p : Nat} {by8 : Nat → Nat} (s : SX h) (T : xTape h L lim by8) (hb : BY L by8) (hp : p < L) : fX1_at 9 (nI p) h = some (a_sb (by8 p)) := by
  have hL := hb.1
  have t2 := T.2.2 p hp
  refine p_of ?_
  unfold fX1_at fX1_at_b22
  simp (disch := first | assumption | omega) only [p_some, p_gd, p_br, p_bi, p_nm, p_mp, p_Sl, p_Sr, p_bis, p_gdt, q_IL, q_IR, q_LI, q_LR, q_RI, q_RL, q_KI, q_KL, q_KR, q_NI, q_NL, q_NR, q_nI, q_nL, q_nR, q_okI, q_okL, q_okR, q_Ie, q_In, q_Le, q_Ln, SM_I, SM_L, s_c0, s_cg0, s_cl0, s_cge, s_cle, r_le, r_lt, r_eq, r_md, r_2, r_3, r_lit, r_litL, r_m1, nI_add, nI_1, nI_clamp, nI_leI, nI_ltI, nI_eq, pk_sub, q_ix, nI_l, lN_add, lN_mul, r_m1n, r_m1n', r_m1lt, r_m1nlt, r_m1le, r_m1nle, Nat.not_lt_zero, Nat.reduceEqDiff, Nat.reduceLT, Nat.reduceLeDiff, true_and, and_true, true_implies, false_implies, not_true_eq_false, not_false_eq_true, implies_true, and_self, ne_eq, decide_true, decide_false, Bool.not_true, Bool.not_false, if_true, if_false, reduceIte, xk9 s, xr9_0 s, xk10 s, xn10 s, t2, show ¬ 940 ≤ p by omega, r_nlt0]
def xWi (h : z_T) (by8 : Nat → Nat) (q i : Nat) : Prop := z_L h 13 6 = a_W5 by8 q i ∧ z_I h 13 5 = a_N5 by8 q i ∧ z_I h 13 3 = nI q ∧ z_R h 13 7 = some 0
theorem s_if0 {a : Nat} : some 0 = some (if (0 : Nat) = 2 then a else 0) := by rw [if_neg (by decide)]
theorem s_if1 {a : Nat} : some 0 = some (if (1 : Nat) = 2 then a else 0) := by rw [if_neg (by decide)]
theorem s_if3 {a : Nat} : some 0 = some (if (3 : Nat) = 2 then a else 0) := by rw [if_neg (by decide)]
theorem s_if2 {a : Nat} : some a = some (if (2 : Nat) = 2 then a else 0) := by rw [if_pos rfl]
theorem x_tkEnd {h : z_T} {L lim q n : Nat} {by8 : Nat → Nat} {Q : z_T → Prop} (s : SX h) (T : xTape h L lim by8) (hb : BY L by8) (hq : q < L) (hn : ∀ j, j < n → q + j < L ∧ a_A (by8 (q + j)) = true) (he : q + n = L ∨ (q + n < L ∧ a_A (by8 (q + n)) = false)) (w : xWi h by8 q n)
    (k : ∀ h', x_fr xGo h h' → xTok h' (if 0 < n then a_tkN by8 q n else if a_S (by8 q) = true then (by8 q, 0, q, q + 1) else (1, 0, q, 0)) → Q h') : p_W (fX6_readToken_b119 13 (nI (a_cl by8 q n)) (nI (n - a_cl by8 q n)) (nI (q + n)) h) Q := by
  obtain ⟨w1, w2, w3, w4⟩ := w
  have hL := hb.1
  have cl := a_cl_le (by8 := by8) (q := q) (n := n)
  have em : (if nI (q + n) < nI (q + 1) then nI (q + 1) else nI (q + n)) = nI (if n = 0 then q + 1 else q + n) := by
    have e := nI_ltI (a := q + n) (b := q + 1) (by omega) (by omega)
    by_cases c : n = 0
    · rw [if_pos c, if_pos (e.mpr (by omega))]
    · rw [if_neg c, if_neg (fun z => absurd (e.mp z) (by omega))]
  have hM : xM 13 7 := Or.inl ⟨rfl, rfl⟩
  unfold fX6_readToken_b119
  simp (disch := first | assumption | omega) only [p_some, p_gd, p_br, p_bi, p_nm, p_mp, p_Sl, p_Sr, p_bis, p_gdt, Nat.not_lt_zero, Nat.reduceEqDiff, Nat.reduceLT, Nat.reduceLeDiff, true_and, and_true, true_implies, false_implies, not_true_eq_false, not_false_eq_true, implies_true, and_self, ne_eq, decide_true, decide_false, Bool.not_true, Bool.not_false, if_true, if_false, reduceIte, xk13 s, w3, r_lit, nI_add, em]
  have f1 : x_fr xGo h (z_sI h 13 2 (nI (if n = 0 then q + 1 else q + n))) := x_fr.rf.sI (fun _ => by unfold xGo; omega)
  have s1 := f1.s s
  have T1 := T.fr s f1
  have u1 : z_L (z_sI h 13 2 (nI (if n = 0 then q + 1 else q + n))) 13 6 = a_W5 by8 q n := w1
  have u2 : z_I (z_sI h 13 2 (nI (if n = 0 then q + 1 else q + n))) 13 5 = a_N5 by8 q n := (q_In (by omega)).trans w2
  have u3 : z_I (z_sI h 13 2 (nI (if n = 0 then q + 1 else q + n))) 13 3 = nI q := (q_In (by omega)).trans w3
  have u4 : z_R (z_sI h 13 2 (nI (if n = 0 then q + 1 else q + n))) 13 7 = some 0 := w4
  have u5 : z_I (z_sI h 13 2 (nI (if n = 0 then q + 1 else q + n))) 13 2 = nI (if n = 0 then q + 1 else q + n) := q_Ie rfl rfl
  generalize z_sI h 13 2 (nI (if n = 0 then q + 1 else q + n)) = h1 at *
  have kI : ∀ K, z_I (z_sI h1 13 4 (nI K)) 13 4 = nI K := fun K => q_Ie rfl rfl
  have kP : ∀ K, z_I (z_sI h1 13 4 (nI K)) 13 3 = nI q := fun K => (q_In (by omega)).trans u3
  have fK : ∀ K, x_fr xGo h (z_sI h1 13 4 (nI K)) := fun K => f1.sI (fun _ => by unfold xGo; omega)
  have kR : ∀ K, z_R (z_sI h1 13 4 (nI K)) 13 7 = some 0 := fun K => u4
  have b209 : 0 < n → ¬ (a_cl by8 q n = n ∧ n ≤ 7) → p_W (fX6_readToken_b209 13 (nI (a_cl by8 q n)) (nI (n - a_cl by8 q n)) h1) Q := fun hn0 hc => by
    rw [if_pos hn0] at k
    unfold a_tkN at k
    rw [if_neg hc] at k
    unfold fX6_readToken_b209 fX6_readToken_b223 fX6_readToken_b224
    simp (disch := first | assumption | omega) only [p_some, p_gd, p_br, p_bi, p_nm, p_mp, p_Sl, p_Sr, p_bis, p_gdt, Nat.not_lt_zero, Nat.reduceEqDiff, Nat.reduceLT, Nat.reduceLeDiff, true_and, and_true, true_implies, false_implies, not_true_eq_false, not_false_eq_true, implies_true, and_self, ne_eq, decide_true, decide_false, Bool.not_true, Bool.not_false, if_true, if_false, reduceIte, xk13 s1, r_lit, nI_eq, nI_ltI]
    refine ⟨fun c => ⟨fun c2 => ?_, fun c2 => ?_⟩, fun c => ?_⟩
    · rw [if_neg (by omega)] at k
      exact k _ (fK 1) ⟨kP 1, kI 1, (kR 1).trans s_if1, Or.inr (Or.inl rfl)⟩
    · rw [if_pos (by omega)] at k
      have ha : ∀ j, j < n → a_A (by8 (q + j)) = true := fun j hj => (hn j hj).2
      have nl := Nat.lt_of_lt_of_le (a_nu_lt c ha) (Nat.pow_le_pow_right (show 0 < 10 by decide) (show n ≤ 2 by omega))
      rw [if_neg (by omega)] at u5
      exact k _ (fK 3) ⟨kP 3, kI 3, (kR 3).trans s_if3, Or.inr (Or.inr (Or.inr (Or.inl ⟨rfl, ((q_In (by omega)).trans u2).trans (a_N5_e c ha), nl, (q_In (by omega)).trans u5⟩)))⟩
    · rw [if_neg (by omega)] at k
      exact k _ (fK 1) ⟨kP 1, kI 1, (kR 1).trans s_if1, Or.inr (Or.inl rfl)⟩
  have b180 : 0 < n → p_W (fX6_readToken_b180 13 (nI (a_cl by8 q n)) (nI (n - a_cl by8 q n)) h1) Q := fun hn0 => by
    unfold fX6_readToken_b180
    simp (disch := first | assumption | omega) only [p_some, p_gd, p_br, p_bi, p_nm, p_mp, p_Sl, p_Sr, p_bis, p_gdt, Nat.not_lt_zero, Nat.reduceEqDiff, Nat.reduceLT, Nat.reduceLeDiff, true_and, and_true, true_implies, false_implies, not_true_eq_false, not_false_eq_true, implies_true, and_self, ne_eq, decide_true, decide_false, Bool.not_true, Bool.not_false, if_true, if_false, reduceIte, xk13 s1, r_lit, nI_eq, nI_ltI]
    refine ⟨fun c => ⟨fun c2 => b209 hn0 (by omega), fun c2 => ?_⟩, fun c => b209 hn0 (by omega)⟩
    have cn : a_cl by8 q n = n := by omega
    have n7 : n ≤ 7 := by omega
    rw [if_pos hn0] at k
    unfold a_tkN at k
    rw [if_pos ⟨cn, n7⟩] at k
    have lt := Nat.lt_of_lt_of_le (a_w5_lt cn) (Nat.pow_le_pow_right (show 0 < 32 by decide) n7)
    have po := a_w5_pos cn hn0
    have e6 := u1.trans (a_W5_e n7 cn)
    rw [if_neg (by omega)] at u5
    have nm := x_named (h := z_sI h1 13 4 (nI 2)) lt
    generalize a_w5 by8 q n = V at *
    simp (disch := first | assumption | omega) only [p_some, p_gd, p_br, p_bi, p_nm, p_mp, p_Sl, p_Sr, p_bis, p_gdt, Nat.not_lt_zero, Nat.reduceEqDiff, Nat.reduceLT, Nat.reduceLeDiff, true_and, and_true, true_implies, false_implies, not_true_eq_false, not_false_eq_true, implies_true, and_self, ne_eq, decide_true, decide_false, Bool.not_true, Bool.not_false, if_true, if_false, reduceIte, q_LI, e6, nm]
    refine k _ ((fK 2).sR (fun _ => ⟨by unfold xGo; omega, hM⟩)) ⟨kP 2, kI 2, (q_Re rfl rfl).trans s_if2, Or.inr (Or.inr (Or.inl ⟨rfl, e6, po, lt, q_Re rfl rfl, show z_I (z_sI h1 13 4 (nI 2)) 13 2 = nI (q + n) from (q_In (by omega)).trans u5⟩))⟩
  by_cases n0 : n = 0
  · subst n0
    have b8 := hb.2 _ hq
    have at1 := x_at s1 T1 hb hq
    have sg := s_xS _ b8
    rw [if_neg (by omega)] at k
    rw [if_pos rfl] at u5
    clear b209 b180
    simp (disch := first | assumption | omega) only [p_some, p_gd, p_br, p_bi, p_nm, p_mp, p_Sl, p_Sr, p_bis, p_gdt, Nat.not_lt_zero, Nat.reduceEqDiff, Nat.reduceLT, Nat.reduceLeDiff, true_and, and_true, true_implies, false_implies, not_true_eq_false, not_false_eq_true, implies_true, and_self, ne_eq, decide_true, decide_false, Bool.not_true, Bool.not_false, if_true, if_false, reduceIte, r_lit, show a_cl by8 q 0 = 0 from rfl, Nat.sub_zero, xr13_0 s1, xk9 s1, u3, at1, sg, bI_0]
    unfold fX6_readToken_b174
    refine ⟨fun c => ?_, fun c => ?_⟩
    · rw [if_neg c] at k
      simp (disch := first | assumption | omega) only [p_some, p_gd, p_br, p_bi, p_nm, p_mp, p_Sl, p_Sr, p_bis, p_gdt, Nat.not_lt_zero, Nat.reduceEqDiff, Nat.reduceLT, Nat.reduceLeDiff, true_and, and_true, true_implies, false_implies, not_true_eq_false, not_false_eq_true, implies_true, and_self, ne_eq, decide_true, decide_false, Bool.not_true, Bool.not_false, if_true, if_false, reduceIte, xk13 s1, r_lit]
      exact k _ (fK 1) ⟨kP 1, kI 1, (kR 1).trans s_if1, Or.inr (Or.inl rfl)⟩
    · have c' := Classical.not_not.mp c
      rw [if_pos c'] at k
      have lt128 : by8 q < 128 := by
        have c2 := c'
        unfold a_S at c2
        rw [decide_eq_true_eq] at c2
        omega
      have sp := s_sbp _ lt128
      simp (disch := first | assumption | omega) only [p_some, p_gd, p_br, p_bi, p_nm, p_mp, p_Sl, p_Sr, p_bis, p_gdt, Nat.not_lt_zero, Nat.reduceEqDiff, Nat.reduceLT, Nat.reduceLeDiff, true_and, and_true, true_implies, false_implies, not_true_eq_false, not_false_eq_true, implies_true, and_self, ne_eq, decide_true, decide_false, Bool.not_true, Bool.not_false, if_true, if_false, reduceIte, xk13 s1, r_lit, sp]
      have n2 : ¬ by8 q = 2 := by
        have := mTok.S (t := (by8 q, 0, 0, 0)) c'
        dsimp only at this
        omega
      exact k _ (fK _) ⟨kP _, kI _, by rw [if_neg n2]; exact kR _, Or.inr (Or.inr (Or.inr (Or.inr ⟨c', (q_In (by omega)).trans u5⟩)))⟩
  · have b := b180 (by omega)
    clear k b209 b180
    simp (disch := first | assumption | omega) only [p_some, p_gd, p_br, p_bi, p_nm, p_mp, p_Sl, p_Sr, p_bis, p_gdt, Nat.not_lt_zero, Nat.reduceEqDiff, Nat.reduceLT, Nat.reduceLeDiff, true_and, and_true, true_implies, false_implies, not_true_eq_false, not_false_eq_true, implies_true, and_self, ne_eq, decide_true, decide_false, Bool.not_true, Bool.not_false, if_true, if_false, reduceIte, r_lit, nI_eq]
    exact ⟨fun c => ⟨fun c2 => by omega, fun _ => b⟩, fun _ => b⟩
