/-! mistakes of a set of tests: over the parts of the set, or over codes -/
def sumL (f : Nat → Nat) : List Nat → Nat
  | [] => 0
  | a :: l => f a + sumL f l
theorem sumL_app (f : Nat → Nat) : ∀ a b, sumL f (a ++ b) = sumL f a + sumL f b
  | [], b => by show sumL f b = 0 + sumL f b; rw [Nat.zero_add]
  | x :: a, b => by show f x + sumL f (a ++ b) = f x + sumL f a + sumL f b; rw [sumL_app f a b, Nat.add_assoc]
theorem sumL_map (f g : Nat → Nat) : ∀ a, sumL f (a.map g) = sumL (fun i => f (g i)) a
  | [] => rfl
  | x :: a => by show f (g x) + sumL f (a.map g) = f (g x) + sumL (fun i => f (g i)) a; rw [sumL_map f g a]
theorem sumL_filter (f : Nat → Nat) (p : Nat → Bool) : ∀ a, sumL f (a.filter p) = sumL (fun i => if p i = true then f i else 0) a
  | [] => rfl
  | x :: a => by
    have ih := sumL_filter f p a
    rw [List.filter_cons]
    by_cases c : p x = true
    · rw [if_pos c]
      show f x + sumL f (a.filter p) = (if p x = true then f x else 0) + _
      rw [if_pos c, ih]
    · rw [if_neg c]
      show sumL f (a.filter p) = (if p x = true then f x else 0) + _
      rw [if_neg c, ih, Nat.zero_add]
theorem sumL_range (f : Nat → Nat) : ∀ n, sumL f (List.range n) = sumN f n
  | 0 => rfl
  | n + 1 => by
    rw [List.range_succ, sumL_app, sumL_range f n, sumN]
    rfl
def a_dep (set c : Nat) : Nat := a_bs (fun i => set.testBit i && c.testBit (a_ct set i)) 8
theorem a_dep_tb {set c i : Nat} (hi : i < 8) (h : set.testBit i = true) : (a_dep set c).testBit i = c.testBit (a_ct set i) := by
  unfold a_dep
  rw [a_bs_tb, h, Bool.true_and, show decide (i < 8) = true from decide_eq_true hi, Bool.true_and]
theorem a_dep_all : ∀ set, set < 256 → (List.range (set + 1)).filter (fun st => st &&& set == st) = (List.range (2 ^ a_pc set)).map (a_dep set) := by decide +kernel
theorem a_re {set : Nat} (hs : set < 256) (G : Nat → Nat) : sumN (fun st => if st &&& set = st then G st else 0) (set + 1) = sumN (fun c => G (a_dep set c)) (2 ^ a_pc set) := by
  rw [← sumL_range, ← sumL_range, ← sumL_map G (a_dep set), ← a_dep_all set hs, sumL_filter]
  refine congrArg (fun q => sumL q (List.range (set + 1))) (funext (fun st => ?_))
  by_cases c : st &&& set = st
  · rw [if_pos c, if_pos (by rw [c]; exact beq_self_eq_true st)]
  · rw [if_neg c, if_neg (fun q => c (eq_of_beq q))]
def a_er (bk : Nat → Nat) (set st m : Nat) : Nat := sumN (fun q => a_w bk (q + 1) * a_ch bk (q + 1) set st 8) m
def a_e0 (bk : Nat → Nat) (set st : Nat) : Nat := a_w bk 0 * a_ch bk 0 set st 8
def a_eg (bk : Nat → Nat) (set st : Nat) : Nat := if a_e0 bk set st ≤ a_er bk set st 6 then a_e0 bk set st else a_er bk set st 6
def a_es (bk : Nat → Nat) (set m : Nat) : Nat := sumN (fun st => if st &&& set = st then a_eg bk set st else 0) m
def a_em (bk : Nat → Nat) (set : Nat) : Nat := a_es bk set (set + 1)
theorem a_ch_8 {bk : Nat → Nat} {q set st n : Nat} (hs : set < 2 ^ n) : ∀ {m : Nat}, n ≤ m → a_ch bk q set st m = a_ch bk q set st n := by
  intro m hm
  induction m with
  | zero => rw [show n = 0 by omega]
  | succ m ih =>
    by_cases e : n = m + 1
    · rw [e]
    · rw [a_ch, if_neg, ih (by omega)]
      intro c
      have := Nat.ge_two_pow_of_testBit c
      have h2 : 2 ^ n ≤ 2 ^ m := Nat.pow_le_pow_right (by decide) (by omega)
      omega
theorem a_wc_le {bk : Nat → Nat} (b : BOK bk) {q set st m : Nat} (hq : q < 7) (hm : m ≤ 8) : a_w bk q * a_ch bk q set st m ≤ 860934420 := by
  have h1 := a_ch_le b q set st m hm
  have h2 : a_ct set m ≤ 8 := Nat.le_trans (sumN_le (b := 1) (fun i _ => by split <;> omega)) (by omega)
  have h3 := (a_9p h2).1
  exact Nat.le_trans (Nat.mul_le_mul (b.w hq) (Nat.le_trans h1 h3)) (by decide)
theorem a_er_le {bk : Nat → Nat} (b : BOK bk) {set st m : Nat} (hm : m ≤ 6) : a_er bk set st m ≤ 5165606520 := by
  have : a_er bk set st m ≤ m * 860934420 := sumN_le (fun q hq => a_wc_le b (by omega) (Nat.le_refl 8))
  have h2 : m * 860934420 ≤ 6 * 860934420 := Nat.mul_le_mul_right _ hm
  omega
theorem a_eg_le {bk : Nat → Nat} (b : BOK bk) {set st : Nat} : a_eg bk set st ≤ 860934420 := by
  have h := a_wc_le (set := set) (st := st) b (show 0 < 7 by decide) (Nat.le_refl 8)
  unfold a_eg
  unfold a_e0
  split <;> omega
theorem a_es_le {bk : Nat → Nat} (b : BOK bk) {set m : Nat} (hm : m ≤ 256) : a_es bk set m ≤ 220399211520 := by
  have : a_es bk set m ≤ m * 860934420 := sumN_le (fun st _ => by
    have := a_eg_le (set := set) (st := st) b
    split <;> omega)
  have h2 : m * 860934420 ≤ 256 * 860934420 := Nat.mul_le_mul_right _ hm
  omega
theorem x_mistakes {h : z_T} {bo set : Nat} {bk : Nat → Nat} (b : BOK bk) (B : xBk h bo bk) (hs : set < 2 ^ bk 0) : fX0_mistakes bo (nI set) h = some (lN (a_em bk set)) := by
  have h8 := b.1
  have hp := a_2p b
  have hch : ∀ q st, a_ch bk q set st (bk 0) = a_ch bk q set st 8 := fun q st => (a_ch_8 hs h8).symm
  refine p_of ?_
  unfold fX0_mistakes fX0_mistakes_b5
  refine p_for (set + 1) (fun m w => w = (lN (a_es bk set m), nI m)) ?_ ?_ 0 (by omega) rfl
  · rintro m w hm rfl
    have l0 := a_es_le (set := set) (m := m) b (by omega)
    have lg := a_eg_le (set := set) (st := m) b
    have w0 := a_wc_le (set := set) (st := m) b (show 0 < 7 by decide) (Nat.le_refl 8)
    have e1 : a_es bk set (m + 1) = a_es bk set m + (if m &&& set = m then a_eg bk set m else 0) := rfl
    have hw0 := b.w (q := 0) (by decide)
    unfold fX0_mistakes_b5_i
    simp (disch := first | assumption | omega) only [p_some, p_gd, p_br, p_bi, p_nm, p_mp, p_Sl, p_Sr, p_bis, p_gdt, q_IL, q_IR, q_LI, q_LR, q_RI, q_RL, q_KI, q_KL, q_KR, q_NI, q_NL, q_NR, q_nI, q_nL, q_nR, q_okI, q_okL, q_okR, q_Ie, q_In, q_Le, q_Ln, SM_I, SM_L, s_c0, s_cg0, s_cl0, s_cge, s_cle, r_le, r_lt, r_eq, r_md, r_2, r_3, r_lit, r_litL, r_m1, nI_add, nI_1, nI_clamp, nI_leI, nI_ltI, nI_eq, pk_sub, q_ix, nI_l, lN_add, lN_mul, r_m1n, r_m1n', r_m1lt, r_m1nlt, r_m1le, r_m1nle, Nat.not_lt_zero, Nat.reduceEqDiff, Nat.reduceLT, Nat.reduceLeDiff, true_and, and_true, true_implies, false_implies, not_true_eq_false, not_false_eq_true, implies_true, and_self, ne_eq, decide_true, decide_false, Bool.not_true, Bool.not_false, if_true, if_false, reduceIte, xb_0, xb_1, xb_2, xb_3, xb_4, xb_5, xb_6, xb_7, xb_8, xb_9, xb_10, xb_11, xb_12, xb_13, xb_14, xb_15, xb_16, xb_17, xb_18, xb_19, xb_20, xb_21, xo_0, xo_1, xo_2, xo_3, xo_4, xo_5, xo_6, xo_7, xo_8, xo_9, xb_0 B.1, s_sub, x_weightOf B, x_chanceOfB b B, hch, show ¬ set < m by omega]
    refine ⟨fun c => ?_, fun c => ?_⟩
    · rw [if_pos c] at e1
      unfold fX0_mistakes_b43
      refine p_for 6 (fun j w => w = (lN (a_er bk set m j), nI (j + 1))) ?_ ?_ 0 (by omega) rfl
      · rintro j w hj rfl
        have hwj := b.w (q := j + 1) (by omega)
        unfold fX0_mistakes_b43_i
        simp (disch := first | assumption | omega) only [p_some, p_gd, p_br, p_bi, p_nm, p_mp, p_Sl, p_Sr, p_bis, p_gdt, q_IL, q_IR, q_LI, q_LR, q_RI, q_RL, q_KI, q_KL, q_KR, q_NI, q_NL, q_NR, q_nI, q_nL, q_nR, q_okI, q_okL, q_okR, q_Ie, q_In, q_Le, q_Ln, SM_I, SM_L, s_c0, s_cg0, s_cl0, s_cge, s_cle, r_le, r_lt, r_eq, r_md, r_2, r_3, r_lit, r_litL, r_m1, nI_add, nI_1, nI_clamp, nI_leI, nI_ltI, nI_eq, pk_sub, q_ix, nI_l, lN_add, lN_mul, r_m1n, r_m1n', r_m1lt, r_m1nlt, r_m1le, r_m1nle, Nat.not_lt_zero, Nat.reduceEqDiff, Nat.reduceLT, Nat.reduceLeDiff, true_and, and_true, true_implies, false_implies, not_true_eq_false, not_false_eq_true, implies_true, and_self, ne_eq, decide_true, decide_false, Bool.not_true, Bool.not_false, if_true, if_false, reduceIte, xb_0, xb_1, xb_2, xb_3, xb_4, xb_5, xb_6, xb_7, xb_8, xb_9, xb_10, xb_11, xb_12, xb_13, xb_14, xb_15, xb_16, xb_17, xb_18, xb_19, xb_20, xb_21, xo_0, xo_1, xo_2, xo_3, xo_4, xo_5, xo_6, xo_7, xo_8, xo_9, xb_0 B.1, x_weightOf B, x_chanceOfB b B, hch, show ¬ 7 ≤ j + 1 by omega]
        unfold a_er
        rw [sumN]
      · rintro w rfl
        have lr := a_er_le (set := set) (st := m) b (Nat.le_refl 6)
        have em : (if lN (a_er bk set m 6) < lN (a_w bk 0 * a_ch bk 0 set m 8) then lN (a_er bk set m 6) else lN (a_w bk 0 * a_ch bk 0 set m 8)) = lN (a_eg bk set m) := by
          unfold a_eg a_e0
          by_cases c2 : a_w bk 0 * a_ch bk 0 set m 8 ≤ a_er bk set m 6
          · rw [if_pos c2, if_neg (by rw [r_lt (by omega) (by omega)]; omega)]
          · rw [if_neg c2, if_pos (by rw [r_lt (by omega) (by omega)]; omega)]
        unfold fX0_mistakes_b43_i fX0_mistakes_b88
        rw [p_brT (show (7 : Int32) ≤ nI (6 + 1) by decide)]
        dsimp only
        rw [em]
        simp (disch := first | assumption | omega) only [p_some, p_gd, p_br, p_bi, p_nm, p_mp, p_Sl, p_Sr, p_bis, p_gdt, Nat.not_lt_zero, Nat.reduceEqDiff, Nat.reduceLT, Nat.reduceLeDiff, true_and, and_true, true_implies, false_implies, not_true_eq_false, not_false_eq_true, implies_true, and_self, ne_eq, decide_true, decide_false, Bool.not_true, Bool.not_false, if_true, if_false, reduceIte, nI_1, nI_add, lN_add]
        rw [e1]
    · rw [if_neg c] at e1
      unfold fX0_mistakes_b88
      simp (disch := first | assumption | omega) only [p_some, p_gd, p_br, p_bi, p_nm, p_mp, p_Sl, p_Sr, p_bis, p_gdt, q_IL, q_IR, q_LI, q_LR, q_RI, q_RL, q_KI, q_KL, q_KR, q_NI, q_NL, q_NR, q_nI, q_nL, q_nR, q_okI, q_okL, q_okR, q_Ie, q_In, q_Le, q_Ln, SM_I, SM_L, s_c0, s_cg0, s_cl0, s_cge, s_cle, r_le, r_lt, r_eq, r_md, r_2, r_3, r_lit, r_litL, r_m1, nI_add, nI_1, nI_clamp, nI_leI, nI_ltI, nI_eq, pk_sub, q_ix, nI_l, lN_add, lN_mul, r_m1n, r_m1n', r_m1lt, r_m1nlt, r_m1le, r_m1nle, Nat.not_lt_zero, Nat.reduceEqDiff, Nat.reduceLT, Nat.reduceLeDiff, true_and, and_true, true_implies, false_implies, not_true_eq_false, not_false_eq_true, implies_true, and_self, ne_eq, decide_true, decide_false, Bool.not_true, Bool.not_false, if_true, if_false, reduceIte, xb_0, xb_1, xb_2, xb_3, xb_4, xb_5, xb_6, xb_7, xb_8, xb_9, xb_10, xb_11, xb_12, xb_13, xb_14, xb_15, xb_16, xb_17, xb_18, xb_19, xb_20, xb_21, xo_0, xo_1, xo_2, xo_3, xo_4, xo_5, xo_6, xo_7, xo_8, xo_9]
      rw [e1]
      exact rfl
  · rintro w rfl
    unfold fX0_mistakes_b5_i
    simp (disch := first | assumption | omega) only [p_some, p_gd, p_br, p_bi, p_nm, p_mp, p_Sl, p_Sr, p_bis, p_gdt, q_IL, q_IR, q_LI, q_LR, q_RI, q_RL, q_KI, q_KL, q_KR, q_NI, q_NL, q_NR, q_nI, q_nL, q_nR, q_okI, q_okL, q_okR, q_Ie, q_In, q_Le, q_Ln, SM_I, SM_L, s_c0, s_cg0, s_cl0, s_cge, s_cle, r_le, r_lt, r_eq, r_md, r_2, r_3, r_lit, r_litL, r_m1, nI_add, nI_1, nI_clamp, nI_leI, nI_ltI, nI_eq, pk_sub, q_ix, nI_l, lN_add, lN_mul, r_m1n, r_m1n', r_m1lt, r_m1nlt, r_m1le, r_m1nle, Nat.not_lt_zero, Nat.reduceEqDiff, Nat.reduceLT, Nat.reduceLeDiff, true_and, and_true, true_implies, false_implies, not_true_eq_false, not_false_eq_true, implies_true, and_self, ne_eq, decide_true, decide_false, Bool.not_true, Bool.not_false, if_true, if_false, reduceIte, xb_0, xb_1, xb_2, xb_3, xb_4, xb_5, xb_6, xb_7, xb_8, xb_9, xb_10, xb_11, xb_12, xb_13, xb_14, xb_15, xb_16, xb_17, xb_18, xb_19, xb_20, xb_21, xo_0, xo_1, xo_2, xo_3, xo_4, xo_5, xo_6, xo_7, xo_8, xo_9, show set < set + 1 by omega]
    rfl
theorem m_lesser {a b : Nat} (ha : a < 2 ^ 63) (hb : b < 2 ^ 63) : fX12_lesser (lN a) (lN b) = some (lN (if a ≤ b then a else b)) := by
  refine p_of ?_
  unfold fX12_lesser
  simp (disch := first | assumption | omega) only [p_some, p_gd, p_br, p_bi, p_nm, p_mp, p_Sl, p_Sr, p_bis, p_gdt, q_IL, q_IR, q_LI, q_LR, q_RI, q_RL, q_KI, q_KL, q_KR, q_NI, q_NL, q_NR, q_nI, q_nL, q_nR, q_okI, q_okL, q_okR, q_Ie, q_In, q_Le, q_Ln, SM_I, SM_L, s_c0, s_cg0, s_cl0, s_cge, s_cle, r_le, r_lt, r_eq, r_md, r_2, r_3, r_lit, r_litL, r_m1, nI_add, nI_1, nI_clamp, nI_leI, nI_ltI, nI_eq, pk_sub, q_ix, nI_l, lN_add, lN_mul, r_m1n, r_m1n', r_m1lt, r_m1nlt, r_m1le, r_m1nle, Nat.not_lt_zero, Nat.reduceEqDiff, Nat.reduceLT, Nat.reduceLeDiff, true_and, and_true, true_implies, false_implies, not_true_eq_false, not_false_eq_true, implies_true, and_self, ne_eq, decide_true, decide_false, Bool.not_true, Bool.not_false, if_true, if_false, reduceIte]
  refine ⟨fun c => ?_, fun c => ?_⟩
  · by_cases e : a ≤ b
    · rw [if_pos e, show a = b by omega]
    · rw [if_neg e]
  · rw [if_pos (by omega)]
theorem m_errTests {h : z_T} {bk : Nat → Nat} {q set c A B : Nat} {x2 : Int32} {l3 : Int64} {Q : (Int64 × Int64 × Int32) ⊕ ((Int64 × Int32) ⊕ (Int64)) → Prop} (s : SM h) (b : BOK bk) (hB : mB h bk) (hq : q < 7) (hs : set < 256) (hc : c < 256)
    (k : ∀ V, V = a_w bk q * a_ch bk q set (a_dep set c) 8 → Q (.inl (lN (if q = 0 then A + V else A), lN (if q = 0 then B else B + V), nI (q + 1)))) :
    p_W (fX12_errorOf_b51 0 (nI set) x2 l3 (nI c) (lN A) (lN B) (nI q) (lN (a_w bk q)) (nI 0) (nI 0) h) Q := by
  unfold fX12_errorOf_b51
  refine p_for 8 (fun j w => w = (lN (a_w bk q * a_ch bk q set (a_dep set c) j), nI (a_ct set j), nI j)) ?_ ?_ 0 (by omega) (by rw [a_ch, Nat.mul_one]; rfl)
  · rintro j w hj rfl
    have hp := b.pl (q := q) (t := j) (by omega)
    have hct : a_ct set j ≤ 8 := Nat.le_trans (sumN_le (b := 1) (fun i _ => by split <;> omega)) (by omega)
    have e1 : a_ct set (j + 1) = a_ct set j + (if set.testBit j = true then 1 else 0) := rfl
    have e2 : a_ch bk q set (a_dep set c) (j + 1) = if set.testBit j = true then a_ch bk q set (a_dep set c) j * (if (a_dep set c).testBit j = true then a_pl bk q j else 9 - a_pl bk q j) else a_ch bk q set (a_dep set c) j := rfl
    have e3 : set.testBit j = true → (a_dep set c).testBit j = c.testBit (a_ct set j) := a_dep_tb hj
    generalize a_ct set j = ct at hct e1 e3 ⊢
    unfold fX12_errorOf_b51_i fX12_errorOf_b106 fX12_errorOf_b112
    simp (disch := first | assumption | omega) only [p_some, p_gd, p_br, p_bi, p_nm, p_mp, p_Sl, p_Sr, p_bis, p_gdt, q_IL, q_IR, q_LI, q_LR, q_RI, q_RL, q_KI, q_KL, q_KR, q_NI, q_NL, q_NR, q_nI, q_nL, q_nR, q_okI, q_okL, q_okR, q_Ie, q_In, q_Le, q_Ln, SM_I, SM_L, s_c0, s_cg0, s_cl0, s_cge, s_cle, r_le, r_lt, r_eq, r_md, r_2, r_3, r_lit, r_litL, r_m1, nI_add, nI_1, nI_clamp, nI_leI, nI_ltI, nI_eq, pk_sub, q_ix, nI_l, lN_add, lN_mul, r_m1n, r_m1n', r_m1lt, r_m1nlt, r_m1le, r_m1nle, Nat.not_lt_zero, Nat.reduceEqDiff, Nat.reduceLT, Nat.reduceLeDiff, true_and, and_true, true_implies, false_implies, not_true_eq_false, not_false_eq_true, implies_true, and_self, ne_eq, decide_true, decide_false, Bool.not_true, Bool.not_false, if_true, if_false, reduceIte, mk0, mk1, mk2, mk3, mk4, mk5, mk6, mk7, mk8, mk9, mk10, mk11, mk12, mk13, mk14, mk15, mk16, mk17, mk18, mk19, mk20, mk21, mk22, mn1, mn2, mn3, mn4, mn5, mn6, mn7, mn8, mn9, mn10, mn11, mn12, mn13, mn14, mn15, mn16, mn17, mn18, mn19, mn20, mn21, mn22, mr1, mr6, mr7, mr8, mr9, mr10, mr21, mr22, mr23, mr25, mr26, mr29, mr30, mr32, mr33, mr34, mr43, mr47, mr53, mr54, mr55, mr56, m_bitOf, bI_0, m_plain s b hB hq hj, show ¬ 8 ≤ j by omega]
    refine ⟨fun cb => ?_, fun cb => ⟨fun c1 => ?_, fun c1 => ?_⟩⟩
    · rw [if_neg cb] at e1 e2
      rw [e1, e2]
      exact rfl
    · have cb' := Classical.not_not.mp cb
      rw [if_pos cb'] at e1 e2
      rw [e3 cb', if_neg c1] at e2
      rw [e1, e2, ← Nat.mul_assoc]
    · have cb' := Classical.not_not.mp cb
      rw [if_pos cb'] at e1 e2
      rw [e3 cb', if_pos (Classical.not_not.mp c1)] at e2
      rw [e1, e2, ← Nat.mul_assoc]
  · rintro w rfl
    have kk := k _ rfl
    clear k
    generalize a_w bk q * a_ch bk q set (a_dep set c) 8 = V at kk ⊢
    unfold fX12_errorOf_b51_i
    simp (disch := first | assumption | omega) only [p_some, p_gd, p_br, p_bi, p_nm, p_mp, p_Sl, p_Sr, p_bis, p_gdt, q_IL, q_IR, q_LI, q_LR, q_RI, q_RL, q_KI, q_KL, q_KR, q_NI, q_NL, q_NR, q_nI, q_nL, q_nR, q_okI, q_okL, q_okR, q_Ie, q_In, q_Le, q_Ln, SM_I, SM_L, s_c0, s_cg0, s_cl0, s_cge, s_cle, r_le, r_lt, r_eq, r_md, r_2, r_3, r_lit, r_litL, r_m1, nI_add, nI_1, nI_clamp, nI_leI, nI_ltI, nI_eq, pk_sub, q_ix, nI_l, lN_add, lN_mul, r_m1n, r_m1n', r_m1lt, r_m1nlt, r_m1le, r_m1nle, Nat.not_lt_zero, Nat.reduceEqDiff, Nat.reduceLT, Nat.reduceLeDiff, true_and, and_true, true_implies, false_implies, not_true_eq_false, not_false_eq_true, implies_true, and_self, ne_eq, decide_true, decide_false, Bool.not_true, Bool.not_false, if_true, if_false, reduceIte, mk0, mk1, mk2, mk3, mk4, mk5, mk6, mk7, mk8, mk9, mk10, mk11, mk12, mk13, mk14, mk15, mk16, mk17, mk18, mk19, mk20, mk21, mk22, mn1, mn2, mn3, mn4, mn5, mn6, mn7, mn8, mn9, mn10, mn11, mn12, mn13, mn14, mn15, mn16, mn17, mn18, mn19, mn20, mn21, mn22, mr1, mr6, mr7, mr8, mr9, mr10, mr21, mr22, mr23, mr25, mr26, mr29, mr30, mr32, mr33, mr34, mr43, mr47, mr53, mr54, mr55, mr56, Nat.le_refl]
    unfold fX12_errorOf_b131 fX12_errorOf_b147
    refine ⟨fun c => ?_, fun c => ?_⟩
    · rw [if_pos c, if_pos c] at kk
      subst c
      simp (disch := first | assumption | omega) only [p_some, p_gd, p_br, p_bi, p_nm, p_mp, p_Sl, p_Sr, p_bis, p_gdt, Nat.not_lt_zero, Nat.reduceEqDiff, Nat.reduceLT, Nat.reduceLeDiff, true_and, and_true, true_implies, false_implies, not_true_eq_false, not_false_eq_true, implies_true, and_self, ne_eq, decide_true, decide_false, Bool.not_true, Bool.not_false, if_true, if_false, reduceIte, r_lit, r_litL, nI_leI, Nat.le_refl, nI_add, nI_1, lN_add]
      exact kk
    · rw [if_neg c, if_neg c] at kk
      simp (disch := first | assumption | omega) only [p_some, p_gd, p_br, p_bi, p_nm, p_mp, p_Sl, p_Sr, p_bis, p_gdt, Nat.not_lt_zero, Nat.reduceEqDiff, Nat.reduceLT, Nat.reduceLeDiff, true_and, and_true, true_implies, false_implies, not_true_eq_false, not_false_eq_true, implies_true, and_self, ne_eq, decide_true, decide_false, Bool.not_true, Bool.not_false, if_true, if_false, reduceIte, r_lit, r_litL, nI_leI, show ¬ q ≤ 0 by omega, nI_add, nI_1, lN_add]
      exact kk
theorem m_errorOf {h : z_T} {bk : Nat → Nat} {set : Nat} (s : SM h) (b : BOK bk) (hB : mB h bk) (hs : set < 2 ^ bk 0) : fX12_errorOf 0 (nI set) h = some (lN (a_em bk set)) := by
  have h8 := b.1
  have h6 := b.2.1
  have hp := a_2p b
  have hs2 : set < 256 := by omega
  have hpc := a_pc_le set
  have h2p : 2 ^ a_pc set ≤ 256 := Nat.pow_le_pow_right (by decide) hpc
  have eE : a_em bk set = sumN (fun c => a_eg bk set (a_dep set c)) (2 ^ a_pc set) := a_re hs2 (fun st => a_eg bk set st)
  refine p_of ?_
  unfold fX12_errorOf
  simp (disch := first | assumption | omega) only [p_some, p_gd, p_br, p_bi, p_nm, p_mp, p_Sl, p_Sr, p_bis, p_gdt, q_IL, q_IR, q_LI, q_LR, q_RI, q_RL, q_KI, q_KL, q_KR, q_NI, q_NL, q_NR, q_nI, q_nL, q_nR, q_okI, q_okL, q_okR, q_Ie, q_In, q_Le, q_Ln, SM_I, SM_L, s_c0, s_cg0, s_cl0, s_cge, s_cle, r_le, r_lt, r_eq, r_md, r_2, r_3, r_lit, r_litL, r_m1, nI_add, nI_1, nI_clamp, nI_leI, nI_ltI, nI_eq, pk_sub, q_ix, nI_l, lN_add, lN_mul, r_m1n, r_m1n', r_m1lt, r_m1nlt, r_m1le, r_m1nle, Nat.not_lt_zero, Nat.reduceEqDiff, Nat.reduceLT, Nat.reduceLeDiff, true_and, and_true, true_implies, false_implies, not_true_eq_false, not_false_eq_true, implies_true, and_self, ne_eq, decide_true, decide_false, Bool.not_true, Bool.not_false, if_true, if_false, reduceIte, mk0, mk1, mk2, mk3, mk4, mk5, mk6, mk7, mk8, mk9, mk10, mk11, mk12, mk13, mk14, mk15, mk16, mk17, mk18, mk19, mk20, mk21, mk22, mn1, mn2, mn3, mn4, mn5, mn6, mn7, mn8, mn9, mn10, mn11, mn12, mn13, mn14, mn15, mn16, mn17, mn18, mn19, mn20, mn21, mn22, mr1, mr6, mr7, mr8, mr9, mr10, mr21, mr22, mr23, mr25, mr26, mr29, mr30, mr32, mr33, mr34, mr43, mr47, mr53, mr54, mr55, mr56, m_bits hs2]
  unfold fX12_errorOf_b10
  refine p_for (2 ^ a_pc set) (fun c w => w = (lN (sumN (fun c => a_eg bk set (a_dep set c)) c), nI c)) ?_ ?_ 0 (Nat.zero_le _) rfl
  · rintro c w hc rfl
    have e1 : sumN (fun c => a_eg bk set (a_dep set c)) (c + 1) = sumN (fun c => a_eg bk set (a_dep set c)) c + a_eg bk set (a_dep set c) := rfl
    unfold fX12_errorOf_b10_i
    simp (disch := first | assumption | omega) only [p_some, p_gd, p_br, p_bi, p_nm, p_mp, p_Sl, p_Sr, p_bis, p_gdt, q_IL, q_IR, q_LI, q_LR, q_RI, q_RL, q_KI, q_KL, q_KR, q_NI, q_NL, q_NR, q_nI, q_nL, q_nR, q_okI, q_okL, q_okR, q_Ie, q_In, q_Le, q_Ln, SM_I, SM_L, s_c0, s_cg0, s_cl0, s_cge, s_cle, r_le, r_lt, r_eq, r_md, r_2, r_3, r_lit, r_litL, r_m1, nI_add, nI_1, nI_clamp, nI_leI, nI_ltI, nI_eq, pk_sub, q_ix, nI_l, lN_add, lN_mul, r_m1n, r_m1n', r_m1lt, r_m1nlt, r_m1le, r_m1nle, Nat.not_lt_zero, Nat.reduceEqDiff, Nat.reduceLT, Nat.reduceLeDiff, true_and, and_true, true_implies, false_implies, not_true_eq_false, not_false_eq_true, implies_true, and_self, ne_eq, decide_true, decide_false, Bool.not_true, Bool.not_false, if_true, if_false, reduceIte, mk0, mk1, mk2, mk3, mk4, mk5, mk6, mk7, mk8, mk9, mk10, mk11, mk12, mk13, mk14, mk15, mk16, mk17, mk18, mk19, mk20, mk21, mk22, mn1, mn2, mn3, mn4, mn5, mn6, mn7, mn8, mn9, mn10, mn11, mn12, mn13, mn14, mn15, mn16, mn17, mn18, mn19, mn20, mn21, mn22, mr1, mr6, mr7, mr8, mr9, mr10, mr21, mr22, mr23, mr25, mr26, mr29, mr30, mr32, mr33, mr34, mr43, mr47, mr53, mr54, mr55, mr56, r_shl, show ¬ 2 ^ a_pc set ≤ c by omega]
    unfold fX12_errorOf_b27
    refine p_for (bk 1 + 1) (fun q w => w = (lN (if q = 0 then 0 else a_e0 bk set (a_dep set c)), lN (a_er bk set (a_dep set c) (q - 1)), nI q)) ?_ ?_ 0 (by omega) (by rw [if_pos rfl]; rfl)
    · rintro q w hq rfl
      have hwq := b.w (q := q) (by omega)
      unfold fX12_errorOf_b27_i
      simp (disch := first | assumption | omega) only [p_some, p_gd, p_br, p_bi, p_nm, p_mp, p_Sl, p_Sr, p_bis, p_gdt, q_IL, q_IR, q_LI, q_LR, q_RI, q_RL, q_KI, q_KL, q_KR, q_NI, q_NL, q_NR, q_nI, q_nL, q_nR, q_okI, q_okL, q_okR, q_Ie, q_In, q_Le, q_Ln, SM_I, SM_L, s_c0, s_cg0, s_cl0, s_cge, s_cle, r_le, r_lt, r_eq, r_md, r_2, r_3, r_lit, r_litL, r_m1, nI_add, nI_1, nI_clamp, nI_leI, nI_ltI, nI_eq, pk_sub, q_ix, nI_l, lN_add, lN_mul, r_m1n, r_m1n', r_m1lt, r_m1nlt, r_m1le, r_m1nle, Nat.not_lt_zero, Nat.reduceEqDiff, Nat.reduceLT, Nat.reduceLeDiff, true_and, and_true, true_implies, false_implies, not_true_eq_false, not_false_eq_true, implies_true, and_self, ne_eq, decide_true, decide_false, Bool.not_true, Bool.not_false, if_true, if_false, reduceIte, mk0, mk1, mk2, mk3, mk4, mk5, mk6, mk7, mk8, mk9, mk10, mk11, mk12, mk13, mk14, mk15, mk16, mk17, mk18, mk19, mk20, mk21, mk22, mn1, mn2, mn3, mn4, mn5, mn6, mn7, mn8, mn9, mn10, mn11, mn12, mn13, mn14, mn15, mn16, mn17, mn18, mn19, mn20, mn21, mn22, mr1, mr6, mr7, mr8, mr9, mr10, mr21, mr22, mr23, mr25, mr26, mr29, mr30, mr32, mr33, mr34, mr43, mr47, mr53, mr54, mr55, mr56, m_places s hB, m_weightOf s hB, show ¬ bk 1 + 1 ≤ q by omega]
      refine m_errTests s b hB (by omega) hs2 (by omega) (fun V hV => ?_)
      show _ = _
      by_cases c0 : q = 0
      · subst c0
        rw [if_pos rfl, if_pos rfl, if_pos rfl, hV, Nat.zero_add]
        rfl
      · rw [if_neg c0, if_neg c0, if_neg c0, show q + 1 - 1 = (q - 1) + 1 by omega]
        have eg : a_er bk set (a_dep set c) (q - 1 + 1) = a_er bk set (a_dep set c) (q - 1) + a_w bk q * a_ch bk q set (a_dep set c) 8 := by
          unfold a_er
          rw [sumN, show q - 1 + 1 = q by omega]
        rw [eg, hV]
    · rintro w rfl
      have lr := a_er_le (set := set) (st := a_dep set c) b (Nat.le_refl 6)
      have l0 : a_e0 bk set (a_dep set c) ≤ 860934420 := a_wc_le b (by decide) (Nat.le_refl 8)
      have er : a_er bk set (a_dep set c) (bk 1) = a_er bk set (a_dep set c) 6 := (sumN_ext (by omega) (fun i h1 h2 => by rw [b.w0 (by omega) (by omega), Nat.zero_mul])).symm
      unfold fX12_errorOf_b27_i
      rw [if_neg (show ¬ bk 1 + 1 = 0 by omega), Nat.add_sub_cancel, er]
      simp (disch := first | assumption | omega) only [p_some, p_gd, p_br, p_bi, p_nm, p_mp, p_Sl, p_Sr, p_bis, p_gdt, q_IL, q_IR, q_LI, q_LR, q_RI, q_RL, q_KI, q_KL, q_KR, q_NI, q_NL, q_NR, q_nI, q_nL, q_nR, q_okI, q_okL, q_okR, q_Ie, q_In, q_Le, q_Ln, SM_I, SM_L, s_c0, s_cg0, s_cl0, s_cge, s_cle, r_le, r_lt, r_eq, r_md, r_2, r_3, r_lit, r_litL, r_m1, nI_add, nI_1, nI_clamp, nI_leI, nI_ltI, nI_eq, pk_sub, q_ix, nI_l, lN_add, lN_mul, r_m1n, r_m1n', r_m1lt, r_m1nlt, r_m1le, r_m1nle, Nat.not_lt_zero, Nat.reduceEqDiff, Nat.reduceLT, Nat.reduceLeDiff, true_and, and_true, true_implies, false_implies, not_true_eq_false, not_false_eq_true, implies_true, and_self, ne_eq, decide_true, decide_false, Bool.not_true, Bool.not_false, if_true, if_false, reduceIte, mk0, mk1, mk2, mk3, mk4, mk5, mk6, mk7, mk8, mk9, mk10, mk11, mk12, mk13, mk14, mk15, mk16, mk17, mk18, mk19, mk20, mk21, mk22, mn1, mn2, mn3, mn4, mn5, mn6, mn7, mn8, mn9, mn10, mn11, mn12, mn13, mn14, mn15, mn16, mn17, mn18, mn19, mn20, mn21, mn22, mr1, mr6, mr7, mr8, mr9, mr10, mr21, mr22, mr23, mr25, mr26, mr29, mr30, mr32, mr33, mr34, mr43, mr47, mr53, mr54, mr55, mr56, m_places s hB, Nat.le_refl, m_lesser]
      rw [e1]
      exact rfl
  · rintro w rfl
    unfold fX12_errorOf_b10_i
    simp (disch := first | assumption | omega) only [p_some, p_gd, p_br, p_bi, p_nm, p_mp, p_Sl, p_Sr, p_bis, p_gdt, q_IL, q_IR, q_LI, q_LR, q_RI, q_RL, q_KI, q_KL, q_KR, q_NI, q_NL, q_NR, q_nI, q_nL, q_nR, q_okI, q_okL, q_okR, q_Ie, q_In, q_Le, q_Ln, SM_I, SM_L, s_c0, s_cg0, s_cl0, s_cge, s_cle, r_le, r_lt, r_eq, r_md, r_2, r_3, r_lit, r_litL, r_m1, nI_add, nI_1, nI_clamp, nI_leI, nI_ltI, nI_eq, pk_sub, q_ix, nI_l, lN_add, lN_mul, r_m1n, r_m1n', r_m1lt, r_m1nlt, r_m1le, r_m1nle, Nat.not_lt_zero, Nat.reduceEqDiff, Nat.reduceLT, Nat.reduceLeDiff, true_and, and_true, true_implies, false_implies, not_true_eq_false, not_false_eq_true, implies_true, and_self, ne_eq, decide_true, decide_false, Bool.not_true, Bool.not_false, if_true, if_false, reduceIte, mk0, mk1, mk2, mk3, mk4, mk5, mk6, mk7, mk8, mk9, mk10, mk11, mk12, mk13, mk14, mk15, mk16, mk17, mk18, mk19, mk20, mk21, mk22, mn1, mn2, mn3, mn4, mn5, mn6, mn7, mn8, mn9, mn10, mn11, mn12, mn13, mn14, mn15, mn16, mn17, mn18, mn19, mn20, mn21, mn22, mr1, mr6, mr7, mr8, mr9, mr10, mr21, mr22, mr23, mr25, mr26, mr29, mr30, mr32, mr33, mr34, mr43, mr47, mr53, mr54, mr55, mr56, r_shl, Nat.le_refl]
    rw [eE]
