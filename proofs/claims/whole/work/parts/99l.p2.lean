/-! thresholds: the class's way to the best set -/
def a_T (bk : Nat → Nat) (n x : Nat) : Nat := a_bs (fun t => decide (x ≤ a_r bk t)) n
theorem a_T_tb {bk : Nat → Nat} {n x i : Nat} : (a_T bk n x).testBit i = true ↔ i < n ∧ x ≤ a_r bk i := by
  unfold a_T
  rw [a_bs_tb]
  simp
theorem a_T_lt {bk : Nat → Nat} {n x : Nat} : a_T bk n x < 2 ^ n := a_bs_lt _ _
theorem a_T_vl {bk : Nat → Nat} {n x : Nat} (h : 2 ≤ a_pc (a_T bk n x)) (hx : 0 < x) : a_vl bk (a_T bk n x) := ⟨h, fun t ht => by
  have := (a_T_tb.mp ht).2
  omega⟩
def a_ak (bk : Nat → Nat) (n : Nat) : Nat → Nat
  | 0 => 0
  | d + 1 => if a_pc (a_T bk n (9 - d)) ≤ 1 then a_ak bk n d else if a_ak bk n d = 0 then a_T bk n (9 - d) else
    if (a_pc (a_T bk n (9 - d)) - 1) * a_sg bk (a_ak bk n d) 8 < (a_pc (a_ak bk n d) - 1) * a_sg bk (a_T bk n (9 - d)) 8 then a_ak bk n d else a_T bk n (9 - d)
def a_akP (bk : Nat → Nat) (n d : Nat) : Prop := (a_ak bk n d = 0 ∧ ∀ i, i < d → ¬ 2 ≤ a_pc (a_T bk n (9 - i))) ∨
  ∃ j, j < d ∧ a_ak bk n d = a_T bk n (9 - j) ∧ 2 ≤ a_pc (a_T bk n (9 - j)) ∧ ∀ i, i < d → 2 ≤ a_pc (a_T bk n (9 - i)) →
    (a_pc (a_T bk n (9 - i)) - 1) * a_sg bk (a_T bk n (9 - j)) 8 ≤ (a_pc (a_T bk n (9 - j)) - 1) * a_sg bk (a_T bk n (9 - i)) 8 ∧ (j < i → (a_pc (a_T bk n (9 - i)) - 1) * a_sg bk (a_T bk n (9 - j)) 8 < (a_pc (a_T bk n (9 - j)) - 1) * a_sg bk (a_T bk n (9 - i)) 8)
theorem a_pc_0 : a_pc 0 = 0 := by decide
theorem a_ak_inv {bk : Nat → Nat} {n : Nat} : ∀ d, d ≤ 9 → a_akP bk n d
  | 0, _ => Or.inl ⟨rfl, fun i h => absurd h (Nat.not_lt_zero _)⟩
  | d + 1, hd => by
    have ih := a_ak_inv (bk := bk) (n := n) d (by omega)
    have e1 : a_ak bk n (d + 1) = if a_pc (a_T bk n (9 - d)) ≤ 1 then a_ak bk n d else if a_ak bk n d = 0 then a_T bk n (9 - d) else
      if (a_pc (a_T bk n (9 - d)) - 1) * a_sg bk (a_ak bk n d) 8 < (a_pc (a_ak bk n d) - 1) * a_sg bk (a_T bk n (9 - d)) 8 then a_ak bk n d else a_T bk n (9 - d) := rfl
    unfold a_akP at ih ⊢
    by_cases c1 : a_pc (a_T bk n (9 - d)) ≤ 1
    · rw [if_pos c1] at e1
      rw [e1]
      rcases ih with ⟨i1, i2⟩ | ⟨j, i1, i2, i3, i4⟩
      · refine Or.inl ⟨i1, fun i hi => ?_⟩
        by_cases e : i = d
        · rw [e]; omega
        · exact i2 i (by omega)
      · refine Or.inr ⟨j, by omega, i2, i3, fun i hi h2 => ?_⟩
        by_cases e : i = d
        · rw [e] at h2; omega
        · exact i4 i (by omega) h2
    · rw [if_neg c1] at e1
      rcases ih with ⟨i1, i2⟩ | ⟨j, i1, i2, i3, i4⟩
      · rw [if_pos i1] at e1
        refine Or.inr ⟨d, by omega, e1, by omega, fun i hi h2 => ?_⟩
        by_cases e : i = d
        · rw [e]
          exact ⟨Nat.le_refl _, fun h => absurd h (Nat.lt_irrefl _)⟩
        · exact absurd h2 (i2 i (by omega))
      · have hne : ¬ a_ak bk n d = 0 := fun e => by
          rw [i2] at e
          rw [e, a_pc_0] at i3
          omega
        rw [if_neg hne, i2] at e1
        by_cases c3 : (a_pc (a_T bk n (9 - d)) - 1) * a_sg bk (a_T bk n (9 - j)) 8 < (a_pc (a_T bk n (9 - j)) - 1) * a_sg bk (a_T bk n (9 - d)) 8
        · rw [if_pos c3] at e1
          refine Or.inr ⟨j, by omega, e1, i3, fun i hi h2 => ?_⟩
          by_cases e : i = d
          · rw [e]
            exact ⟨Nat.le_of_lt c3, fun _ => c3⟩
          · exact i4 i (by omega) h2
        · rw [if_neg c3] at e1
          refine Or.inr ⟨d, by omega, e1, by omega, fun i hi h2 => ?_⟩
          by_cases e : i = d
          · rw [e]
            exact ⟨Nat.le_refl _, fun h => absurd h (Nat.lt_irrefl _)⟩
          · have h3 := (i4 i (by omega) h2).1
            have vT := a_T_vl (bk := bk) (n := n) (x := 9 - d) (by omega) (by omega)
            have vj := a_T_vl (bk := bk) (n := n) (x := 9 - j) i3 (by omega)
            have vi := a_T_vl (bk := bk) (n := n) (x := 9 - i) h2 (by omega)
            exact ⟨(a_cross (a_sgpos vT) (a_sgpos vj) (a_sgpos vi) (Nat.le_of_not_lt c3) h3).1, fun h => absurd h (by omega)⟩
theorem a_pc_sub {A B : Nat} (hA : A < 256) (hB : B < 256) (h : ∀ i, A.testBit i = true → B.testBit i = true) (hk : a_pc B ≤ a_pc A) : B = A := by
  refine Nat.eq_of_testBit_eq (fun i => ?_)
  refine Classical.byContradiction (fun c => ?_)
  have hb : B.testBit i = true := by
    cases e : A.testBit i
    · cases e2 : B.testBit i
      · exact absurd (e2.trans e.symm) c
      · rfl
    · exact h i e
  have ha : A.testBit i = false := by
    cases e : A.testBit i
    · rfl
    · exact absurd (hb.trans e.symm) c
  have hi : i < 8 := Classical.byContradiction (fun q => by
    have := Nat.ge_two_pow_of_testBit hb
    have h2 : 2 ^ 8 ≤ 2 ^ i := Nat.pow_le_pow_right (by decide) (by omega)
    omega)
  obtain ⟨f1, -⟩ := a_flip_on (bk := fun _ => 0) hi ha
  have h3 : a_pc (A ^^^ 2 ^ i) ≤ a_pc B := sumN_mono (fun l hl => by
    by_cases e : (A ^^^ 2 ^ i).testBit l = true
    · rw [if_pos e, if_pos]
      · exact Nat.le_refl _
      · rw [a_flip_tb] at e
        by_cases e2 : l = i
        · rw [e2]; exact hb
        · rw [if_neg e2] at e; exact h l e
    · rw [if_neg e]; exact Nat.zero_le _)
  omega
theorem a_opt_T {bk : Nat → Nat} {n R : Nat} (hn : n ≤ 8) (o : a_opt bk n R) : ∃ x, 1 ≤ x ∧ x ≤ 9 ∧ R = a_T bk n x := by
  have hbit : ∀ t, R.testBit t = true → t < n := fun t ht => Classical.byContradiction (fun q => by
    have := Nat.ge_two_pow_of_testBit ht
    have h2 : 2 ^ n ≤ 2 ^ t := Nat.pow_le_pow_right (by decide) (by omega)
    have := o.1
    omega)
  have key : ∀ m, m ≤ 9 → (∀ r, 0 < r → r ≤ m → ¬ (a_pc R - 1) * (2520 / r) ≤ a_sg bk R 8) ∨ ∃ x, 1 ≤ x ∧ x ≤ m ∧ (a_pc R - 1) * (2520 / x) ≤ a_sg bk R 8 ∧ ∀ r, 0 < r → r < x → ¬ (a_pc R - 1) * (2520 / r) ≤ a_sg bk R 8 := by
    intro m
    induction m with
    | zero => exact fun _ => Or.inl (fun r h1 h2 => by omega)
    | succ m ih =>
      intro hm
      rcases ih (by omega) with i | ⟨x, i1, i2, i3, i4⟩
      · by_cases c : (a_pc R - 1) * (2520 / (m + 1)) ≤ a_sg bk R 8
        · exact Or.inr ⟨m + 1, by omega, Nat.le_refl _, c, fun r h1 h2 => i r h1 (by omega)⟩
        · refine Or.inl (fun r h1 h2 => ?_)
          by_cases e : r = m + 1
          · rw [e]; exact c
          · exact i r h1 (by omega)
      · exact Or.inr ⟨x, i1, by omega, i3, i4⟩
  obtain ⟨t0, ht0, h0⟩ := sumN_pos (f := fun k => if R.testBit k = true then 1 else 0) (n := 8) (by have := o.2.1.1; unfold a_pc at this; omega)
  have hb0 : R.testBit t0 = true := Classical.byContradiction (fun c => by
    rw [if_neg c] at h0
    exact absurd h0 (by decide))
  have hr0 := o.2.1.2 t0 hb0
  have q0 := (a_opt_iff hn o (hbit t0 hb0) hr0).mp hb0
  rcases key 9 (Nat.le_refl 9) with i | ⟨x, i1, i2, i3, i4⟩
  · exact absurd q0 (i _ hr0 a_r9)
  · refine ⟨x, i1, i2, Nat.eq_of_testBit_eq (fun t => ?_)⟩
    have hiff : R.testBit t = true ↔ (a_T bk n x).testBit t = true := by
      rw [a_T_tb]
      constructor
      · intro ht
        have htn := hbit t ht
        have hr := o.2.1.2 t ht
        have q := (a_opt_iff hn o htn hr).mp ht
        exact ⟨htn, Classical.byContradiction (fun c => i4 _ hr (by omega) q)⟩
      · rintro ⟨htn, hx⟩
        refine (a_opt_iff hn o htn (by omega)).mpr (Nat.le_trans (Nat.mul_le_mul_left _ ?_) i3)
        exact Nat.div_le_div_left hx (by omega)
    cases e : R.testBit t
    · cases e2 : (a_T bk n x).testBit t
      · rfl
      · exact absurd (hiff.mpr e2) (by rw [e]; decide)
    · exact (hiff.mp e).symm
theorem a_ak_opt {bk : Nat → Nat} {n R : Nat} (hn : n ≤ 8) (o : a_opt bk n R) : a_ak bk n 9 = R := by
  obtain ⟨x, x1, x9, eR⟩ := a_opt_T hn o
  have h2 := o.2.1.1
  have h2n : 2 ^ n ≤ 256 := Nat.pow_le_pow_right (by decide) hn
  have hR := o.1
  have inv := a_ak_inv (bk := bk) (n := n) 9 (Nat.le_refl 9)
  unfold a_akP at inv
  rcases inv with ⟨i1, i2⟩ | ⟨j, i1, i2, i3, i4⟩
  · refine absurd h2 ?_
    have := i2 (9 - x) (by omega)
    rw [show 9 - (9 - x) = x by omega, ← eR] at this
    exact this
  · have hx := i4 (9 - x) (by omega)
    rw [show 9 - (9 - x) = x by omega, ← eR] at hx
    obtain ⟨g1, g2⟩ := hx h2
    obtain ⟨m1, m2⟩ := o.2.2 (a_T bk n (9 - j)) a_T_lt (a_T_vl i3 (by omega))
    have hj : ¬ j < 9 - x := fun q => by
      have := g2 q
      omega
    have hk := m2 (Nat.le_antisymm m1 g1)
    have hC : a_T bk n (9 - j) < 2 ^ n := a_T_lt
    rw [i2]
    refine a_pc_sub (by omega) (by omega) (fun t ht => ?_) hk
    rw [eR] at ht
    obtain ⟨t1, t2⟩ := a_T_tb.mp ht
    exact a_T_tb.mpr ⟨t1, by omega⟩
theorem a_ak_none {bk : Nat → Nat} {n : Nat} (h : ∀ S, S < 2 ^ n → ¬ a_vl bk S) : a_ak bk n 9 = 0 := by
  have inv := a_ak_inv (bk := bk) (n := n) 9 (Nat.le_refl 9)
  unfold a_akP at inv
  rcases inv with ⟨i1, i2⟩ | ⟨j, i1, i2, i3, i4⟩
  · exact i1
  · exact absurd (a_T_vl i3 (by omega)) (h _ a_T_lt)
