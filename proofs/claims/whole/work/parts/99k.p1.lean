/-! the best set to ask by lot -/
theorem sumN_one {f g : Nat → Nat} {d t : Nat} : ∀ {n : Nat}, t < n → (∀ i, i < n → i ≠ t → g i = f i) → g t = f t + d → sumN g n = sumN f n + d
  | 0, h, _, _ => absurd h (Nat.not_lt_zero _)
  | n + 1, h, he, hd => by
    rw [sumN, sumN]
    by_cases c : t = n
    · have : sumN g n = sumN f n := sumN_congr (fun i hi => he i (by omega) (by omega))
      rw [this, ← c, hd]
      omega
    · rw [sumN_one (by omega) (fun i hi hne => he i (by omega) hne) hd, he n (by omega) (by omega)]
      omega
theorem a_cross {p q r a b c : Nat} (ha : 0 < a) (hb : 0 < b) (hc : 0 < c) (h1 : q * a ≤ p * b) (h2 : r * b ≤ q * c) : r * a ≤ p * c ∧ (r * a = p * c → q * a = p * b ∧ r * b = q * c) := by
  have e1 : r * b * a ≤ q * c * a := Nat.mul_le_mul_right a h2
  have e2 : q * a * c ≤ p * b * c := Nat.mul_le_mul_right c h1
  have c1 : r * b * a = r * a * b := Nat.mul_right_comm r b a
  have c2 : q * c * a = q * a * c := Nat.mul_right_comm q c a
  have c3 : p * b * c = p * c * b := Nat.mul_right_comm p b c
  have e4 : r * a * b ≤ p * c * b := by omega
  refine ⟨Nat.le_of_mul_le_mul_right e4 hb, fun e => ?_⟩
  have e3 : r * a * b = p * c * b := by rw [e]
  exact ⟨Nat.eq_of_mul_eq_mul_right hc (by omega), Nat.eq_of_mul_eq_mul_right ha (by omega)⟩
def a_r (bk : Nat → Nat) (t : Nat) : Nat := 9 - bk (16 + t)
def a_c (bk : Nat → Nat) (t : Nat) : Nat := 2520 / a_r bk t
def a_sg (bk : Nat → Nat) (S n : Nat) : Nat := sumN (fun t => if S.testBit t = true then a_c bk t else 0) n
def a_vl (bk : Nat → Nat) (S : Nat) : Prop := 2 ≤ a_pc S ∧ ∀ t, S.testBit t = true → 0 < a_r bk t
def a_ge (bk : Nat → Nat) (A B : Nat) : Prop := (a_pc B - 1) * a_sg bk A 8 ≤ (a_pc A - 1) * a_sg bk B 8 ∧ ((a_pc B - 1) * a_sg bk A 8 = (a_pc A - 1) * a_sg bk B 8 → a_pc B ≤ a_pc A)
theorem a_r9 {bk : Nat → Nat} {t : Nat} : a_r bk t ≤ 9 := Nat.sub_le _ _
theorem a_cpos {bk : Nat → Nat} {t : Nat} (h : 0 < a_r bk t) : 0 < a_c bk t := Nat.div_pos (by have := a_r9 (bk := bk) (t := t); omega) h
theorem a_cle {bk : Nat → Nat} {t : Nat} : a_c bk t ≤ 2520 := Nat.div_le_self _ _
theorem a_sgpos {bk : Nat → Nat} {S : Nat} (h : a_vl bk S) : 0 < a_sg bk S 8 := by
  obtain ⟨i, hi, h2⟩ := sumN_pos (f := fun k => if S.testBit k = true then 1 else 0) (n := 8) (by have := h.1; unfold a_pc at this; omega)
  have c : S.testBit i = true := Classical.byContradiction (fun c => by
    rw [if_neg c] at h2
    exact absurd h2 (by decide))
  have h3 := sumN_ge (f := fun t => if S.testBit t = true then a_c bk t else 0) hi
  have h4 := a_cpos (h.2 i c)
  simp only [c, if_true] at h3
  unfold a_sg
  omega
theorem a_ge_tr {bk : Nat → Nat} {A B C : Nat} (hA : a_vl bk A) (hB : a_vl bk B) (hC : a_vl bk C) (h1 : a_ge bk A B) (h2 : a_ge bk B C) : a_ge bk A C := by
  obtain ⟨g1, g2⟩ := a_cross (a_sgpos hA) (a_sgpos hB) (a_sgpos hC) h1.1 h2.1
  exact ⟨g1, fun e => Nat.le_trans (h2.2 (g2 e).2) (h1.2 (g2 e).1)⟩
theorem a_ge_rf {bk : Nat → Nat} {A : Nat} : a_ge bk A A := ⟨Nat.le_refl _, fun _ => Nat.le_refl _⟩
theorem a_flip_tb {R t i : Nat} : (R ^^^ 2 ^ t).testBit i = (if i = t then !(R.testBit i) else R.testBit i) := by
  rw [Nat.testBit_xor, Nat.testBit_two_pow]
  by_cases c : i = t
  · rw [if_pos c, decide_eq_true (by omega)]
    cases R.testBit i <;> rfl
  · rw [if_neg c, decide_eq_false (by omega)]
    cases R.testBit i <;> rfl
theorem a_flip_on {bk : Nat → Nat} {R t : Nat} (ht : t < 8) (h : R.testBit t = false) : a_pc (R ^^^ 2 ^ t) = a_pc R + 1 ∧ a_sg bk (R ^^^ 2 ^ t) 8 = a_sg bk R 8 + a_c bk t := by
  constructor
  · refine sumN_one ht (fun i hi hne => ?_) ?_
    · rw [a_flip_tb, if_neg hne]
    · rw [a_flip_tb, if_pos rfl, h]
      rfl
  · refine sumN_one ht (fun i hi hne => ?_) ?_
    · rw [a_flip_tb, if_neg hne]
    · rw [a_flip_tb, if_pos rfl, h]
      simp
theorem a_flip_off {bk : Nat → Nat} {R t : Nat} (ht : t < 8) (h : R.testBit t = true) : a_pc R = a_pc (R ^^^ 2 ^ t) + 1 ∧ a_sg bk R 8 = a_sg bk (R ^^^ 2 ^ t) 8 + a_c bk t := by
  constructor
  · refine sumN_one ht (fun i hi hne => ?_) ?_
    · rw [a_flip_tb, if_neg hne]
    · rw [a_flip_tb, if_pos rfl, h]
      rfl
  · refine sumN_one ht (fun i hi hne => ?_) ?_
    · rw [a_flip_tb, if_neg hne]
    · rw [a_flip_tb, if_pos rfl, h]
      simp
def a_opt (bk : Nat → Nat) (n R : Nat) : Prop := R < 2 ^ n ∧ a_vl bk R ∧ ∀ S, S < 2 ^ n → a_vl bk S → a_ge bk R S
theorem a_opt_iff {bk : Nat → Nat} {n R t : Nat} (hn : n ≤ 8) (o : a_opt bk n R) (ht : t < n) (hr : 0 < a_r bk t) : R.testBit t = true ↔ (a_pc R - 1) * a_c bk t ≤ a_sg bk R 8 := by
  obtain ⟨o1, o2, o3⟩ := o
  have h2 := o2.1
  have hx : R ^^^ 2 ^ t < 2 ^ n := Nat.xor_lt_two_pow o1 (Nat.pow_lt_pow_right (by decide) ht)
  constructor
  · intro h
    refine Classical.byContradiction (fun c => ?_)
    obtain ⟨f1, f2⟩ := a_flip_off (bk := bk) (R := R) (t := t) (by omega) h
    by_cases k2 : 2 ≤ a_pc (R ^^^ 2 ^ t)
    · have v : a_vl bk (R ^^^ 2 ^ t) := ⟨k2, fun i hi => o2.2 i (by
        rw [a_flip_tb] at hi
        by_cases e : i = t
        · rw [e]; exact h
        · rw [if_neg e] at hi; exact hi)⟩
      have g := (o3 _ hx v).1
      rw [f1, f2] at g c
      generalize a_pc (R ^^^ 2 ^ t) = k at g c k2
      generalize a_sg bk (R ^^^ 2 ^ t) 8 = d at g c
      generalize a_c bk t = e at g c
      obtain ⟨k, rfl⟩ : ∃ j, k = j + 1 := ⟨k - 1, by omega⟩
      simp only [Nat.add_sub_cancel] at g c
      rw [Nat.mul_add, Nat.add_mul, Nat.one_mul] at g
      rw [Nat.add_mul, Nat.one_mul] at c
      omega
    · have e1 : a_pc R - 1 = 1 := by omega
      rw [e1, f2] at c
      omega
  · intro h
    refine Classical.byContradiction (fun c => ?_)
    have c' : R.testBit t = false := by simpa using c
    obtain ⟨f1, f2⟩ := a_flip_on (bk := bk) (R := R) (t := t) (by omega) c'
    have v : a_vl bk (R ^^^ 2 ^ t) := ⟨by omega, fun i hi => by
      by_cases e : i = t
      · rw [e]; exact hr
      · rw [a_flip_tb, if_neg e] at hi; exact o2.2 i hi⟩
    obtain ⟨g1, g2⟩ := o3 _ hx v
    rw [f1, f2] at g1 g2
    generalize a_pc R = k at g1 g2 h h2
    generalize a_sg bk R 8 = d at g1 g2 h
    generalize a_c bk t = e at g1 g2 h
    obtain ⟨k, rfl⟩ : ∃ j, k = j + 1 := ⟨k - 1, by omega⟩
    simp only [Nat.add_sub_cancel] at g1 g2 h
    rw [Nat.mul_add, Nat.add_mul, Nat.one_mul] at g1 g2
    have := g2 (by omega)
    omega
