/-! said: both loops come to the same -/
theorem a_cn_pc {v : Nat} : a_cn v.testBit 8 = a_pc v := by
  have e : ∀ m, a_cn v.testBit m = sumN (fun k => if v.testBit k = true then 1 else 0) m := by
    intro m
    induction m with
    | zero => rfl
    | succ m ih => rw [a_cn, sumN, ih]
  exact e 8
theorem a_cn_le {p : Nat → Bool} : ∀ m, a_cn p m ≤ m
  | 0 => Nat.le_refl 0
  | m + 1 => by
    have := a_cn_le (p := p) m
    rw [a_cn]
    split <;> omega
theorem a_cn_t {p : Nat → Bool} {n : Nat} (hp : ∀ t, n ≤ t → p t = false) : ∀ k, a_cn p (n + k) = a_cn p n
  | 0 => rfl
  | k + 1 => by
    rw [show n + (k + 1) = (n + k) + 1 from rfl, a_cn, hp (n + k) (by omega), if_neg Bool.false_ne_true, Nat.add_zero]
    exact a_cn_t hp k
theorem a_sd_m1 {p : Nat → Bool} : ∀ m t, m + t < 100 → a_sd p m1 m t = nI (a_cn p (m + t))
  | 0, t, _ => by rw [a_sd, if_pos rfl, Nat.zero_add]
  | m + 1, t, h => by
    have c := a_cn_le (p := p) t
    have z : ¬ nI (a_cn p t) = m1 := fun e => by rw [r_m1n (by omega)] at e; exact e
    rw [a_sd, if_neg (fun q => z q.2), a_sd_m1 m (t + 1) (by omega), show m + (t + 1) = m + 1 + t by omega]
theorem a_sd_t {p : Nat → Bool} {n : Nat} {x : Int32} (hp : ∀ t, n ≤ t → p t = false) (cx : ¬ x = m1) : ∀ m t, n ≤ t → a_sd p x m t = m1
  | 0, t, _ => by rw [a_sd, if_neg cx]
  | m + 1, t, h => by
    rw [a_sd, hp t h, if_neg (fun q => Bool.false_ne_true q.1)]
    exact a_sd_t hp cx m (t + 1) (by omega)
theorem a_sd_n {p : Nat → Bool} {n k : Nat} {x : Int32} (hp : ∀ t, n ≤ t → p t = false) (cx : ¬ x = m1) : ∀ m t, m + t = n → a_sd p x (m + k) t = a_sd p x m t
  | 0, t, h => by rw [a_sd_t hp cx (0 + k) t (by omega), a_sd_t hp cx 0 t (by omega)]
  | m + 1, t, h => by
    rw [show m + 1 + k = (m + k) + 1 by omega, a_sd, a_sd, a_sd_n hp cx m (t + 1) (by omega)]
theorem a_sd_eq {p : Nat → Bool} {n : Nat} {x : Int32} (hn : n ≤ 8) (hp : ∀ t, n ≤ t → p t = false) : a_sd p x n 0 = if x = m1 then nI (a_cn p 8) else a_sd p x 8 0 := by
  by_cases cx : x = m1
  · subst cx
    have e := a_cn_t hp (8 - n)
    rw [show n + (8 - n) = 8 by omega] at e
    rw [if_pos rfl, a_sd_m1 n 0 (by omega), Nat.add_zero, e]
  · have e := a_sd_n (k := 8 - n) hp cx n 0 (by omega)
    rw [show n + (8 - n) = 8 by omega] at e
    rw [if_neg cx, e]
