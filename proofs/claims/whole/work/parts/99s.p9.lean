/-! the least cost of a night of asking: values of states -/
def a_lf (bk : Nat → Nat) (x : Nat) : Nat := if bk 5 * a_q bk x 0 ≤ bk 6 * a_q1 bk x 6 then bk 5 * a_q bk x 0 else bk 6 * a_q1 bk x 6
def a_fd (f : Nat → Nat) (x v0 : Nat) : Nat → Nat × Nat
  | 0 => (v0, 6)
  | i + 1 => if a_dg x i = 0 ∧ f (x + 3 ^ i) + f (x + 2 * 3 ^ i) < (a_fd f x v0 i).1 then (f (x + 3 ^ i) + f (x + 2 * 3 ^ i), i) else a_fd f x v0 i
def a_V (bk : Nat → Nat) : Nat → Nat → Nat × Nat
  | 0, x => (a_lf bk x * 9 ^ 0, 6)
  | d + 1, x => a_fd (fun y => (a_V bk d y).1) x (a_lf bk x * 9 ^ (d + 1)) (bk 0)
def a_cI (c : Nat) : Int32 := if c = 6 then m1 else nI c
theorem a_fd_s {f : Nat → Nat} {x v0 i : Nat} : a_fd f x v0 (i + 1) = if a_dg x i = 0 ∧ f (x + 3 ^ i) + f (x + 2 * 3 ^ i) < (a_fd f x v0 i).1 then (f (x + 3 ^ i) + f (x + 2 * 3 ^ i), i) else a_fd f x v0 i := rfl
theorem a_fd_le {f : Nat → Nat} {x v0 : Nat} : ∀ i, (a_fd f x v0 i).1 ≤ v0
  | 0 => Nat.le_refl _
  | i + 1 => by
    have ih := a_fd_le (f := f) (x := x) (v0 := v0) i
    rw [a_fd_s]
    split
    · rename_i c
      exact Nat.le_trans (Nat.le_of_lt c.2) ih
    · exact ih
theorem a_V_le {bk : Nat → Nat} {d x : Nat} : (a_V bk d x).1 ≤ a_lf bk x * 9 ^ d := by
  cases d with
  | zero => exact Nat.le_refl _
  | succ d => exact a_fd_le _
theorem a_go : ∀ x, x < 729 → ∀ t, t < 6 → a_dg x t = 0 → x + 2 * 3 ^ t < 729 ∧ a_aq (x + 3 ^ t) 6 = a_aq x 6 + 1 ∧ a_aq (x + 2 * 3 ^ t) 6 = a_aq x 6 + 1 := by decide +kernel
theorem a_qp_le {bk : Nat → Nat} (b : BOK bk) (x q : Nat) : ∀ m, m ≤ 8 → a_qp bk x q m ≤ 9 ^ m
  | 0, _ => Nat.le_refl _
  | m + 1, hm => by
    have ih := a_qp_le b x q m (by omega)
    have hp := b.pl (q := q) (t := m) (by omega)
    have e1 : a_qp bk x q (m + 1) = if a_dg x m = 0 then a_qp bk x q m else if a_dg x m = 1 then a_qp bk x q m * a_pl bk q m else a_qp bk x q m * (9 - a_pl bk q m) := rfl
    rw [e1, Nat.pow_succ]
    have h1 : a_qp bk x q m * a_pl bk q m ≤ 9 ^ m * 9 := Nat.mul_le_mul ih hp
    have h2 : a_qp bk x q m * (9 - a_pl bk q m) ≤ 9 ^ m * 9 := Nat.mul_le_mul ih (Nat.sub_le _ _)
    split
    · omega
    · split
      · exact h1
      · exact h2
theorem a_q_le {bk : Nat → Nat} (b : BOK bk) {x q : Nat} (hq : q < 7) : a_q bk x q ≤ 10628820 := Nat.le_trans (Nat.mul_le_mul (b.w hq) (a_qp_le b x q 6 (by decide))) (by decide)
theorem a_q1_le {bk : Nat → Nat} (b : BOK bk) {x : Nat} : a_q1 bk x 6 ≤ 63772920 := by
  have : a_q1 bk x 6 ≤ 6 * 10628820 := sumN_le (fun q hq => a_q_le b (by omega))
  omega
theorem m_dbg (bk : Nat → Nat) (b : BOK bk) : bk 5 ≤ 0 := by
  have h5 := b.2.2.2.2.2.1
  have h6 := b.2.2.2.2.2.2.1
  trace_state
  sorry
