/-! the reference's tree: its nodes as they come, each at its place -/
def MT (nf : Nat → Int32) (nd pos : Nat → Nat) (m : Nat) : Prop :=
  (∀ i, i < m → 1 ≤ pos i ∧ pos i < 32 ∧ nd (pos i) ≠ 0) ∧
  (∀ i j, i < m → j < m → pos i = pos j → i = j) ∧
  (∀ g : Nat → Nat, sumN (fun i => g (pos i)) m = sumN (fun q => if nd q = 0 then 0 else g q) 32) ∧
  (∀ i, i < m → nf (4 * i) = a_nv (nd (pos i))) ∧
  (∀ j, j < m → (pos j = 1 ∧ nf (4 * j + 3) = m1) ∨ (2 ≤ pos j ∧ ∃ i, i < m ∧ pos i = pos j / 2 ∧ nf (4 * j + 3) = nI i)) ∧
  (∀ i j b, i < m → j < m → b < 2 → pos j = 2 * pos i + b → nf (4 * i + 1 + b) = nI j) ∧
  (0 < m → pos 0 = 1)
theorem sumN_ud {F : Nat → Nat} {p v : Nat} (h0 : F p = 0) : ∀ n, sumN (a_ud F p v) n = sumN F n + if p < n then v else 0
  | 0 => by rw [if_neg (Nat.not_lt_zero _)]; rfl
  | n + 1 => by
    have ih := sumN_ud (F := F) (p := p) (v := v) h0 n
    rw [sumN, sumN, ih]
    by_cases e : n = p
    · subst e
      rw [a_ud_e, if_neg (Nat.lt_irrefl _), if_pos (Nat.lt_succ_self _), h0]
    · rw [a_ud_n e]
      by_cases c : p < n
      · rw [if_pos c, if_pos (by omega)]; omega
      · rw [if_neg c, if_neg (by omega)]; omega
theorem MT.z0 {nf : Nat → Int32} {nd pos : Nat → Nat} {m : Nat} (M : MT nf nd pos m) : nd 0 = 0 := by
  have h := M.2.2.1 (fun q => if q = 0 then 1 else 0)
  have l : sumN (fun i => if pos i = 0 then 1 else 0) m = 0 := sumN_zero (fun i hi => by rw [if_neg (by have := (M.1 i hi).1; omega)])
  rw [l] at h
  have g := sumN_ge (f := fun q => if nd q = 0 then 0 else if q = 0 then 1 else 0) (n := 32) (i := 0) (by omega)
  by_cases c : nd 0 = 0
  · exact c
  · rw [if_neg c, if_pos rfl] at g; omega
theorem MT.le {nf : Nat → Int32} {nd pos : Nat → Nat} {m : Nat} (M : MT nf nd pos m) : m + (if nd 1 = 0 then 1 else 0) ≤ 31 := by
  have h := M.2.2.1 (fun _ => 1)
  have z := M.z0
  have e1 : sumN (fun _ => 1) m = m := by
    have : ∀ k, sumN (fun _ => 1) k = k := fun k => by
      induction k with
      | zero => rfl
      | succ k ih => rw [sumN, ih]
    exact this m
  rw [e1, sumN_head, sumN_head] at h
  have b : sumN (fun i => if nd (i + 1 + 1) = 0 then 0 else 1) 30 ≤ 30 * 1 := sumN_le (fun i hi => by split <;> omega)
  rw [if_pos z] at h
  by_cases c : nd (0 + 1) = 0
  · rw [if_pos c] at h
    rw [if_pos c]
    omega
  · rw [if_neg c] at h
    rw [if_neg c]
    omega
theorem MT.at {nf : Nat → Int32} {nd pos : Nat → Nat} {m p : Nat} (M : MT nf nd pos m) (hp : p < 32) (h : nd p ≠ 0) : ∃ i, i < m ∧ pos i = p := by
  refine Classical.byContradiction (fun c => ?_)
  have h1 := M.2.2.1 (fun q => if q = p then 1 else 0)
  have l : sumN (fun i => if pos i = p then 1 else 0) m = 0 := sumN_zero (fun i hi => by rw [if_neg (fun q => c ⟨i, hi, q⟩)])
  rw [l] at h1
  have g := sumN_ge (f := fun q => if nd q = 0 then 0 else if q = p then 1 else 0) (n := 32) (i := p) hp
  rw [if_neg h, if_pos rfl] at g
  omega
/-- one more node -/
theorem MT.hang {nf nf' : Nat → Int32} {nd pos : Nat → Nat} {m p c r : Nat} (M : MT nf nd pos m) (hp : 1 ≤ p) (hp2 : p < 32) (h0 : nd p = 0) (hc : c ≠ 0) (hr : (p = 1 ∧ m = 0 ∧ nf' (4 * m + 3) = m1) ∨ (2 ≤ p ∧ r < m ∧ pos r = p / 2 ∧ nf' (4 * m + 3) = nI r ∧ nf' (4 * r + 1 + p % 2) = nI m))
    (e0 : nf' (4 * m) = a_nv c) (es : ∀ k, k < 4 * m → (r < m → k ≠ 4 * r + 1 + p % 2) → nf' k = nf k) : MT nf' (a_ud nd p c) (a_ud pos m p) (m + 1) := by
  obtain ⟨M1, M2, M3, M4, M5, M6, M7⟩ := M
  have pm : ∀ i, i < m → a_ud pos m p i = pos i := fun i hi => a_ud_n (by omega)
  have ne : ∀ i, i < m → pos i ≠ p := fun i hi e => (M1 i hi).2.2 (by rw [e]; exact h0)
  have ndp : ∀ i, i < m → a_ud nd p c (pos i) = nd (pos i) := fun i hi => a_ud_n (ne i hi)
  have pr : ∀ j, j < m → 2 ≤ pos j → pos j / 2 ≠ p := fun j hj h2 e => by
    rcases M5 j hj with q | ⟨-, i, hi, q, -⟩
    · omega
    · exact ne i hi (by omega)
  refine ⟨fun i hi => ?_, fun i j hi hj e => ?_, fun g => ?_, fun i hi => ?_, fun j hj => ?_, fun i j b hi hj hb e => ?_, fun _ => ?_⟩
  · by_cases e : i = m
    · subst e; rw [a_ud_e, a_ud_e]; exact ⟨hp, hp2, hc⟩
    · rw [pm i (by omega), ndp i (by omega)]; exact M1 i (by omega)
  · by_cases e1 : i = m
    · by_cases e2 : j = m
      · omega
      · subst e1
        rw [a_ud_e, pm j (by omega)] at e
        exact absurd e.symm (ne j (by omega))
    · by_cases e2 : j = m
      · subst e2
        rw [a_ud_e, pm i (by omega)] at e
        exact absurd e (ne i (by omega))
      · rw [pm i (by omega), pm j (by omega)] at e
        exact M2 i j (by omega) (by omega) e
  · have h1 := M3 g
    have l : sumN (fun i => g (a_ud pos m p i)) m = sumN (fun i => g (pos i)) m := sumN_congr (fun i hi => by rw [pm i hi])
    have rr : (fun q => if a_ud nd p c q = 0 then 0 else g q) = a_ud (fun q => if nd q = 0 then 0 else g q) p (g p) := by
      funext q
      by_cases e : q = p
      · subst e; rw [a_ud_e, a_ud_e, if_neg hc]
      · rw [a_ud_n e, a_ud_n e]
    rw [sumN, l, a_ud_e, rr, sumN_ud (by rw [if_pos h0]), if_pos hp2, h1]
  · by_cases e : i = m
    · subst e; rw [a_ud_e, a_ud_e]; exact e0
    · rw [pm i (by omega), ndp i (by omega), es (4 * i) (by omega) (fun _ => by omega)]
      exact M4 i (by omega)
  · by_cases e : j = m
    · subst e
      rw [a_ud_e]
      rcases hr with ⟨q1, q2, q3⟩ | ⟨q1, q2, q3, q4, -⟩
      · exact Or.inl ⟨q1, q3⟩
      · exact Or.inr ⟨q1, r, by omega, by rw [pm r q2]; exact q3, q4⟩
    · rw [pm j (by omega), es (4 * j + 3) (by omega) (fun _ => by omega)]
      rcases M5 j (by omega) with q | ⟨q1, i, hi, q2, q3⟩
      · exact Or.inl q
      · exact Or.inr ⟨q1, i, by omega, by rw [pm i hi]; exact q2, q3⟩
  · by_cases e1 : i = m
    · subst e1
      rw [a_ud_e] at e
      by_cases e2 : j = i
      · subst e2
        rw [a_ud_e] at e
        omega
      · rw [pm j (by omega)] at e
        exact absurd (show pos j / 2 = p by omega) (pr j (by omega) (by omega))
    · rw [pm i (by omega)] at e
      by_cases e2 : j = m
      · subst e2
        rw [a_ud_e] at e
        rcases hr with ⟨q1, q2, q3⟩ | ⟨q1, q2, q3, q4, q5⟩
        · omega
        · have : i = r := M2 i r (by omega) q2 (by omega)
          subst this
          rw [show b = p % 2 by omega]
          exact q5
      · rw [pm j (by omega)] at e
        rw [es _ (by omega) (fun hr2 e3 => ?_)]
        · exact M6 i j b (by omega) (by omega) hb e
        · have e4 : i = r := by omega
          subst e4
          rcases hr with ⟨q1, q2, q3⟩ | ⟨q1, q2, q3, q4, q5⟩
          · omega
          · exact ne j (by omega) (by omega)
  · by_cases e : m = 0
    · subst e
      rw [a_ud_e]
      rcases hr with q | q
      · exact q.1
      · omega
    · rw [pm 0 (by omega)]
      exact M7 (by omega)
