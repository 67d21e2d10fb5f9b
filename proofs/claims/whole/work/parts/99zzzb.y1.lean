/-! the class's nth of a set -/
theorem x_nthLoop {v : Nat} {x : Int32} (cx : ¬ x = m1) : ∀ m t, m + t = 8 → p_W (y_lp (fun q : Int32 × Int32 => fX11_nthOf_b4_i (nI v) x q.1 q.2) (nI (a_cn v.testBit t), nI t)) (fun w => w = a_sd v.testBit x m t) := by
  intro m
  induction m with
  | zero =>
    intro t hm
    rw [a_sd]
    generalize hQ : (fun w : Int32 => w = (if x = m1 then nI (a_cn v.testBit t) else m1)) = Q
    refine p_unP (fun P hP => ?_)
    unfold fX11_nthOf_b4_i
    simp (disch := first | assumption | omega) only [p_some, p_gd, p_br, p_bi, p_nm, p_mp, p_Sl, p_Sr, p_bis, p_gdt, Nat.not_lt_zero, Nat.reduceEqDiff, Nat.reduceLT, Nat.reduceLeDiff, true_and, and_true, true_implies, false_implies, not_true_eq_false, not_false_eq_true, implies_true, and_self, ne_eq, decide_true, decide_false, Bool.not_true, Bool.not_false, if_true, if_false, reduceIte, r_lit, r_m1, nI_leI, show 8 ≤ t by omega]
    subst hQ
    exact (if_neg cx).symm
  | succ m ih =>
    intro t hm
    have ht : t < 31 := by omega
    rw [a_sd]
    generalize hQ : (fun w : Int32 => w = (if v.testBit t = true ∧ nI (a_cn v.testBit t) = x then nI t else a_sd v.testBit x m (t + 1))) = Q
    have go : ¬ (v.testBit t = true ∧ nI (a_cn v.testBit t) = x) → p_W (y_lp (fun q : Int32 × Int32 => fX11_nthOf_b4_i (nI v) x q.1 q.2) (nI (a_cn v.testBit (t + 1)), nI (t + 1))) Q := fun c => by
      subst hQ
      rw [if_neg c]
      exact ih (t + 1) (by omega)
    rw [a_cn] at go
    refine p_unP (fun P hP => ?_)
    unfold fX11_nthOf_b4_i fX11_nthOf_b28
    simp (disch := first | assumption | omega) only [p_some, p_gd, p_br, p_bi, p_nm, p_mp, p_Sl, p_Sr, p_bis, p_gdt, Nat.not_lt_zero, Nat.reduceEqDiff, Nat.reduceLT, Nat.reduceLeDiff, true_and, and_true, true_implies, false_implies, not_true_eq_false, not_false_eq_true, implies_true, and_self, ne_eq, decide_true, decide_false, Bool.not_true, Bool.not_false, if_true, if_false, reduceIte, r_lit, nI_leI, show ¬ 8 ≤ t by omega, r_shl, s_tb, nI_add]
    refine ⟨fun c => ?_, fun c => ⟨fun c2 => ?_, fun c2 => ?_⟩⟩
    · rw [c] at go
      rw [if_neg Bool.false_ne_true, Nat.add_zero] at go
      exact hP _ (go (fun q => Bool.false_ne_true q.1))
    · subst hQ
      exact (if_pos ⟨by cases h : v.testBit t with | true => rfl | false => exact absurd h c, c2⟩).symm
    · have pt : v.testBit t = true := by cases h : v.testBit t with | true => rfl | false => exact absurd h c
      rw [if_pos pt] at go
      exact hP _ (go (fun q => c2 q.2))
theorem x_nthOf {v : Nat} {x : Int32} (cx : ¬ x = m1) : fX11_nthOf (nI v) x = some (a_sd v.testBit x 8 0) := p_of (x_nthLoop cx 8 0 (by omega))
