/-! both heaps at their start are such as the law wants them -/
theorem mR_57 {k : Nat} (h : 57 ≤ k) : mR k = none := by
  unfold mR
  split <;> first | omega | rfl
theorem x_st : ∃ h, fX11_init 0 (z_al z_h0 10 0) = some h ∧ z_n h = 82 ∧ xC (z_al h 14 1) = true := by
  rw [fX11_init_C]
  have e := xC_ok
  cases hf : fX11_initC 0 (z_al z_h0 10 0) with
  | none => rw [hf] at e; cases e
  | some h =>
    rw [hf] at e
    have e' : (decide (z_n h = 82) && xC (z_al h 14 1)) = true := e
    rw [Bool.and_eq_true, decide_eq_true_eq] at e'
    exact ⟨h, rfl, e'⟩
theorem m_st : ∃ h, fX12_init 0 (z_al z_h0 11 0) = some h ∧ mC h = true := by
  rw [fX12_init_C]
  have e := mC_ok
  cases hf : fX12_initC 0 (z_al z_h0 11 0) with
  | none => rw [hf] at e; cases e
  | some h =>
    rw [hf] at e
    exact ⟨h, rfl, e⟩
theorem x_st_I {h : z_T} (c : xC h = true) : xI h ((a_bk0, fun _ => 0, 0, fun _ => 0, none, none), (0, fun _ => (0, fun _ => 0)), (0, fun _ => 0), [], nI 0, none, fun _ => none) := by
  unfold xC at c
  simp only [Bool.and_eq_true, decide_eq_true_eq, List.all_eq_true, List.mem_range] at c
  obtain ⟨⟨⟨⟨⟨⟨⟨⟨⟨⟨⟨⟨c1, c2⟩, c3⟩, c4⟩, c5⟩, c6⟩, c7⟩, c8⟩, c9⟩, c10⟩, c11⟩, c12⟩, c13⟩ := c
  have S : SX h := ⟨by omega, c2, c3⟩
  have N : xNi h 15 1 a_bk0 (fun _ => 0) 0 := by
    refine ⟨⟨S.ok (by omega) rfl, S.R 20 rfl, S.R 21 rfl, S.R 22 rfl, S.ok (by omega) rfl, (c2 16 (by omega)).2, S.ok (by omega) rfl, (c2 17 (by omega)).2, S.ok (by omega) rfl, (c2 18 (by omega)).2⟩, c4, ⟨?_, ?_⟩, c7 (15, 1) (by decide), fun i hi => absurd hi (Nat.not_lt_zero i), c11, c12⟩
    · exact ⟨S.ok (by omega) rfl, S.ok (by omega) rfl, (c2 2 (by omega)).2, S.R 9 rfl, S.ok (by omega) rfl, (c2 3 (by omega)).2, S.R 10 rfl, S.ok (by omega) rfl, (c2 4 (by omega)).2, S.R 11 rfl, S.ok (by omega) rfl, (c2 5 (by omega)).2, S.R 12 rfl, S.ok (by omega) rfl, (c2 6 (by omega)).2, S.R 13 rfl, S.ok (by omega) rfl, (c2 7 (by omega)).2, S.R 14 rfl, S.ok (by omega) rfl, (c2 8 (by omega)).2, S.R 15 rfl⟩
    · have z1 : ∀ t, t < 8 → a_bk0 (8 + t) = 0 ∧ a_bk0 (16 + t) = 0 := by decide
      have z2 : ∀ d, d < 6 → a_bk0 (24 + d) = 0 ∧ a_bk0 (30 + d) = 0 := by decide
      refine ⟨c7 (1, 1) (by decide), c7 (1, 2) (by decide), c8, fun t ht => ?_, fun t ht => ?_, fun d hd => ?_, fun d hd => ?_⟩
      · rw [(z1 t ht).1]; exact c9 4 (by decide) t ht
      · rw [(z1 t ht).2]; exact c9 5 (by decide) t ht
      · rw [(z2 d hd).1]; exact c10 7 (by decide) d hd
      · rw [(z2 d hd).2]; exact c10 8 (by decide) d hd
  refine ⟨fun _ => 0, 1, S, ⟨N, Or.inl rfl, ⟨fun t ht => absurd ht (Nat.not_lt_zero t), fun t ht => absurd ht (Nat.not_lt_zero t)⟩, c5, c6⟩, ⟨c7 (30, 2) (by decide), 0, by omega, c7 (30, 1) (by decide), fun j hj => absurd hj (Nat.not_lt_zero j)⟩, ⟨c7 (9, 1) (by decide), fun i hi => absurd hi (Nat.not_lt_zero i)⟩, ⟨c7 (11, 1) (by decide), fun i hi => absurd hi (Nat.not_lt_zero i)⟩, c7 (13, 8) (by decide), ⟨c13 5 (by decide), c13 6 (by decide), c13 7 (by decide)⟩, fun i hi => ?_⟩
  have hi2 : i = 0 ∨ i = 1 := by omega
  rcases hi2 with rfl | rfl
  · exact c7 (20, 3) (by decide)
  · exact c7 (25, 3) (by decide)
theorem m_st_I {h : z_T} (c : mC h = true) : mI h ((a_bk0, fun _ => 0, 0, fun _ => 0, none, none), (0, fun _ => (0, fun _ => 0)), (0, fun _ => 0), [], nI 0, none, fun _ => none) := by
  unfold mC at c
  simp only [Bool.and_eq_true, Bool.or_eq_true, decide_eq_true_eq, List.all_eq_true, List.mem_range] at c
  obtain ⟨⟨⟨⟨⟨⟨⟨c1, c2⟩, c3⟩, c4⟩, c5⟩, c6⟩, c7⟩, c8⟩ := c
  have S : SM h := by
    refine ⟨by omega, c2, fun k a e => ?_⟩
    have hk : k < 57 := by
      by_cases q : k < 57
      · exact q
      · rw [mR_57 (by omega)] at e
        cases e
    rcases c3 k hk with q | q
    · rw [e] at q; cases q
    · rw [q, e]
  refine ⟨S, c4, ⟨⟨c5, c6 36 (by decide), fun i hi => absurd hi (Nat.not_lt_zero i)⟩, ⟨fun t ht => absurd ht (Nat.not_lt_zero t), fun t ht => absurd ht (Nat.not_lt_zero t)⟩, c6 49 (by decide), c6 176 (by decide)⟩, ⟨c7 24 (by decide), fun j hj => absurd hj (Nat.not_lt_zero j)⟩, ⟨c7 2 (by decide), fun i hi => absurd hi (Nat.not_lt_zero i)⟩, ⟨c7 31 (by decide), fun i hi => absurd hi (Nat.not_lt_zero i)⟩, c7 15 (by decide), c7 44 (by decide), fun i hi => ?_⟩
  have hi2 : i = 0 ∨ i = 1 := by omega
  rcases hi2 with rfl | rfl
  · exact c8 0 (by decide)
  · exact c8 1 (by decide)
theorem iv_0 {hX hM : z_T} (eX : fX11_init 0 (z_al z_h0 10 0) = some hX) (eM : fX12_init 0 (z_al z_h0 11 0) = some hM) : z_n hX = 82 ∧ Inv (z_al hX 14 1) hM := by
  obtain ⟨h, e1, e2, e3⟩ := x_st
  obtain ⟨g, f1, f2⟩ := m_st
  have q1 : h = hX := Option.some.inj (e1.symm.trans eX)
  have q2 : g = hM := Option.some.inj (f1.symm.trans eM)
  subst q1; subst q2
  refine ⟨e2, _, ?_, x_st_I e3, m_st_I f2⟩
  have B := BKS0
  refine ⟨⟨B.1, B.2.1, ⟨by omega, fun i hi => absurd hi (Nat.not_lt_zero i), by decide⟩, fun nd q => (by cases q), fun cf c q => (by cases q)⟩, ⟨by omega, fun j hj => absurd hj (Nat.not_lt_zero j)⟩, ⟨by omega, fun i hi => absurd hi (Nat.not_lt_zero i)⟩, by decide, fun i hi => trivial⟩
