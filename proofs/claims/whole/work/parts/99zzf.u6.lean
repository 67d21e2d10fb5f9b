/-! what a tree leads to, both sides -/
theorem a_tr_wf {ne : Nat × Nat × Nat × Nat → Nat × Nat × Nat × Nat} {f : Nat → Nat} {n0 : Nat} : ∀ d p way nd cnt t w, d ≤ 4 → 1 ≤ p → p < 2 ^ (5 - d) → (∀ q k, q / 2 ^ k = p → nd q = 0) → a_tr ne f n0 d p way nd cnt t = .inr w → w.1 p ≠ 0 ∧ ∀ q k, q / 2 ^ k = p → w.1 q ≠ 0 → q < 32 ∧ (3 ≤ w.1 q → w.1 q < 3 + n0 ∧ q < 16 ∧ w.1 (2 * q) ≠ 0 ∧ w.1 (2 * q + 1) ≠ 0) := by
  intro d
  have leaf : ∀ (d p way : Nat) (nd : Nat → Nat) (cnt : Nat) (t : Nat × Nat × Nat × Nat) (w : a_TS) (c : Nat), d ≤ 4 → 1 ≤ p → p < 2 ^ (5 - d) → (∀ q k, q / 2 ^ k = p → nd q = 0) → (c = 1 ∨ c = 2) → w = (a_ud nd p c, cnt, ne t) → w.1 p ≠ 0 ∧ ∀ q k, q / 2 ^ k = p → w.1 q ≠ 0 → q < 32 ∧ (3 ≤ w.1 q → w.1 q < 3 + n0 ∧ q < 16 ∧ w.1 (2 * q) ≠ 0 ∧ w.1 (2 * q + 1) ≠ 0) := fun d p way nd cnt t w c hd hp hp2 hz hc e => by
    subst e
    dsimp only
    refine ⟨by rw [a_ud_e]; omega, fun q k hq hn => ?_⟩
    by_cases e : q = p
    · subst e
      rw [a_ud_e]
      exact ⟨Nat.lt_of_lt_of_le hp2 (Nat.le_trans (Nat.pow_le_pow_right (by decide) (show 5 - d ≤ 5 by omega)) (by decide)), fun q => by omega⟩
    · rw [a_ud_n e] at hn
      exact absurd (hz q k hq) hn
  induction d with
  | zero =>
    intro p way nd cnt t w hd hp hp2 hz h
    rw [a_tr] at h
    split at h
    · exact leaf 0 p way nd cnt t w 1 hd hp hp2 hz (Or.inl rfl) (Sum.inr.inj h).symm
    · split at h
      · exact leaf 0 p way nd cnt t w 2 hd hp hp2 hz (Or.inr rfl) (Sum.inr.inj h).symm
      · split at h
        · split at h
          · exact absurd h Sum.inl_ne_inr
          · exact absurd h Sum.inl_ne_inr
        · exact absurd h Sum.inl_ne_inr
  | succ d ih =>
    intro p way nd cnt t w hd hp hp2 hz h
    have ep : 2 ^ (5 - d) = 2 * 2 ^ (5 - (d + 1)) := by
      rw [show 5 - d = (5 - (d + 1)) + 1 by omega, Nat.pow_succ]
      omega
    rw [a_tr] at h
    split at h
    · exact leaf (d + 1) p way nd cnt t w 1 hd hp hp2 hz (Or.inl rfl) (Sum.inr.inj h).symm
    · split at h
      · exact leaf (d + 1) p way nd cnt t w 2 hd hp hp2 hz (Or.inr rfl) (Sum.inr.inj h).symm
      · split at h
        · split at h
          · rename_i cF
            obtain ⟨-, -, h⟩ := a_bd_i h
            obtain ⟨v, e1, h⟩ := a_bd_i h
            obtain ⟨-, -, h⟩ := a_bd_i h
            obtain ⟨u, e2, h⟩ := a_bd_i h
            obtain ⟨-, -, h⟩ := a_bd_i h
            have e := Sum.inr.inj h
            subst e
            dsimp only
            have up : ∀ b, b < 2 → ∀ q k, q / 2 ^ k = 2 * p + b → q / 2 ^ (k + 1) = p := fun b hb q k e => by rw [Nat.pow_succ, ← Nat.div_div_eq_div_mul, e]; omega
            have qp : ∀ b, b < 2 → ∀ q k, q / 2 ^ k = 2 * p + b → q ≠ p := fun b hb q k e e2 => by
              have := Nat.div_le_self q (2 ^ k)
              omega
            have zL : ∀ q k, q / 2 ^ k = 2 * p → a_ud nd p (3 + a_fx f n0 t.2.1) q = 0 := fun q k e => by
              rw [a_ud_n (qp 0 (by omega) q k e)]
              exact hz q (k + 1) (up 0 (by omega) q k e)
            obtain ⟨l1, l2⟩ := ih (2 * p) _ _ _ _ v (by omega) (by omega) (by omega) zL e1
            have lr : ∀ q k, q / 2 ^ k = 2 * p + 1 → ∀ j, q / 2 ^ j ≠ 2 * p := fun q k e j e2 => by
              rcases Nat.lt_or_ge k j with c | c
              · obtain ⟨i, rfl⟩ : ∃ i, j = k + (i + 1) := ⟨j - k - 1, by omega⟩
                rw [Nat.pow_add, ← Nat.div_div_eq_div_mul, e, Nat.pow_succ', ← Nat.div_div_eq_div_mul, show (2 * p + 1) / 2 = p by omega] at e2
                have := Nat.div_le_self p (2 ^ i)
                omega
              · rcases Nat.eq_or_lt_of_le c with c | c
                · subst c; omega
                · obtain ⟨i, rfl⟩ : ∃ i, k = j + (i + 1) := ⟨k - j - 1, by omega⟩
                  rw [Nat.pow_add, ← Nat.div_div_eq_div_mul, e2, Nat.pow_succ', ← Nat.div_div_eq_div_mul, show 2 * p / 2 = p by omega] at e
                  have := Nat.div_le_self p (2 ^ i)
                  omega
            have zR : ∀ q k, q / 2 ^ k = 2 * p + 1 → v.1 q = 0 := fun q k e => by
              rw [a_tr_out _ _ _ _ _ _ _ e1 q (lr q k e), a_ud_n (qp 1 (by omega) q k e)]
              exact hz q (k + 1) (up 1 (by omega) q k e)
            obtain ⟨r1, r2⟩ := ih (2 * p + 1) _ _ _ _ u (by omega) (by omega) (by omega) zR e2
            have outR := a_tr_out _ _ _ _ _ _ _ e2
            have outL := a_tr_out _ _ _ _ _ _ _ e1
            have rl : ∀ q k, q / 2 ^ k = 2 * p → ∀ j, q / 2 ^ j ≠ 2 * p + 1 := fun q k e j e2 => lr q j e2 k e
            have up1 : u.1 p = 3 + a_fx f n0 t.2.1 := by
              rw [outR p (a_low (by omega)), outL p (a_low (by omega)), a_ud_e]
            have p16 : p < 16 := by
              have : 2 ^ (5 - (d + 1)) ≤ 2 ^ 4 := Nat.pow_le_pow_right (by decide) (by omega)
              omega
            have ul : u.1 (2 * p) = v.1 (2 * p) := outR _ (rl _ 0 (by rw [Nat.pow_zero, Nat.div_one]))
            refine ⟨by rw [up1]; omega, fun q k hq hn => ?_⟩
            by_cases e : q = p
            · subst e
              rw [up1, ul]
              exact ⟨by omega, fun _ => ⟨by omega, p16, l1, r1⟩⟩
            · cases k with
              | zero => rw [Nat.pow_zero, Nat.div_one] at hq; exact absurd hq e
              | succ k =>
                have hq2 : q / 2 ^ k = 2 * p ∨ q / 2 ^ k = 2 * p + 1 := by
                  rw [Nat.pow_succ, ← Nat.div_div_eq_div_mul] at hq
                  omega
                rcases hq2 with c | c
                · have eq := outR q (rl q k c)
                  rw [eq] at hn ⊢
                  obtain ⟨g1, g2⟩ := l2 q k c hn
                  have k2 : ∀ b, b < 2 → (2 * q + b) / 2 ^ (k + 1) = 2 * p := fun b hb => by rw [Nat.pow_succ', ← Nat.div_div_eq_div_mul, show (2 * q + b) / 2 = q by omega]; exact c
                  rw [outR (2 * q) (rl _ _ (k2 0 (by omega))), outR (2 * q + 1) (rl _ _ (k2 1 (by omega)))]
                  exact ⟨g1, g2⟩
                · exact r2 q k c hn
          · exact absurd h Sum.inl_ne_inr
        · exact absurd h Sum.inl_ne_inr
/-- a tree that is whole -/
def TOK (n0 : Nat) (nd : Nat → Nat) : Prop := nd 0 = 0 ∧ nd 1 ≠ 0 ∧ (∀ q, nd q ≠ 0 → q < 32) ∧ ∀ q, 3 ≤ nd q → nd q < 3 + n0 ∧ q < 16 ∧ nd (2 * q) ≠ 0 ∧ nd (2 * q + 1) ≠ 0
theorem a_pw2 (q : Nat) (h : 1 ≤ q) : ∃ k, q / 2 ^ k = 1 := by
  refine ⟨Nat.log2 q, ?_⟩
  have h1 : 2 ^ Nat.log2 q ≤ q := Nat.log2_self_le (by omega)
  have h2 : q < 2 ^ (Nat.log2 q + 1) := Nat.lt_log2_self
  rw [Nat.pow_succ] at h2
  exact Nat.div_eq_of_lt_le (by omega) (by omega)
theorem a_tree_ok {by8 : Nat → Nat} {L n0 cnt : Nat} {f nd : Nat → Nat} (h : a_tree by8 L f n0 = .inr (nd, cnt)) : TOK n0 nd := by
  unfold a_tree at h
  obtain ⟨w, e1, h⟩ := a_bd_i h
  split at h
  · have e := Sum.inr.inj h
    have e2 : w.1 = nd := congrArg Prod.fst e
    obtain ⟨g1, g2⟩ := a_tr_wf 4 1 0 _ _ _ w (by omega) (by omega) (by decide) (fun q k _ => rfl) e1
    have o0 := a_tr_out _ _ _ _ _ _ _ e1 0 (fun k e => by rw [Nat.zero_div] at e; omega)
    rw [e2] at g1 g2 o0
    refine ⟨o0, g1, fun q hq => ?_, fun q hq => ?_⟩
    · by_cases c : q = 0
      · omega
      · obtain ⟨k, hk⟩ := a_pw2 q (by omega)
        exact (g2 q k hk hq).1
    · by_cases c : q = 0
      · rw [c, o0] at hq; omega
      · obtain ⟨k, hk⟩ := a_pw2 q (by omega)
        exact (g2 q k hk (by omega)).2 hq
  · exact absurd h Sum.inl_ne_inr
