/-! what a tree costs: the class -/
theorem a_tr_pa {ne : Nat × Nat × Nat × Nat → Nat × Nat × Nat × Nat} {f : Nat → Nat} {n0 : Nat} : ∀ d p way nd cnt t w, 1 ≤ p → (∀ q k, q / 2 ^ k = p → nd q = 0) → a_tr ne f n0 d p way nd cnt t = .inr w → ∀ q k, q / 2 ^ k = p → w.1 q ≠ 0 → q = p ∨ 3 ≤ w.1 (q / 2) := by
  intro d
  have leaf : ∀ (p : Nat) (nd : Nat → Nat) (w : a_TS) (c : Nat) (cnt : Nat) (t : Nat × Nat × Nat × Nat), (∀ q k, q / 2 ^ k = p → nd q = 0) → w = (a_ud nd p c, cnt, t) → ∀ q k, q / 2 ^ k = p → w.1 q ≠ 0 → q = p ∨ 3 ≤ w.1 (q / 2) := fun p nd w c cnt t hz e q k hq hn => by
    subst e
    dsimp only at hn
    by_cases e : q = p
    · exact Or.inl e
    · rw [a_ud_n e] at hn
      exact absurd (hz q k hq) hn
  induction d with
  | zero =>
    intro p way nd cnt t w hp hz h
    rw [a_tr] at h
    split at h
    · exact leaf p nd w 1 _ _ hz (Sum.inr.inj h).symm
    · split at h
      · exact leaf p nd w 2 _ _ hz (Sum.inr.inj h).symm
      · split at h
        · split at h
          · exact absurd h Sum.inl_ne_inr
          · exact absurd h Sum.inl_ne_inr
        · exact absurd h Sum.inl_ne_inr
  | succ d ih =>
    intro p way nd cnt t w hp hz h
    rw [a_tr] at h
    split at h
    · exact leaf p nd w 1 _ _ hz (Sum.inr.inj h).symm
    · split at h
      · exact leaf p nd w 2 _ _ hz (Sum.inr.inj h).symm
      · split at h
        · split at h
          · obtain ⟨-, -, h⟩ := a_bd_i h
            obtain ⟨v, e1, h⟩ := a_bd_i h
            obtain ⟨-, -, h⟩ := a_bd_i h
            obtain ⟨u, e2, h⟩ := a_bd_i h
            obtain ⟨-, -, h⟩ := a_bd_i h
            have e := Sum.inr.inj h
            subst e
            dsimp only
            have up : ∀ b, b < 2 → ∀ q k, q / 2 ^ k = 2 * p + b → q / 2 ^ (k + 1) = p := fun b hb q k e => by rw [Nat.pow_succ, ← Nat.div_div_eq_div_mul, e]; omega
            have qp : ∀ b, b < 2 → ∀ q k, q / 2 ^ k = 2 * p + b → q ≠ p := fun b hb q k e e2 => by
              have := Nat.div_le_self q (2 ^ k)
              omega
            have zL : ∀ q k, q / 2 ^ k = 2 * p → a_ud nd p (3 + a_fx f n0 t.2.1) q = 0 := fun q k e => by
              rw [a_ud_n (qp 0 (by omega) q k e)]
              exact hz q (k + 1) (up 0 (by omega) q k e)
            have lr : ∀ q k, q / 2 ^ k = 2 * p + 1 → ∀ j, q / 2 ^ j ≠ 2 * p := fun q k e j e2 => by
              rcases Nat.lt_or_ge k j with c | c
              · obtain ⟨i, rfl⟩ : ∃ i, j = k + (i + 1) := ⟨j - k - 1, by omega⟩
                rw [Nat.pow_add, ← Nat.div_div_eq_div_mul, e, Nat.pow_succ', ← Nat.div_div_eq_div_mul, show (2 * p + 1) / 2 = p by omega] at e2
                have := Nat.div_le_self p (2 ^ i)
                omega
              · rcases Nat.eq_or_lt_of_le c with c | c
                · subst c; omega
                · obtain ⟨i, rfl⟩ : ∃ i, k = j + (i + 1) := ⟨k - j - 1, by omega⟩
                  rw [Nat.pow_add, ← Nat.div_div_eq_div_mul, e2, Nat.pow_succ', ← Nat.div_div_eq_div_mul, show 2 * p / 2 = p by omega] at e
                  have := Nat.div_le_self p (2 ^ i)
                  omega
            have zR : ∀ q k, q / 2 ^ k = 2 * p + 1 → v.1 q = 0 := fun q k e => by
              rw [a_tr_out _ _ _ _ _ _ _ e1 q (lr q k e), a_ud_n (qp 1 (by omega) q k e)]
              exact hz q (k + 1) (up 1 (by omega) q k e)
            have outR := a_tr_out _ _ _ _ _ _ _ e2
            have outL := a_tr_out _ _ _ _ _ _ _ e1
            have rl : ∀ q k, q / 2 ^ k = 2 * p → ∀ j, q / 2 ^ j ≠ 2 * p + 1 := fun q k e j e2 => lr q j e2 k e
            have up1 : u.1 p = 3 + a_fx f n0 t.2.1 := by
              rw [outR p (a_low (by omega)), outL p (a_low (by omega)), a_ud_e]
            intro q k hq hn
            by_cases e : q = p
            · exact Or.inl e
            · refine Or.inr ?_
              cases k with
              | zero => rw [Nat.pow_zero, Nat.div_one] at hq; exact absurd hq e
              | succ k =>
                have hq2 : q / 2 ^ k = 2 * p ∨ q / 2 ^ k = 2 * p + 1 := by
                  rw [Nat.pow_succ, ← Nat.div_div_eq_div_mul] at hq
                  omega
                rcases hq2 with c | c
                · rw [outR q (rl q k c)] at hn
                  rcases ih _ _ _ _ _ _ (by omega) zL e1 q k c hn with g | g
                  · rw [show q / 2 = p by omega, up1]; omega
                  · cases k with
                    | zero => rw [Nat.pow_zero, Nat.div_one] at c; rw [show q / 2 = p by omega, up1]; omega
                    | succ k =>
                      rw [outR (q / 2) (rl (q / 2) k (by rw [Nat.div_div_eq_div_mul, ← Nat.pow_succ']; exact c))]
                      exact g
                · rcases ih _ _ _ _ _ _ (by omega) zR e2 q k c hn with g | g
                  · rw [show q / 2 = p by omega, up1]; omega
                  · exact g
          · exact absurd h Sum.inl_ne_inr
        · exact absurd h Sum.inl_ne_inr
def TPA (nd : Nat → Nat) : Prop := ∀ q, nd q ≠ 0 → q = 1 ∨ 3 ≤ nd (q / 2)
theorem a_tree_pa {by8 : Nat → Nat} {L n0 cnt : Nat} {f nd : Nat → Nat} (h : a_tree by8 L f n0 = .inr (nd, cnt)) : TPA nd := by
  have K := a_tree_ok h
  unfold a_tree at h
  obtain ⟨w, e1, h⟩ := a_bd_i h
  split at h
  · have e := Sum.inr.inj h
    have e2 : w.1 = nd := congrArg Prod.fst e
    have g := a_tr_pa 4 1 0 _ _ _ w (by omega) (fun q k _ => rfl) e1
    rw [e2] at g
    intro q hq
    by_cases c : q = 0
    · rw [c, K.1] at hq; exact absurd rfl hq
    · obtain ⟨k, hk⟩ := a_pw2 q (by omega)
      exact g q k hk hq
  · exact absurd h Sum.inl_ne_inr
def a_fc (bk nd : Nat → Nat) (q p : Nat) : Nat := if p % 2 = 0 then a_pl bk q (nd (p / 2) - 3) else 9 - a_pl bk q (nd (p / 2) - 3)
def a_un (bk nd : Nat → Nat) (q : Nat) : Nat → Nat → Nat → Nat
  | 0, _, v => v
  | k + 1, p, v => if p ≤ 1 then v else a_un bk nd q k (p / 2) (v * a_fc bk nd q p)
def a_dp : Nat → Nat → Nat
  | 0, _ => 0
  | k + 1, p => if p ≤ 1 then 0 else a_dp k (p / 2) + 1
theorem a_dp_le : ∀ k p, p < 2 ^ k → a_dp k p + 1 ≤ k ∨ p = 0
  | 0, p, h => Or.inr (by rw [Nat.pow_zero] at h; omega)
  | k + 1, p, h => by
    rw [a_dp]
    rw [Nat.pow_succ] at h
    by_cases c : p ≤ 1
    · rw [if_pos c]; omega
    · rw [if_neg c]
      have := a_dp_le k (p / 2) (by omega)
      omega
theorem a_un_le {bk nd : Nat → Nat} (b : BOK bk) {q : Nat} (hn : ∀ p, 3 ≤ nd p → nd p < 3 + bk 0) (T : TPA nd) : ∀ k p v, nd p ≠ 0 → a_un bk nd q k p v ≤ v * 9 ^ a_dp k p
  | 0, p, v, _ => by
    show v ≤ v * 9 ^ 0
    omega
  | k + 1, p, v, h => by
    rw [a_un, a_dp]
    by_cases c : p ≤ 1
    · rw [if_pos c, if_pos c]; omega
    · rw [if_neg c, if_neg c]
      have t3 := (T p h).resolve_left (by omega)
      have h8 := b.1
      have lt := hn _ t3
      have ih := a_un_le b (q := q) hn T k (p / 2) (v * a_fc bk nd q p) (by omega)
      have pl := b.pl (q := q) (t := nd (p / 2) - 3) (by omega)
      have fc : a_fc bk nd q p ≤ 9 := by
        unfold a_fc
        split <;> omega
      refine Nat.le_trans ih ?_
      rw [Nat.pow_succ]
      have := Nat.mul_le_mul_right (9 ^ a_dp k (p / 2)) (Nat.mul_le_mul_left v fc)
      rw [Nat.mul_assoc v 9, Nat.mul_comm 9] at this
      exact this
def a_lt (bk nd : Nat → Nat) (q p : Nat) : Nat := a_un bk nd q 5 p (a_w bk q)
def a_gc (bk nd : Nat → Nat) (p : Nat) : Nat := if nd p = 1 then bk 6 * sumN (fun q => a_lt bk nd (q + 1) p) 6 * 9 ^ (4 - a_dp 5 p) else if nd p = 2 then bk 5 * a_lt bk nd 0 p * 9 ^ (4 - a_dp 5 p) else 0
def a_ts (bk nd : Nat → Nat) : Nat := sumN (fun p => a_gc bk nd (p + 1)) 31
def a_worth (bk nd : Nat → Nat) (y : Int32) : Option Int64 := if z_ix y 2 = true then some (a_side (a_ts bk nd) (a_W bk * 9 ^ 4) y) else none
theorem a_lt_le {bk nd : Nat → Nat} (b : BOK bk) (K : TOK (bk 0) nd) (T : TPA nd) {q p : Nat} (hq : q < 7) (h : nd p ≠ 0) : a_lt bk nd q p * 9 ^ (4 - a_dp 5 p) ≤ 131220 := by
  have l := a_un_le b (q := q) (fun p hp => (K.2.2.2 p hp).1) T 5 p (a_w bk q) h
  have p32 := K.2.2.1 p h
  have d4 : a_dp 5 p ≤ 4 := by
    rcases a_dp_le 5 p (by omega) with c | c
    · omega
    · subst c; decide
  have w := b.w hq
  unfold a_lt
  refine Nat.le_trans (Nat.mul_le_mul_right _ l) ?_
  rw [Nat.mul_assoc, ← Nat.pow_add, show a_dp 5 p + (4 - a_dp 5 p) = 4 by omega]
  omega
theorem a_gc_le {bk nd : Nat → Nat} (b : BOK bk) (K : TOK (bk 0) nd) (T : TPA nd) {p : Nat} : a_gc bk nd p ≤ 99 * 787320 := by
  have h5 := b.2.2.2.2.2.1
  have h6 := b.2.2.2.2.2.2.1
  unfold a_gc
  by_cases c : nd p = 1
  · rw [if_pos c, Nat.mul_assoc, ← sumN_mul]
    have l : sumN (fun q => a_lt bk nd (q + 1) p * 9 ^ (4 - a_dp 5 p)) 6 ≤ 6 * 131220 := sumN_le (fun q hq => a_lt_le b K T (by omega) (by omega))
    exact Nat.mul_le_mul h6 l
  · rw [if_neg c]
    by_cases c2 : nd p = 2
    · rw [if_pos c2, Nat.mul_assoc]
      have l := a_lt_le b K T (q := 0) (p := p) (by omega) (by omega)
      exact Nat.mul_le_mul h5 (by omega)
    · rw [if_neg c2]; omega
