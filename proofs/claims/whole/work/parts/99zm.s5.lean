/-! lines of a book, told once for both sides -/
theorem a_lex_V {by8 : Nat → Nat} {L lim p : Nat} : (a_lex by8 L lim p).1 = 2 → 0 < (a_lex by8 L lim p).2.1 ∧ (a_lex by8 L lim p).2.1 < 32 ^ 7 := by
  unfold a_lex
  split
  · intro h; exact absurd h (show ¬ (1 = 2) by decide)
  · split
    · intro h; exact absurd h (show ¬ (0 = 2) by decide)
    · rename_i c1 c2
      generalize a_run (fun i => a_B (by8 i)) (L - p) p = q at *
      unfold a_tok
      split
      · rename_i hA
        have rq : q < a_run (fun i => a_A (by8 i)) (L - q) q := by
          obtain ⟨d, hd⟩ : ∃ d, L - q = d + 1 := ⟨L - q - 1, by omega⟩
          have l2 := a_run_le (P := fun i => a_A (by8 i)) d (q + 1)
          rw [hd, a_run, if_pos hA]
          omega
        generalize a_run (fun i => a_A (by8 i)) (L - q) q = e at *
        split
        · rename_i c
          intro _
          exact ⟨a_w5_pos c.1 (by omega), Nat.lt_of_lt_of_le (a_w5_lt c.1) (Nat.pow_le_pow_right (by decide) c.2)⟩
        · split
          · intro h; exact absurd h (show ¬ (3 = 2) by decide)
          · intro h; exact absurd h (show ¬ (1 = 2) by decide)
      · split
        · rename_i hS
          intro h
          have := mTok.S (t := (by8 q, 0, 0, 0)) hS
          dsimp only at this h
          omega
        · intro h; exact absurd h (show ¬ (1 = 2) by decide)
def TKV (t : Nat × Nat × Nat × Nat) : Prop := t.1 = 2 → 0 < t.2.1 ∧ t.2.1 < 32 ^ 7
theorem a_ne_V {by8 : Nat → Nat} {L lim : Nat} {t : Nat × Nat × Nat × Nat} : TKV (a_ne by8 L lim t) := a_lex_V
def a_fx (f : Nat → Nat) (n V : Nat) : Nat := fa_first (fun k => decide (f k = V)) n
theorem a_fi_fx {f : Nat → Nat} {n V : Nat} : a_fi f n V = if a_fx f n V < n then nI (a_fx f n V) else m1 := rfl
theorem a_fi_m {f : Nat → Nat} {n V : Nat} (hn : n < 2 ^ 20) : a_fi f n V = m1 ↔ ¬ a_fx f n V < n := by
  rw [a_fi_fx]
  by_cases c : a_fx f n V < n
  · rw [if_pos c]
    exact ⟨fun q => absurd q (r_neg1 (by omega)), fun q => absurd c q⟩
  · rw [if_neg c]
    exact ⟨fun _ => c, fun _ => rfl⟩
def a_bd {A B : Type} (r : (Nat × Nat) ⊕ A) (f : A → (Nat × Nat) ⊕ B) : (Nat × Nat) ⊕ B := match r with
  | .inl e => .inl e
  | .inr v => f v
theorem a_bdl {A B : Type} {e : Nat × Nat} {f : A → (Nat × Nat) ⊕ B} : a_bd (.inl e) f = .inl e := rfl
theorem a_bdr {A B : Type} {v : A} {f : A → (Nat × Nat) ⊕ B} : a_bd (.inr v) f = f v := rfl
theorem a_bd_i {A B : Type} {r : (Nat × Nat) ⊕ A} {f : A → (Nat × Nat) ⊕ B} {w : B} (h : a_bd r f = .inr w) : ∃ v, r = .inr v ∧ f v = .inr w := by
  cases r with
  | inl e => exact absurd h (by rw [a_bdl]; exact Sum.inl_ne_inr)
  | inr v => exact ⟨v, rfl, h⟩
def a_ud (f : Nat → Nat) (k v : Nat) : Nat → Nat := fun i => if i = k then v else f i
def a_nb (lo hi : Nat) (t : Nat × Nat × Nat × Nat) : (Nat × Nat) ⊕ Nat := if t.1 = 3 then (if lo ≤ t.2.1 ∧ t.2.1 ≤ hi then .inr t.2.1 else .inl (2, t.2.2.1)) else .inl (1, t.2.2.1)
def a_nw (bk nm : Nat → Nat) (t : Nat × Nat × Nat × Nat) : (Nat × Nat) ⊕ Nat := if a_kk t = 1 then (if a_fx nm (bk 0) t.2.1 < bk 0 ∨ a_fx (fun d => nm (8 + d)) (bk 1) t.2.1 < bk 1 then .inl (3, t.2.2.1) else .inr t.2.1) else .inl (1, t.2.2.1)
def a_kept (ne : Nat × Nat × Nat × Nat → Nat × Nat × Nat × Nat) (f : Nat → Nat) (n : Nat) : Nat → Nat → Nat × Nat × Nat × Nat → (Nat × Nat) ⊕ (Nat × (Nat × Nat × Nat × Nat))
  | 0, set, t => .inr (set, t)
  | m + 1, set, t => if t.1 = 2 then (if a_kk t = 1 then (if a_fx f n t.2.1 < n ∧ set.testBit (a_fx f n t.2.1) = false then a_kept ne f n m (set ||| 2 ^ a_fx f n t.2.1) (ne t) else .inl (3, t.2.2.1)) else .inl (1, t.2.2.1)) else .inr (set, t)
def a_lo (k : Nat) : Nat := if k = 0 then 1 else if k = 2 then 5 else 0
def a_hi (k : Nat) : Nat := if k = 0 then 20 else if k = 1 then 12 else if k = 2 then 9 else 99
abbrev a_BS : Type := ((Nat → Nat) × (Nat → Nat) × Nat) × (Nat × Nat × Nat × Nat)
def a_lnT (ne : Nat × Nat × Nat × Nat → Nat × Nat × Nat × Nat) (bk nm : Nat → Nat) (told : Nat) (t : Nat × Nat × Nat × Nat) : (Nat × Nat) ⊕ a_BS :=
  if bk 0 = 8 then .inl (4, t.2.2.1) else
  a_bd (a_nw bk nm (ne t)) fun N => a_bd (a_nb 0 9 (ne (ne t))) fun r => a_bd (a_nb 0 9 (ne (ne (ne t)))) fun d =>
    .inr ((a_ud (a_ud (a_ud bk (8 + bk 0) r) (16 + bk 0) d) 0 (bk 0 + 1), a_ud nm (bk 0) N, told), ne (ne (ne (ne t))))
def a_lnD (ne : Nat × Nat × Nat × Nat → Nat × Nat × Nat × Nat) (bk nm : Nat → Nat) (told : Nat) (t : Nat × Nat × Nat × Nat) : (Nat × Nat) ⊕ a_BS :=
  if bk 1 = 6 then .inl (4, t.2.2.1) else
  a_bd (a_nw bk nm (ne t)) fun N => a_bd (a_nb 1 20 (ne (ne t))) fun w => a_bd (a_kept ne nm (bk 0) 9 0 (ne (ne (ne t)))) fun kt =>
    .inr ((a_ud (a_ud (a_ud bk (24 + bk 1) w) (30 + bk 1) kt.1) 1 (bk 1 + 1), a_ud nm (8 + bk 1) N, told), kt.2)
def a_lnS (ne : Nat × Nat × Nat × Nat → Nat × Nat × Nat × Nat) (bk nm : Nat → Nat) (told k : Nat) (t : Nat × Nat × Nat × Nat) : (Nat × Nat) ⊕ a_BS :=
  if told.testBit k = true then .inl (3, t.2.2.1) else
  if k = 5 then .inr ((a_ud bk 7 1, nm, told ||| 2 ^ k), ne t) else
  a_bd (a_nb (a_lo k) (a_hi k) (ne t)) fun v => .inr ((a_ud bk (2 + k) v, nm, told ||| 2 ^ k), ne (ne t))
def a_line (ne : Nat × Nat × Nat × Nat → Nat × Nat × Nat × Nat) (bk nm : Nat → Nat) (told : Nat) (t : Nat × Nat × Nat × Nat) : (Nat × Nat) ⊕ a_BS :=
  if a_kk t = 2 then a_lnT ne bk nm told t else if a_kk t = 3 then a_lnD ne bk nm told t else if 4 ≤ a_kk t ∧ a_kk t ≤ 9 then a_lnS ne bk nm told (a_kk t - 4) t else .inl (1, t.2.2.1)
theorem a_nb_i {lo hi v : Nat} {t : Nat × Nat × Nat × Nat} (h : a_nb lo hi t = .inr v) : t.1 = 3 ∧ v = t.2.1 ∧ lo ≤ v ∧ v ≤ hi := by
  unfold a_nb at h
  split at h
  · rename_i c
    split at h
    · rename_i c2
      have e := Sum.inr.inj h
      subst e
      exact ⟨c, rfl, c2⟩
    · exact absurd h Sum.inl_ne_inr
  · exact absurd h Sum.inl_ne_inr
theorem a_kk1 {t : Nat × Nat × Nat × Nat} (h : 0 < a_kk t) : t.1 = 2 := by
  refine Classical.byContradiction (fun z => ?_)
  unfold a_kk at h
  rw [if_neg z] at h
  omega
theorem a_nw_i {bk nm : Nat → Nat} {v : Nat} {t : Nat × Nat × Nat × Nat} (hV : TKV t) (h : a_nw bk nm t = .inr v) : v = t.2.1 ∧ 0 < v ∧ v < 32 ^ 7 := by
  unfold a_nw at h
  split at h
  · rename_i c
    split at h
    · exact absurd h Sum.inl_ne_inr
    · have e := Sum.inr.inj h
      subst e
      exact ⟨rfl, hV (a_kk1 (by omega))⟩
  · exact absurd h Sum.inl_ne_inr
theorem a_set_lt {set k n : Nat} (hs : set < 2 ^ n) (hk : k < n) : set ||| 2 ^ k < 2 ^ n := Nat.or_lt_two_pow hs (Nat.pow_lt_pow_right (by decide) hk)
theorem a_kept_i {ne : Nat × Nat × Nat × Nat → Nat × Nat × Nat × Nat} {f : Nat → Nat} {n : Nat} : ∀ m set t w, set < 2 ^ n → a_kept ne f n m set t = .inr w → w.1 < 2 ^ n
  | 0, set, t, w, hs, h => by
    have e := Sum.inr.inj h
    subst e
    exact hs
  | m + 1, set, t, w, hs, h => by
    rw [a_kept] at h
    split at h
    · split at h
      · split at h
        · rename_i c
          exact a_kept_i m _ _ w (a_set_lt hs c.1) h
        · exact absurd h Sum.inl_ne_inr
      · exact absurd h Sum.inl_ne_inr
    · have e := Sum.inr.inj h
      subst e
      exact hs
theorem a_ud_e {f : Nat → Nat} {k v : Nat} : a_ud f k v k = v := if_pos rfl
theorem a_ud_n {f : Nat → Nat} {k v i : Nat} (h : i ≠ k) : a_ud f k v i = f i := if_neg h
theorem BOK.test {bk : Nat → Nat} (b : BOK bk) {r d : Nat} (h8 : ¬ bk 0 = 8) (hr : r ≤ 9) (hd : d ≤ 9) : BOK (a_ud (a_ud (a_ud bk (8 + bk 0) r) (16 + bk 0) d) 0 (bk 0 + 1)) := by
  obtain ⟨b0, b1, b2, b3, b4, b5, b6, b7, b8, b9, b10, b11, b12⟩ := b
  have g : ∀ i, i ≠ 0 → i ≠ 8 + bk 0 → i ≠ 16 + bk 0 → a_ud (a_ud (a_ud bk (8 + bk 0) r) (16 + bk 0) d) 0 (bk 0 + 1) i = bk i := fun i h1 h2 h3 => by rw [a_ud_n h1, a_ud_n h3, a_ud_n h2]
  have g0 : a_ud (a_ud (a_ud bk (8 + bk 0) r) (16 + bk 0) d) 0 (bk 0 + 1) 0 = bk 0 + 1 := a_ud_e
  have gr : a_ud (a_ud (a_ud bk (8 + bk 0) r) (16 + bk 0) d) 0 (bk 0 + 1) (8 + bk 0) = r := by rw [a_ud_n (by omega), a_ud_n (by omega), a_ud_e]
  have gd : a_ud (a_ud (a_ud bk (8 + bk 0) r) (16 + bk 0) d) 0 (bk 0 + 1) (16 + bk 0) = d := by rw [a_ud_n (by omega), a_ud_e]
  generalize a_ud (a_ud (a_ud bk (8 + bk 0) r) (16 + bk 0) d) 0 (bk 0 + 1) = bk' at *
  have p2 : 2 ^ (bk 0 + 1) = 2 ^ bk 0 * 2 := rfl
  refine ⟨by omega, by rw [g 1 (by omega) (by omega) (by omega)]; exact b1, by rw [g 2 (by omega) (by omega) (by omega)]; exact b2, by rw [g 3 (by omega) (by omega) (by omega)]; exact b3, by rw [g 4 (by omega) (by omega) (by omega)]; exact b4, by rw [g 5 (by omega) (by omega) (by omega)]; exact b5, by rw [g 6 (by omega) (by omega) (by omega)]; exact b6, by rw [g 7 (by omega) (by omega) (by omega)]; exact b7, fun t ht => ?_, fun e he => ?_, fun e he => ?_, fun e h1 h2 => ?_, fun t h1 h2 => ?_⟩
  · by_cases e : t = bk 0
    · subst e; rw [gr, gd]; exact ⟨hr, hd⟩
    · rw [g (8 + t) (by omega) (by omega) (by omega), g (16 + t) (by omega) (by omega) (by omega)]; exact b8 t ht
  · rw [g (24 + e) (by omega) (by omega) (by omega), g (30 + e) (by omega) (by omega) (by omega), g0, p2]
    have := b9 e he
    omega
  · rw [g 1 (by omega) (by omega) (by omega)] at he
    rw [g (24 + e) (by omega) (by omega) (by omega)]
    exact b10 e he
  · rw [g 1 (by omega) (by omega) (by omega)] at h1
    rw [g (24 + e) (by omega) (by omega) (by omega), g (30 + e) (by omega) (by omega) (by omega)]
    exact b11 e h1 h2
  · rw [g0] at h1
    rw [g (8 + t) (by omega) (by omega) (by omega), g (16 + t) (by omega) (by omega) (by omega)]
    exact b12 t (by omega) h2
theorem BOK.dream {bk : Nat → Nat} (b : BOK bk) {w s : Nat} (h6 : ¬ bk 1 = 6) (hw : 1 ≤ w ∧ w ≤ 20) (hs : s < 2 ^ bk 0) : BOK (a_ud (a_ud (a_ud bk (24 + bk 1) w) (30 + bk 1) s) 1 (bk 1 + 1)) := by
  obtain ⟨b0, b1, b2, b3, b4, b5, b6, b7, b8, b9, b10, b11, b12⟩ := b
  have g : ∀ i, i ≠ 1 → i ≠ 24 + bk 1 → i ≠ 30 + bk 1 → a_ud (a_ud (a_ud bk (24 + bk 1) w) (30 + bk 1) s) 1 (bk 1 + 1) i = bk i := fun i h1 h2 h3 => by rw [a_ud_n h1, a_ud_n h3, a_ud_n h2]
  have g0 : a_ud (a_ud (a_ud bk (24 + bk 1) w) (30 + bk 1) s) 1 (bk 1 + 1) 1 = bk 1 + 1 := a_ud_e
  have gr : a_ud (a_ud (a_ud bk (24 + bk 1) w) (30 + bk 1) s) 1 (bk 1 + 1) (24 + bk 1) = w := by rw [a_ud_n (by omega), a_ud_n (by omega), a_ud_e]
  have gd : a_ud (a_ud (a_ud bk (24 + bk 1) w) (30 + bk 1) s) 1 (bk 1 + 1) (30 + bk 1) = s := by rw [a_ud_n (by omega), a_ud_e]
  generalize a_ud (a_ud (a_ud bk (24 + bk 1) w) (30 + bk 1) s) 1 (bk 1 + 1) = bk' at *
  refine ⟨by rw [g 0 (by omega) (by omega) (by omega)]; exact b0, by omega, by rw [g 2 (by omega) (by omega) (by omega)]; exact b2, by rw [g 3 (by omega) (by omega) (by omega)]; exact b3, by rw [g 4 (by omega) (by omega) (by omega)]; exact b4, by rw [g 5 (by omega) (by omega) (by omega)]; exact b5, by rw [g 6 (by omega) (by omega) (by omega)]; exact b6, by rw [g 7 (by omega) (by omega) (by omega)]; exact b7, fun t ht => ?_, fun e he => ?_, fun e he => ?_, fun e h1 h2 => ?_, fun t h1 h2 => ?_⟩
  · rw [g (8 + t) (by omega) (by omega) (by omega), g (16 + t) (by omega) (by omega) (by omega)]; exact b8 t ht
  · rw [g 0 (by omega) (by omega) (by omega)]
    by_cases c : e = bk 1
    · subst c; rw [gr, gd]; exact ⟨hw.2, hs⟩
    · rw [g (24 + e) (by omega) (by omega) (by omega), g (30 + e) (by omega) (by omega) (by omega)]
      exact b9 e he
  · rw [g0] at he
    by_cases c : e = bk 1
    · subst c; rw [gr]; exact hw.1
    · rw [g (24 + e) (by omega) (by omega) (by omega)]
      exact b10 e (by omega)
  · rw [g0] at h1
    rw [g (24 + e) (by omega) (by omega) (by omega), g (30 + e) (by omega) (by omega) (by omega)]
    exact b11 e (by omega) h2
  · rw [g 0 (by omega) (by omega) (by omega)] at h1
    rw [g (8 + t) (by omega) (by omega) (by omega), g (16 + t) (by omega) (by omega) (by omega)]
    exact b12 t h1 h2
theorem BOK.set {bk : Nat → Nat} (b : BOK bk) {k v : Nat} (hk : k < 6) (hv : if k = 5 then v = 1 else a_lo k ≤ v ∧ v ≤ a_hi k) : BOK (a_ud bk (2 + k) v) := by
  obtain ⟨b0, b1, b2, b3, b4, b5, b6, b7, b8, b9, b10, b11, b12⟩ := b
  have g : ∀ i, i ≠ 2 + k → a_ud bk (2 + k) v i = bk i := fun i h => a_ud_n h
  have ge : a_ud bk (2 + k) v (2 + k) = v := a_ud_e
  generalize a_ud bk (2 + k) v = bk' at *
  have gi : ∀ j, j < 6 → bk' (2 + j) = if j = k then v else bk (2 + j) := fun j hj => by
    by_cases c : j = k
    · rw [if_pos c, c]; exact ge
    · rw [if_neg c]; exact g _ (by omega)
  have i0 := gi 0 (by omega)
  have i1 := gi 1 (by omega)
  have i2 := gi 2 (by omega)
  have i3 := gi 3 (by omega)
  have i4 := gi 4 (by omega)
  have i5 := gi 5 (by omega)
  unfold a_lo a_hi at hv
  rw [show 2 + 0 = 2 from rfl] at i0
  rw [show 2 + 1 = 3 from rfl] at i1
  rw [show 2 + 2 = 4 from rfl] at i2
  rw [show 2 + 3 = 5 from rfl] at i3
  rw [show 2 + 4 = 6 from rfl] at i4
  rw [show 2 + 5 = 7 from rfl] at i5
  refine ⟨by rw [g 0 (by omega)]; exact b0, by rw [g 1 (by omega)]; exact b1, ?_, ?_, ?_, ?_, ?_, ?_, fun t ht => ?_, fun e he => ?_, fun e he => ?_, fun e h1 h2 => ?_, fun t h1 h2 => ?_⟩
  · rw [i0]
    by_cases c : 0 = k
    · subst c; simp at hv ⊢; omega
    · rw [if_neg c]; exact b2
  · rw [i1]
    by_cases c : 1 = k
    · subst c; simp at hv ⊢; omega
    · rw [if_neg c]; exact b3
  · rw [i2]
    by_cases c : 2 = k
    · subst c; simp at hv ⊢; omega
    · rw [if_neg c]; exact b4
  · rw [i3]
    by_cases c : 3 = k
    · subst c; simp at hv ⊢; omega
    · rw [if_neg c]; exact b5
  · rw [i4]
    by_cases c : 4 = k
    · subst c; simp at hv ⊢; omega
    · rw [if_neg c]; exact b6
  · rw [i5]
    by_cases c : 5 = k
    · subst c; simp at hv ⊢; omega
    · rw [if_neg c]; exact b7
  · rw [g (8 + t) (by omega), g (16 + t) (by omega)]; exact b8 t ht
  · rw [g 0 (by omega), g (24 + e) (by omega), g (30 + e) (by omega)]; exact b9 e he
  · rw [g 1 (by omega)] at he
    rw [g (24 + e) (by omega)]
    exact b10 e he
  · rw [g 1 (by omega)] at h1
    rw [g (24 + e) (by omega), g (30 + e) (by omega)]
    exact b11 e h1 h2
  · rw [g 0 (by omega)] at h1
    rw [g (8 + t) (by omega), g (16 + t) (by omega)]
    exact b12 t h1 h2
/-- a book with its names, as far as it is read -/
def BKS (bk nm : Nat → Nat) (told : Nat) : Prop := BOK bk ∧ NMO bk nm ∧ told < 64
theorem a_line_ok {by8 : Nat → Nat} {L lim : Nat} {bk nm : Nat → Nat} {told : Nat} {t : Nat × Nat × Nat × Nat} {w : a_BS} (B : BKS bk nm told) (h : a_line (a_ne by8 L lim) bk nm told t = .inr w) : BKS w.1.1 w.1.2.1 w.1.2.2 := by
  obtain ⟨b, N, ht⟩ := B
  unfold a_line at h
  split at h
  · unfold a_lnT at h
    split at h
    · exact absurd h Sum.inl_ne_inr
    · rename_i c8
      obtain ⟨n, e1, h⟩ := a_bd_i h
      obtain ⟨r, e2, h⟩ := a_bd_i h
      obtain ⟨d, e3, h⟩ := a_bd_i h
      have e := Sum.inr.inj h
      subst e
      obtain ⟨-, -, -, r9⟩ := a_nb_i e2
      obtain ⟨-, -, -, d9⟩ := a_nb_i e3
      obtain ⟨-, n1, n2⟩ := a_nw_i a_ne_V e1
      have h8 := b.1
      refine ⟨b.test c8 r9 d9, ⟨fun t ht => ?_, fun d hd => ?_⟩, ht⟩
      · dsimp only at ht ⊢
        rw [a_ud_e] at ht
        by_cases e : t = bk 0
        · subst e; rw [a_ud_e]; exact ⟨n1, n2⟩
        · rw [a_ud_n e]; exact N.1 t (by omega)
      · dsimp only at hd ⊢
        rw [a_ud_n (by omega), a_ud_n (by omega), a_ud_n (by omega)] at hd
        rw [a_ud_n (by omega)]
        exact N.2 d hd
  · split at h
    · unfold a_lnD at h
      split at h
      · exact absurd h Sum.inl_ne_inr
      · rename_i c6
        obtain ⟨n, e1, h⟩ := a_bd_i h
        obtain ⟨w, e2, h⟩ := a_bd_i h
        obtain ⟨kt, e3, h⟩ := a_bd_i h
        have e := Sum.inr.inj h
        subst e
        obtain ⟨-, -, w1, w9⟩ := a_nb_i e2
        have ks := a_kept_i 9 0 _ kt (Nat.two_pow_pos _) e3
        obtain ⟨-, n1, n2⟩ := a_nw_i a_ne_V e1
        have h8 := b.1
        have h6 := b.2.1
        refine ⟨b.dream c6 ⟨w1, w9⟩ ks, ⟨fun t ht => ?_, fun d hd => ?_⟩, ht⟩
        · dsimp only at ht ⊢
          rw [a_ud_n (by omega), a_ud_n (by omega), a_ud_n (by omega)] at ht
          rw [a_ud_n (by omega)]
          exact N.1 t ht
        · dsimp only at hd ⊢
          rw [a_ud_e] at hd
          by_cases e : d = bk 1
          · subst e; rw [a_ud_e]; exact ⟨n1, n2⟩
          · rw [a_ud_n (by omega)]; exact N.2 d (by omega)
    · split at h
      · rename_i ck
        obtain ⟨k, hk, hk6⟩ : ∃ k, a_kk t - 4 = k ∧ k < 6 := ⟨_, rfl, by omega⟩
        rw [hk] at h
        have h8 := b.1
        have tl : told ||| 2 ^ k < 64 := a_set_lt (n := 6) ht hk6
        unfold a_lnS at h
        split at h
        · exact absurd h Sum.inl_ne_inr
        · split at h
          · rename_i c5
            have e := Sum.inr.inj h
            subst e c5
            exact ⟨b.set (k := 5) (v := 1) (by omega) (by rw [if_pos rfl]), ⟨fun t ht => N.1 t ht, fun d hd => N.2 d hd⟩, tl⟩
          · rename_i c5
            obtain ⟨v, e1, h⟩ := a_bd_i h
            have e := Sum.inr.inj h
            subst e
            obtain ⟨-, -, v1, v2⟩ := a_nb_i e1
            have ek : ∀ i, i ≠ 2 + k → a_ud bk (2 + k) v i = bk i := fun i hi => a_ud_n hi
            refine ⟨b.set (k := k) hk6 (by rw [if_neg c5]; exact ⟨v1, v2⟩), ⟨fun t ht => ?_, fun d hd => ?_⟩, tl⟩
            · dsimp only at ht
              rw [ek 0 (by omega)] at ht
              exact N.1 t ht
            · dsimp only at hd
              rw [ek 1 (by omega)] at hd
              exact N.2 d hd
      · exact absurd h Sum.inl_ne_inr
