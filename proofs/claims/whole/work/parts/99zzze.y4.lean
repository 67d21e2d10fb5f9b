/-! a sentence as a row of steps (a leaf 0 to 5 with its sign and its number, 20 not, 21 and, 22 or), told once for both sides -/
abbrev a_tk : Type := Nat × Nat × Nat × Nat
abbrev a_CS : Type := (Nat → Nat) × Nat × Nat × a_tk
abbrev a_CR : Type := (Nat × Nat) ⊕ a_CS
abbrev a_CP : Type := (Nat → Nat) → Nat → Nat → a_tk → a_CR
/-- one step more -/
def a_cpu (cf : Nat → Nat) (c w s n : Nat) : Nat → Nat := a_ud (a_ud (a_ud cf (3 * c) w) (3 * c + 1) s) (3 * c + 2) n
def a_jn (ne : a_tk → a_tk) (P : a_CP) (key code : Nat) : Nat → a_CP
  | 0, cf, c, o, t => .inr (cf, c, o, t)
  | m + 1, cf, c, o, t => if a_kk t = key then a_bd (P cf c o (ne t)) fun v => a_jn ne P key code m (a_cpu v.1 v.2.1 code 0 0) (v.2.1 + 1) v.2.2.1 v.2.2.2 else .inr (cf, c, o, t)
def a_al1 (ne : a_tk → a_tk) (P : a_CP) : a_CP := fun cf c o t => a_bd (P cf c o t) fun v => a_jn ne P 16 21 20 v.1 v.2.1 v.2.2.1 v.2.2.2
def a_co (ne : a_tk → a_tk) (P : a_CP) : a_CP := fun cf c o t => a_bd (a_al1 ne P cf c o t) fun v => a_jn ne (a_al1 ne P) 15 22 20 v.1 v.2.1 v.2.2.1 v.2.2.2
/-- a leaf behind its word -/
def a_lfo (ne : a_tk → a_tk) (f : Nat → Nat) (n0 k : Nat) : a_CP := fun cf c o t =>
  if k = 18 then .inr (a_cpu cf c 0 0 0, c + 1, o, t)
  else if k = 20 then .inr (a_cpu cf c 1 0 0, c + 1, o, t)
  else if k = 19 then (if a_kk t = 1 then (if a_fx f n0 t.2.1 < n0 then .inr (a_cpu cf c 2 0 (a_fx f n0 t.2.1), c + 1, o, ne t) else .inl (3, t.2.2.1)) else .inl (1, t.2.2.1))
  else if 60 ≤ t.1 ∧ t.1 ≤ 62 then a_bd (a_nb 0 99 (ne t)) fun x => .inr (a_cpu cf c (k - 18) t.1 x, c + 1, o, ne (ne t)) else .inl (1, t.2.2.1)
def a_one (ne : a_tk → a_tk) (f : Nat → Nat) (n0 : Nat) : Nat → a_CP
  | 0, cf, c, o, t => if t.1 = 40 ∨ 17 ≤ a_kk t then .inl (4, t.2.2.1) else .inl (1, t.2.2.1)
  | d + 1, cf, c, o, t => if t.1 = 40 ∨ 17 ≤ a_kk t then (if 20 ≤ o then .inl (4, t.2.2.1) else if t.1 = 40 then a_bd (a_co ne (a_one ne f n0 d) cf c (o + 1) (ne t)) fun v => a_bd (a_sgn 41 v.2.2.2) fun _ => .inr (v.1, v.2.1, v.2.2.1, ne v.2.2.2)
      else if a_kk t = 17 then a_bd (a_one ne f n0 d cf c (o + 1) (ne t)) fun v => .inr (a_cpu v.1 v.2.1 20 0 0, v.2.1 + 1, v.2.2.1, v.2.2.2)
      else a_lfo ne f n0 (a_kk t) cf c (o + 1) (ne t)) else .inl (1, t.2.2.1)
section AONE
variable {ne : a_tk → a_tk} {f cf : Nat → Nat} {n0 d c o : Nat} {t : a_tk}
theorem a_one_no (h : ¬ (t.1 = 40 ∨ 17 ≤ a_kk t)) : a_one ne f n0 d cf c o t = .inl (1, t.2.2.1) := by cases d <;> rw [a_one, if_neg h]
theorem a_one_0 (h : t.1 = 40 ∨ 17 ≤ a_kk t) : a_one ne f n0 0 cf c o t = .inl (4, t.2.2.1) := by rw [a_one, if_pos h]
theorem a_one_20 (h : t.1 = 40 ∨ 17 ≤ a_kk t) (ho : 20 ≤ o) : a_one ne f n0 d cf c o t = .inl (4, t.2.2.1) := by
  cases d
  · rw [a_one, if_pos h]
  · rw [a_one, if_pos h, if_pos ho]
theorem a_one_b (h : t.1 = 40) (ho : ¬ 20 ≤ o) : a_one ne f n0 (d + 1) cf c o t = a_bd (a_co ne (a_one ne f n0 d) cf c (o + 1) (ne t)) fun v => a_bd (a_sgn 41 v.2.2.2) fun _ => .inr (v.1, v.2.1, v.2.2.1, ne v.2.2.2) := by rw [a_one, if_pos (Or.inl h), if_neg ho, if_pos h]
theorem a_one_n (h : a_kk t = 17) (ho : ¬ 20 ≤ o) : a_one ne f n0 (d + 1) cf c o t = a_bd (a_one ne f n0 d cf c (o + 1) (ne t)) fun v => .inr (a_cpu v.1 v.2.1 20 0 0, v.2.1 + 1, v.2.2.1, v.2.2.2) := by
  have h2 := a_kk1 (t := t) (by omega)
  rw [a_one, if_pos (Or.inr (by omega)), if_neg ho, if_neg (by omega), if_pos h]
theorem a_one_l (h : 17 < a_kk t) (ho : ¬ 20 ≤ o) : a_one ne f n0 (d + 1) cf c o t = a_lfo ne f n0 (a_kk t) cf c (o + 1) (ne t) := by
  have h2 := a_kk1 (t := t) (by omega)
  rw [a_one, if_pos (Or.inr (by omega)), if_neg ho, if_neg (by omega), if_neg (by omega)]
theorem a_jn_s {P : a_CP} {key code m : Nat} (h : a_kk t = key) : a_jn ne P key code (m + 1) cf c o t = a_bd (P cf c o (ne t)) fun v => a_jn ne P key code m (a_cpu v.1 v.2.1 code 0 0) (v.2.1 + 1) v.2.2.1 v.2.2.2 := by rw [a_jn, if_pos h]
theorem a_jn_e {P : a_CP} {key code m : Nat} (h : ¬ a_kk t = key) : a_jn ne P key code m cf c o t = .inr (cf, c, o, t) := by
  cases m
  · rfl
  · rw [a_jn, if_neg h]
end AONE
theorem a_kk23 (t : a_tk) : a_kk t ≤ 23 := by
  have := a_wi_lt (V := t.2.1)
  unfold a_kk
  split <;> omega
/-! what the steps are: how high the stack is ahead of each -/
def a_ht (cf : Nat → Nat) : Nat → Nat
  | 0 => 0
  | i + 1 => if cf (3 * i) < 20 then a_ht cf i + 1 else if cf (3 * i) = 20 then a_ht cf i else a_ht cf i - 1
theorem a_ht_le {cf : Nat → Nat} : ∀ c, a_ht cf c ≤ c
  | 0 => Nat.le_refl 0
  | c + 1 => by
    have := a_ht_le (cf := cf) c
    rw [a_ht]
    split
    · omega
    · split <;> omega
theorem a_ht_cg {cf cf' : Nat → Nat} : ∀ {c}, (∀ i, i < 3 * c → cf' i = cf i) → a_ht cf' c = a_ht cf c
  | 0, _ => rfl
  | c + 1, h => by
    rw [a_ht, a_ht, h (3 * c) (by omega), a_ht_cg (c := c) (fun i hi => h i (by omega))]
/-- a step that can come behind those ahead of it -/
def a_cok (nD : Nat) (cf : Nat → Nat) (i : Nat) : Prop :=
  cf (3 * i) ≤ 1 ∨ (cf (3 * i) = 2 ∧ cf (3 * i + 2) < nD) ∨ (3 ≤ cf (3 * i) ∧ cf (3 * i) ≤ 5 ∧ 60 ≤ cf (3 * i + 1) ∧ cf (3 * i + 1) ≤ 62 ∧ cf (3 * i + 2) ≤ 99) ∨ (cf (3 * i) = 20 ∧ 1 ≤ a_ht cf i) ∨ ((cf (3 * i) = 21 ∨ cf (3 * i) = 22) ∧ 2 ≤ a_ht cf i)
def WFC (nD : Nat) (cf : Nat → Nat) (c : Nat) : Prop := (∀ i, i < c → a_cok nD cf i) ∧ ∀ i, i < 3 * c → cf i ≤ 99
theorem WFC.cg {nD : Nat} {cf cf' : Nat → Nat} {c : Nat} (W : WFC nD cf c) (h : ∀ i, i < 3 * c → cf' i = cf i) : WFC nD cf' c := by
  refine ⟨fun i hi => ?_, fun i hi => by rw [h i hi]; exact W.2 i hi⟩
  have := W.1 i hi
  unfold a_cok at this ⊢
  rw [h (3 * i) (by omega), h (3 * i + 1) (by omega), h (3 * i + 2) (by omega), a_ht_cg (fun j hj => h j (by omega))]
  exact this
theorem a_cpu_lo {cf : Nat → Nat} {c w s n i : Nat} (h : i < 3 * c) : a_cpu cf c w s n i = cf i := by
  unfold a_cpu
  rw [a_ud_n (by omega), a_ud_n (by omega), a_ud_n (by omega)]
theorem a_cpu_0 {cf : Nat → Nat} {c w s n : Nat} : a_cpu cf c w s n (3 * c) = w := by
  unfold a_cpu
  rw [a_ud_n (by omega), a_ud_n (by omega), a_ud_e]
theorem a_cpu_1 {cf : Nat → Nat} {c w s n : Nat} : a_cpu cf c w s n (3 * c + 1) = s := by
  unfold a_cpu
  rw [a_ud_n (by omega), a_ud_e]
theorem a_cpu_2 {cf : Nat → Nat} {c w s n : Nat} : a_cpu cf c w s n (3 * c + 2) = n := by
  unfold a_cpu
  rw [a_ud_e]
theorem WFC.pu {nD : Nat} {cf : Nat → Nat} {c w s n : Nat} (W : WFC nD cf c) (hs : s ≤ 99) (hn : n ≤ 99) (hc : w ≤ 1 ∨ (w = 2 ∧ n < nD) ∨ (3 ≤ w ∧ w ≤ 5 ∧ 60 ≤ s ∧ s ≤ 62 ∧ n ≤ 99) ∨ (w = 20 ∧ 1 ≤ a_ht cf c) ∨ ((w = 21 ∨ w = 22) ∧ 2 ≤ a_ht cf c)) : WFC nD (a_cpu cf c w s n) (c + 1) := by
  have W' := W.cg (cf' := a_cpu cf c w s n) (fun i hi => a_cpu_lo hi)
  refine ⟨fun i hi => ?_, fun i hi => ?_⟩
  · by_cases e : i = c
    · subst e
      unfold a_cok
      rw [a_cpu_0, a_cpu_1, a_cpu_2, a_ht_cg (fun j hj => a_cpu_lo hj)]
      exact hc
    · exact W'.1 i (by omega)
  · by_cases e : i < 3 * c
    · exact W'.2 i e
    · have e3 : i = 3 * c ∨ i = 3 * c + 1 ∨ i = 3 * c + 2 := by omega
      rcases e3 with rfl | rfl | rfl
      · rw [a_cpu_0]; omega
      · rw [a_cpu_1]; exact hs
      · rw [a_cpu_2]; exact hn
theorem a_ht_pu {cf : Nat → Nat} {c w s n : Nat} : a_ht (a_cpu cf c w s n) (c + 1) = if w < 20 then a_ht cf c + 1 else if w = 20 then a_ht cf c else a_ht cf c - 1 := by
  rw [a_ht, a_cpu_0, a_ht_cg (fun j hj => a_cpu_lo hj)]
/-- what an operand leaves behind: one set more on the stack -/
def a_rel (nD : Nat) (cf : Nat → Nat) (c o : Nat) (v : a_CS) : Prop := (∀ i, i < 3 * c → v.1 i = cf i) ∧ WFC nD v.1 v.2.1 ∧ a_ht v.1 v.2.1 = a_ht cf c + 1 ∧ v.2.1 + 1 + 2 * o ≤ c + 2 * v.2.2.1 ∧ o < v.2.2.1 ∧ v.2.2.1 ≤ 20 ∧ c < v.2.1
theorem a_lfo_r {ne : a_tk → a_tk} {f cf : Nat → Nat} {nD c o k : Nat} {t : a_tk} {v : a_CS} (hD : nD ≤ 6) (hk : 17 < k ∧ k ≤ 23) (W : WFC nD cf c) (ho : o + 1 ≤ 20) (h : a_lfo ne f nD k cf c (o + 1) t = .inr v) : a_rel nD cf c o v := by
  have key : ∀ w s n (t' : a_tk), s ≤ 99 → n ≤ 99 → (w ≤ 1 ∨ (w = 2 ∧ n < nD) ∨ (3 ≤ w ∧ w ≤ 5 ∧ 60 ≤ s ∧ s ≤ 62 ∧ n ≤ 99)) → a_rel nD cf c o (a_cpu cf c w s n, c + 1, o + 1, t') := fun w s n t' hs hn hc => by
    refine ⟨fun i hi => a_cpu_lo hi, W.pu hs hn (by omega), ?_, ?_, ?_, ?_, ?_⟩
    · show a_ht (a_cpu cf c w s n) (c + 1) = _
      rw [a_ht_pu, if_pos (by omega)]
    · show c + 1 + 1 + 2 * o ≤ c + 2 * (o + 1)
      omega
    · show o < o + 1
      omega
    · exact ho
    · show c < c + 1
      omega
  unfold a_lfo at h
  by_cases c18 : k = 18
  · rw [if_pos c18] at h
    have e := Sum.inr.inj h
    subst e
    exact key 0 0 0 t (by omega) (by omega) (by omega)
  · rw [if_neg c18] at h
    by_cases c20 : k = 20
    · rw [if_pos c20] at h
      have e := Sum.inr.inj h
      subst e
      exact key 1 0 0 t (by omega) (by omega) (by omega)
    · rw [if_neg c20] at h
      by_cases c19 : k = 19
      · rw [if_pos c19] at h
        by_cases c1 : a_kk t = 1
        · rw [if_pos c1] at h
          by_cases c2 : a_fx f nD t.2.1 < nD
          · rw [if_pos c2] at h
            have e := Sum.inr.inj h
            subst e
            exact key 2 0 _ _ (by omega) (by omega) (Or.inr (Or.inl ⟨rfl, c2⟩))
          · rw [if_neg c2] at h
            exact absurd h Sum.inl_ne_inr
        · rw [if_neg c1] at h
          exact absurd h Sum.inl_ne_inr
      · rw [if_neg c19] at h
        by_cases c1 : 60 ≤ t.1 ∧ t.1 ≤ 62
        · rw [if_pos c1] at h
          obtain ⟨x, e1, h⟩ := a_bd_i h
          have e := Sum.inr.inj h
          subst e
          obtain ⟨-, -, -, x9⟩ := a_nb_i e1
          exact key (k - 18) t.1 x _ (by omega) x9 (Or.inr (Or.inr (by omega)))
        · rw [if_neg c1] at h
          exact absurd h Sum.inl_ne_inr
/-- a row of operands that are joined -/
theorem a_jn_r {ne : a_tk → a_tk} {nD key code : Nat} {P : a_CP} {G : a_tk → Prop} (hc : code = 21 ∨ code = 22) (hP : ∀ cf c o t v, WFC nD cf c → P cf c o t = .inr v → a_rel nD cf c o v ∧ G v.2.2.2) : ∀ m cf c o t v, WFC nD cf c → 1 ≤ a_ht cf c → o ≤ 20 → G t → a_jn ne P key code m cf c o t = .inr v →
    (∀ i, i < 3 * c → v.1 i = cf i) ∧ WFC nD v.1 v.2.1 ∧ a_ht v.1 v.2.1 = a_ht cf c ∧ v.2.1 + 2 * o ≤ c + 2 * v.2.2.1 ∧ o ≤ v.2.2.1 ∧ v.2.2.1 ≤ 20 ∧ c ≤ v.2.1 ∧ G v.2.2.2 ∧ (¬ a_kk v.2.2.2 = key ∨ o + m ≤ v.2.2.1) := by
  intro m
  induction m with
  | zero =>
    intro cf c o t v W h1 ho hG h
    have e := Sum.inr.inj h
    subst e
    exact ⟨fun _ _ => rfl, W, rfl, Nat.le_refl _, Nat.le_refl _, ho, Nat.le_refl _, hG, Or.inr (Nat.le_refl _)⟩
  | succ m ih =>
    intro cf c o t v W h1 ho hG h
    by_cases ck : a_kk t = key
    · rw [a_jn_s ck] at h
      obtain ⟨u, e1, h⟩ := a_bd_i h
      obtain ⟨⟨r1, r2, r3, r4, r5, r6, r7⟩, r8⟩ := hP _ _ _ _ _ W e1
      have W2 : WFC nD (a_cpu u.1 u.2.1 code 0 0) (u.2.1 + 1) := r2.pu (by omega) (by omega) (by omega)
      have e2 : a_ht (a_cpu u.1 u.2.1 code 0 0) (u.2.1 + 1) = a_ht cf c := by
        rw [a_ht_pu, if_neg (by omega), if_neg (by omega), r3]
        rfl
      obtain ⟨q1, q2, q3, q4, q5, q6, q7, q8, q9⟩ := ih _ _ _ _ v W2 (by omega) r6 r8 h
      refine ⟨fun i hi => ?_, q2, q3.trans e2, by omega, by omega, q6, by omega, q8, ?_⟩
      · rw [q1 i (by omega), a_cpu_lo (by omega)]
        exact r1 i hi
      · rcases q9 with q | q
        · exact Or.inl q
        · exact Or.inr (by omega)
    · rw [a_jn_e ck] at h
      have e := Sum.inr.inj h
      subst e
      exact ⟨fun _ _ => rfl, W, rfl, Nat.le_refl _, Nat.le_refl _, ho, Nat.le_refl _, hG, Or.inl ck⟩
theorem a_rel_jn {nD : Nat} {cf : Nat → Nat} {c o : Nat} {u v : a_CS} (R : a_rel nD cf c o u) (h1 : ∀ i, i < 3 * u.2.1 → v.1 i = u.1 i) (h2 : WFC nD v.1 v.2.1) (h3 : a_ht v.1 v.2.1 = a_ht u.1 u.2.1) (h4 : v.2.1 + 2 * u.2.2.1 ≤ u.2.1 + 2 * v.2.2.1) (h5 : u.2.2.1 ≤ v.2.2.1) (h6 : v.2.2.1 ≤ 20) (h7 : u.2.1 ≤ v.2.1) : a_rel nD cf c o v := by
  obtain ⟨r1, r2, r3, r4, r5, r6, r7⟩ := R
  exact ⟨fun i hi => (h1 i (by omega)).trans (r1 i hi), h2, h3.trans r3, by omega, by omega, h6, by omega⟩
theorem a_al1_r {ne : a_tk → a_tk} {nD : Nat} {P : a_CP} (hP : ∀ cf c o t v, WFC nD cf c → P cf c o t = .inr v → a_rel nD cf c o v) : ∀ cf c o t v, WFC nD cf c → a_al1 ne P cf c o t = .inr v → a_rel nD cf c o v ∧ ¬ a_kk v.2.2.2 = 16 := by
  intro cf c o t v W h
  obtain ⟨u, e1, h⟩ := a_bd_i (show a_bd (P cf c o t) _ = .inr v from h)
  have R := hP _ _ _ _ _ W e1
  obtain ⟨q1, q2, q3, q4, q5, q6, q7, -, q9⟩ := a_jn_r (G := fun _ => True) (Or.inl rfl) (fun cf c o t v W h => ⟨hP cf c o t v W h, trivial⟩) 20 _ _ _ _ v R.2.1 (by have := R.2.2.1; omega) R.2.2.2.2.2.1 trivial h
  refine ⟨a_rel_jn R q1 q2 q3 q4 q5 q6 q7, ?_⟩
  rcases q9 with q | q
  · exact q
  · have := R.2.2.2.2.1
    omega
theorem a_co_r {ne : a_tk → a_tk} {nD : Nat} {P : a_CP} (hP : ∀ cf c o t v, WFC nD cf c → P cf c o t = .inr v → a_rel nD cf c o v) : ∀ cf c o t v, WFC nD cf c → a_co ne P cf c o t = .inr v → a_rel nD cf c o v ∧ ¬ a_kk v.2.2.2 = 16 ∧ ¬ a_kk v.2.2.2 = 15 := by
  intro cf c o t v W h
  obtain ⟨u, e1, h⟩ := a_bd_i (show a_bd (a_al1 ne P cf c o t) _ = .inr v from h)
  obtain ⟨R, G0⟩ := a_al1_r hP _ _ _ _ _ W e1
  obtain ⟨q1, q2, q3, q4, q5, q6, q7, q8, q9⟩ := a_jn_r (G := fun t => ¬ a_kk t = 16) (Or.inr rfl) (fun cf c o t v W h => a_al1_r hP cf c o t v W h) 20 _ _ _ _ v R.2.1 (by have := R.2.2.1; omega) R.2.2.2.2.2.1 G0 h
  refine ⟨a_rel_jn R q1 q2 q3 q4 q5 q6 q7, q8, ?_⟩
  rcases q9 with q | q
  · exact q
  · have := R.2.2.2.2.1
    omega
theorem a_one_r {ne : a_tk → a_tk} {f : Nat → Nat} {nD : Nat} (hD : nD ≤ 6) : ∀ d cf c o t v, WFC nD cf c → a_one ne f nD d cf c o t = .inr v → a_rel nD cf c o v := by
  intro d
  induction d with
  | zero =>
    intro cf c o t v W h
    by_cases cb : t.1 = 40 ∨ 17 ≤ a_kk t
    · rw [a_one_0 cb] at h
      exact absurd h Sum.inl_ne_inr
    · rw [a_one_no cb] at h
      exact absurd h Sum.inl_ne_inr
  | succ d ih =>
    intro cf c o t v W h
    by_cases cb : t.1 = 40 ∨ 17 ≤ a_kk t
    · by_cases ho : 20 ≤ o
      · rw [a_one_20 cb ho] at h
        exact absurd h Sum.inl_ne_inr
      · by_cases c40 : t.1 = 40
        · rw [a_one_b c40 ho] at h
          obtain ⟨u, e1, h⟩ := a_bd_i h
          obtain ⟨u2, e2, h⟩ := a_bd_i h
          have e := Sum.inr.inj h
          subst e
          obtain ⟨⟨r1, r2, r3, r4, r5, r6, r7⟩, -⟩ := a_co_r ih _ _ _ _ _ W e1
          exact ⟨r1, r2, r3, by dsimp only; omega, by dsimp only; omega, r6, r7⟩
        · have k17 : 17 ≤ a_kk t := by omega
          by_cases c17 : a_kk t = 17
          · rw [a_one_n c17 ho] at h
            obtain ⟨u, e1, h⟩ := a_bd_i h
            have e := Sum.inr.inj h
            subst e
            obtain ⟨r1, r2, r3, r4, r5, r6, r7⟩ := ih _ _ _ _ _ W e1
            refine ⟨fun i hi => ?_, r2.pu (by omega) (by omega) (by omega), ?_, ?_, ?_, r6, ?_⟩
            · show a_cpu u.1 u.2.1 20 0 0 i = cf i
              rw [a_cpu_lo (by omega)]
              exact r1 i hi
            · show a_ht (a_cpu u.1 u.2.1 20 0 0) (u.2.1 + 1) = _
              rw [a_ht_pu, if_neg (by omega), if_pos rfl]
              exact r3
            · show u.2.1 + 1 + 1 + 2 * o ≤ c + 2 * u.2.2.1
              omega
            · show o < u.2.2.1
              omega
            · show c < u.2.1 + 1
              omega
          · rw [a_one_l (by omega) ho] at h
            exact a_lfo_r hD ⟨by omega, a_kk23 t⟩ W (by omega) h
    · rw [a_one_no cb] at h
      exact absurd h Sum.inl_ne_inr
