/-! PHASE 2: what the methods' functions come to; a function ends, and what it ends with -/
def p_W {T : Type} (o : Option T) (Q : T → Prop) : Prop := ∃ v, o = some v ∧ Q v
theorem p_some {T : Type} {v : T} {Q : T → Prop} : p_W (some v) Q ↔ Q v := ⟨fun ⟨_, e, q⟩ => Option.some.inj e ▸ q, fun q => ⟨v, rfl, q⟩⟩
theorem p_gd {T : Type} {b : Bool} {k : Option T} {Q : T → Prop} : p_W (y_gd b k) Q ↔ b = true ∧ p_W k Q := by
  cases b
  · exact ⟨fun ⟨_, e, _⟩ => (by cases e), fun h => (by cases h.1)⟩
  · exact ⟨fun h => ⟨rfl, h⟩, fun h => h.2⟩
theorem p_br {T : Type} {c : Prop} [Decidable c] {a b : Option T} {Q : T → Prop} : p_W (y_br c a b) Q ↔ (c → p_W a Q) ∧ (¬ c → p_W b Q) := by
  unfold y_br
  by_cases hc : c
  · rw [if_pos hc]; exact ⟨fun h => ⟨fun _ => h, fun q => absurd hc q⟩, fun h => h.1 hc⟩
  · rw [if_neg hc]; exact ⟨fun h => ⟨fun q => absurd q hc, fun _ => h⟩, fun h => h.2 hc⟩
theorem p_brT {T : Type} {c : Prop} [Decidable c] {a b : Option T} (hc : c) : y_br c a b = a := if_pos hc
theorem p_brF {T : Type} {c : Prop} [Decidable c] {a b : Option T} (hc : ¬ c) : y_br c a b = b := if_neg hc
theorem p_bi {A T : Type} {o : Option A} {k : A → Option T} {Q : T → Prop} : p_W (y_bi o k) Q ↔ p_W o (fun a => p_W (k a) Q) := by
  cases o with
  | none => exact ⟨fun ⟨_, e, _⟩ => (by cases e), fun ⟨_, e, _⟩ => (by cases e)⟩
  | some a => exact ⟨fun h => ⟨a, rfl, h⟩, fun ⟨b, e, h⟩ => (by cases e; exact h)⟩
theorem p_nm {A T : Type} {a : A} {k : A → Option T} {Q : T → Prop} : p_W (y_nm a k) Q ↔ p_W (k a) Q := Iff.rfl
theorem p_op {A T : Type} {o : Option A} {a : Option T} {b : A → Option T} {Q : T → Prop} : p_W (y_op o a b) Q ↔ (o = none → p_W a Q) ∧ (∀ x, o = some x → p_W (b x) Q) := by
  cases o with
  | none => exact ⟨fun h => ⟨fun _ => h, fun x e => (by cases e)⟩, fun h => h.1 rfl⟩
  | some x => exact ⟨fun h => ⟨fun e => (by cases e), fun y e => (by cases e; exact h)⟩, fun h => h.2 x rfl⟩
theorem p_mp {S T : Type} {o : Option T} {Q : S ⊕ T → Prop} : p_W (y_mp (S := S) o) Q ↔ p_W o (fun t => Q (.inr t)) := by
  cases o with
  | none => exact ⟨fun ⟨_, e, _⟩ => (by cases e), fun ⟨_, e, _⟩ => (by cases e)⟩
  | some a => exact ⟨fun ⟨b, e, h⟩ => (by cases e; exact ⟨a, rfl, h⟩), fun ⟨b, e, h⟩ => (by cases e; exact ⟨_, rfl, h⟩)⟩
theorem p_mono {T : Type} {o : Option T} {Q Q' : T → Prop} (h : p_W o Q) (hq : ∀ v, Q v → Q' v) : p_W o Q' := let ⟨v, e, q⟩ := h; ⟨v, e, hq v q⟩
theorem p_monoP {A B : Type} {o : Option (A × B)} {Q Q' : A × B → Prop} (h : p_W o Q) (hq : ∀ a b, Q (a, b) → Q' (a, b)) : p_W o Q' := let ⟨v, e, q⟩ := h; ⟨v, e, hq v.1 v.2 q⟩
theorem p_eq {T : Type} {o : Option T} {v : T} {Q : T → Prop} (h : o = some v) : p_W o Q ↔ Q v := by subst h; exact p_some
theorem p_of {T : Type} {o : Option T} {v : T} (h : p_W o (fun w => w = v)) : o = some v := let ⟨_, e, q⟩ := h; q ▸ e
/-- how a loop's round ends: it goes on, or it is done -/
def p_S {S T : Type} (P : S → Prop) (Q : T → Prop) (w : S ⊕ T) : Prop := match w with
  | .inl s => P s
  | .inr t => Q t
theorem p_Sl {S T : Type} {P : S → Prop} {Q : T → Prop} {s : S} : p_S P Q (.inl s) ↔ P s := Iff.rfl
theorem p_Sr {S T : Type} {P : S → Prop} {Q : T → Prop} {t : T} : p_S P Q (.inr t) ↔ Q t := Iff.rfl
theorem p_lp {S T : Type} {body : S → Option (S ⊕ T)} {Q : T → Prop} (I : S → Prop) (μ : S → Nat) (hs : ∀ s, I s → p_W (body s) (p_S (fun s' => I s' ∧ μ s' < μ s) Q)) (s : S) (h : I s) : p_W (y_lp body s) Q := by
  have key : ∀ (n : Nat) (s : S), I s → μ s < n → ∃ v, y_lpN body n s = some v ∧ Q v := by
    intro n
    induction n with
    | zero => intro s _ h; exact absurd h (Nat.not_lt_zero _)
    | succ n ih =>
      intro s hi hm
      obtain ⟨w, e, q⟩ := hs s hi
      unfold y_lpN
      rw [e]
      cases w with
      | inl s' => exact ih s' q.1 (Nat.lt_of_lt_of_le q.2 (Nat.le_of_lt_succ hm))
      | inr t => exact ⟨t, rfl, q⟩
  obtain ⟨v, e, q⟩ := key _ s h (Nat.lt_succ_self _)
  exact ⟨v, y_lp_of e, q⟩
/-- a loop that counts from a up to N -/
theorem p_for {S T : Type} {body : S → Option (S ⊕ T)} {Q : T → Prop} (N : Nat) (P : Nat → S → Prop) (hs : ∀ k s, k < N → P k s → p_W (body s) (p_S (P (k + 1)) Q)) (he : ∀ s, P N s → p_W (body s) (p_S (fun _ => False) Q)) {s : S} (a : Nat) (ha : a ≤ N) (h : P a s) : p_W (y_lp body s) Q := by
  have key : ∀ (n a : Nat) (s : S), a + n = N → P a s → ∃ v, y_lpN body (n + 1) s = some v ∧ Q v := by
    intro n
    induction n with
    | zero =>
      intro a s e h
      have e' : a = N := e
      subst e'
      obtain ⟨w, e, q⟩ := he s h
      unfold y_lpN
      rw [e]
      cases w with
      | inl s' => exact absurd q id
      | inr t => exact ⟨t, rfl, q⟩
    | succ n ih =>
      intro a s e h
      obtain ⟨w, e1, q⟩ := hs a s (by omega) h
      unfold y_lpN
      rw [e1]
      cases w with
      | inl s' => exact ih (a + 1) s' (by omega) q
      | inr t => exact ⟨t, rfl, q⟩
  obtain ⟨v, e, q⟩ := key (N - a) a s (by omega) h
  exact ⟨v, y_lp_of e, q⟩
/-! the heap by numbers, read behind writes -/
theorem q_Ie {h : z_T} {o k o' k' : Nat} {v : Int32} (h1 : o' = o) (h2 : k' = k) : z_I (z_sI h o k v) o' k' = v := by subst h1 h2; show z_u2 _ _ _ _ _ _ = _; simp [z_u2]
theorem q_In {h : z_T} {o k o' k' : Nat} {v : Int32} (h1 : o' ≠ o ∨ k' ≠ k) : z_I (z_sI h o k v) o' k' = z_I h o' k' := by
  show z_u2 _ _ _ _ _ _ = _
  unfold z_u2
  by_cases e : o' = o
  · rw [if_pos e]; rcases h1 with h1 | h1
    · exact absurd e h1
    · rw [if_neg h1, e]; rfl
  · rw [if_neg e]; rfl
theorem q_Le {h : z_T} {o k o' k' : Nat} {v : Int64} (h1 : o' = o) (h2 : k' = k) : z_L (z_sL h o k v) o' k' = v := by subst h1 h2; show z_u2 _ _ _ _ _ _ = _; simp [z_u2]
theorem q_Ln {h : z_T} {o k o' k' : Nat} {v : Int64} (h1 : o' ≠ o ∨ k' ≠ k) : z_L (z_sL h o k v) o' k' = z_L h o' k' := by
  show z_u2 _ _ _ _ _ _ = _
  unfold z_u2
  by_cases e : o' = o
  · rw [if_pos e]; rcases h1 with h1 | h1
    · exact absurd e h1
    · rw [if_neg h1, e]; rfl
  · rw [if_neg e]; rfl
theorem q_Re {h : z_T} {o k o' k' : Nat} {v : Option Nat} (h1 : o' = o) (h2 : k' = k) : z_R (z_sR h o k v) o' k' = v := by subst h1 h2; show z_u2 _ _ _ _ _ _ = _; simp [z_u2]
theorem q_Rn {h : z_T} {o k o' k' : Nat} {v : Option Nat} (h1 : o' ≠ o ∨ k' ≠ k) : z_R (z_sR h o k v) o' k' = z_R h o' k' := by
  show z_u2 _ _ _ _ _ _ = _
  unfold z_u2
  by_cases e : o' = o
  · rw [if_pos e]; rcases h1 with h1 | h1
    · exact absurd e h1
    · rw [if_neg h1, e]; rfl
  · rw [if_neg e]; rfl
theorem q_IL {h : z_T} {o k : Nat} {v : Int64} : z_I (z_sL h o k v) = z_I h := rfl
theorem q_IR {h : z_T} {o k : Nat} {v : Option Nat} : z_I (z_sR h o k v) = z_I h := rfl
theorem q_LI {h : z_T} {o k : Nat} {v : Int32} : z_L (z_sI h o k v) = z_L h := rfl
theorem q_LR {h : z_T} {o k : Nat} {v : Option Nat} : z_L (z_sR h o k v) = z_L h := rfl
theorem q_RI {h : z_T} {o k : Nat} {v : Int32} : z_R (z_sI h o k v) = z_R h := rfl
theorem q_RL {h : z_T} {o k : Nat} {v : Int64} : z_R (z_sL h o k v) = z_R h := rfl
theorem q_KI {h : z_T} {o k : Nat} {v : Int32} : z_K (z_sI h o k v) = z_K h := rfl
theorem q_KL {h : z_T} {o k : Nat} {v : Int64} : z_K (z_sL h o k v) = z_K h := rfl
theorem q_KR {h : z_T} {o k : Nat} {v : Option Nat} : z_K (z_sR h o k v) = z_K h := rfl
theorem q_NI {h : z_T} {o k : Nat} {v : Int32} : z_N (z_sI h o k v) = z_N h := rfl
theorem q_NL {h : z_T} {o k : Nat} {v : Int64} : z_N (z_sL h o k v) = z_N h := rfl
theorem q_NR {h : z_T} {o k : Nat} {v : Option Nat} : z_N (z_sR h o k v) = z_N h := rfl
theorem q_nI {h : z_T} {o k : Nat} {v : Int32} : z_n (z_sI h o k v) = z_n h := rfl
theorem q_nL {h : z_T} {o k : Nat} {v : Int64} : z_n (z_sL h o k v) = z_n h := rfl
theorem q_nR {h : z_T} {o k : Nat} {v : Option Nat} : z_n (z_sR h o k v) = z_n h := rfl
theorem q_okI {h : z_T} {o k a b : Nat} {v : Int32} : z_ok (z_sI h o k v) a b = z_ok h a b := rfl
theorem q_okL {h : z_T} {o k a b : Nat} {v : Int64} : z_ok (z_sL h o k v) a b = z_ok h a b := rfl
theorem q_okR {h : z_T} {o k a b : Nat} {v : Option Nat} : z_ok (z_sR h o k v) a b = z_ok h a b := rfl
theorem q_ix {k N : Nat} (h1 : k < N) (h2 : N < 2 ^ 31) : z_ix (nI k) N = true := by
  unfold z_ix
  rw [nI_toInt (by omega)]
  simp
  omega
/-! numbers: ints and longs as Nat -/
theorem r_lit (n : Nat) : (OfNat.ofNat n : Int32) = nI n := rfl
theorem r_litL (n : Nat) : (OfNat.ofNat n : Int64) = lN n := rfl
theorem r_toInt {n : Nat} (h : n < 2 ^ 63) : (lN n).toInt = (n : Int) := by
  show (Int64.ofNat n).toInt = n
  rw [Int64.toInt_ofNat_of_lt h]
theorem r_le {a b : Nat} (ha : a < 2 ^ 63) (hb : b < 2 ^ 63) : lN a ≤ lN b ↔ a ≤ b := by
  rw [Int64.le_iff_toInt_le, r_toInt ha, r_toInt hb]; omega
theorem r_lt {a b : Nat} (ha : a < 2 ^ 63) (hb : b < 2 ^ 63) : lN a < lN b ↔ a < b := by
  rw [Int64.lt_iff_toInt_lt, r_toInt ha, r_toInt hb]; omega
theorem r_eq {a b : Nat} (ha : a < 2 ^ 63) (hb : b < 2 ^ 63) : lN a = lN b ↔ a = b := by
  rw [← Int64.toInt_inj, r_toInt ha, r_toInt hb]; omega
theorem r_cmpg {a b : Nat} (ha : a < 2 ^ 63) (hb : b < 2 ^ 63) : (0 ≤ lg_cmp (lN a) (lN b)) ↔ b ≤ a := by rw [lg_cmp_ge, r_le hb ha]
theorem r_cmpl {a b : Nat} (ha : a < 2 ^ 63) (hb : b < 2 ^ 63) : (lg_cmp (lN a) (lN b) ≤ 0) ↔ a ≤ b := by rw [lg_cmp_le, r_le ha hb]
theorem r_cmp0 (x y : Int64) : lg_cmp x y = 0 ↔ x = y := by
  unfold lg_cmp
  by_cases h : x > y
  · rw [if_pos h]
    have : x ≠ y := fun e => by subst e; exact Int64.lt_irrefl h
    simp [this]
  · rw [if_neg h]
    by_cases e : x = y
    · rw [if_pos e]; simp [e]
    · rw [if_neg e]; simp [e]
theorem r_cmpl0 (x y : Int64) : (lg_cmp x y < 0) ↔ x < y := by
  have h := lg_cmp_ge x y
  constructor
  · intro g
    exact Int64.not_le.mp (fun q => absurd (h.mpr q) (Int32.not_le.mpr g))
  · intro g
    exact Int32.not_le.mp (fun q => absurd (h.mp q) (Int64.not_le.mpr g))
theorem r_cmpg0 (x y : Int64) : (0 < lg_cmp x y) ↔ y < x := by
  have h := lg_cmp_le x y
  constructor
  · intro g
    exact Int64.not_le.mp (fun q => absurd (h.mpr q) (Int32.not_le.mpr g))
  · intro g
    exact Int32.not_le.mp (fun q => absurd (h.mp q) (Int64.not_le.mpr g))
theorem r_neg1 {n : Nat} (h : n < 2 ^ 31) : ¬ nI n = -1 := by
  intro e
  have := congrArg Int32.toInt e
  rw [nI_toInt h, show (-1 : Int32).toInt = -1 from rfl] at this
  omega
theorem r_neg1' {n : Nat} (h : n < 2 ^ 31) : ¬ (-1 : Int32) = nI n := fun e => r_neg1 h e.symm
theorem r_lt0 {n : Nat} (h : n < 2 ^ 31) : ¬ nI n < 0 := nI_pos h
theorem r_cases (x : Int32) : x < 0 ∨ ∃ j : Nat, j < 2 ^ 31 ∧ x = nI j := by
  by_cases h : x < 0
  · exact Or.inl h
  · exact Or.inr (nI_of h)
/-- an int is below n, or it is not (nor not below 0) -/
theorem r_in (x : Int32) (n : Nat) : (∃ j : Nat, j < n ∧ j < 2 ^ 31 ∧ x = nI j) ∨ (x < 0 ∨ ∃ j : Nat, n ≤ j ∧ j < 2 ^ 31 ∧ x = nI j) := by
  rcases r_cases x with h | ⟨j, h1, h2⟩
  · exact Or.inr (Or.inl h)
  · by_cases h : j < n
    · exact Or.inl ⟨j, h, h1, h2⟩
    · exact Or.inr (Or.inr ⟨j, by omega, h1, h2⟩)
