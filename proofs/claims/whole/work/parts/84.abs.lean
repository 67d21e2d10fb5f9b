/-! what a book, a night say, as numbers -/
def sumN (f : Nat → Nat) : Nat → Nat
  | 0 => 0
  | n + 1 => sumN f n + f n
theorem sumN_congr {f g : Nat → Nat} : ∀ {n : Nat}, (∀ i, i < n → f i = g i) → sumN f n = sumN g n
  | 0, _ => rfl
  | n + 1, h => by rw [sumN, sumN, sumN_congr (fun i hi => h i (by omega)), h n (by omega)]
theorem sumN_le {f : Nat → Nat} {b : Nat} : ∀ {n : Nat}, (∀ i, i < n → f i ≤ b) → sumN f n ≤ n * b
  | 0, _ => by simp [sumN]
  | n + 1, h => by
    have h1 := sumN_le (n := n) (fun i hi => h i (by omega))
    have h2 := h n (by omega)
    rw [sumN, Nat.add_mul]
    omega
theorem sumN_ge {f : Nat → Nat} : ∀ {n i : Nat}, i < n → f i ≤ sumN f n
  | 0, i, h => absurd h (Nat.not_lt_zero _)
  | n + 1, i, h => by
    rw [sumN]
    by_cases e : i = n
    · subst e; omega
    · have := sumN_ge (f := f) (n := n) (i := i) (by omega)
      omega
theorem sumN_zero {f : Nat → Nat} : ∀ {n : Nat}, (∀ i, i < n → f i = 0) → sumN f n = 0
  | 0, _ => rfl
  | n + 1, h => by rw [sumN, sumN_zero (fun i hi => h i (by omega)), h n (by omega)]
theorem sumN_ext {f : Nat → Nat} {n : Nat} : ∀ {m : Nat}, n ≤ m → (∀ i, n ≤ i → i < m → f i = 0) → sumN f m = sumN f n
  | 0, h, _ => by rw [show n = 0 by omega]
  | m + 1, h, hz => by
    by_cases e : n = m + 1
    · rw [e]
    · rw [sumN, sumN_ext (by omega) (fun i h1 h2 => hz i h1 (by omega)), hz m (by omega) (by omega), Nat.add_zero]
theorem sumN_mul {f : Nat → Nat} {c : Nat} : ∀ {n : Nat}, sumN (fun i => f i * c) n = sumN f n * c
  | 0 => by simp [sumN]
  | n + 1 => by rw [sumN, sumN, sumN_mul, Nat.add_mul]
theorem sumN_add {f g : Nat → Nat} : ∀ {n : Nat}, sumN (fun i => f i + g i) n = sumN f n + sumN g n
  | 0 => rfl
  | n + 1 => by rw [sumN, sumN, sumN, sumN_add]; omega
theorem sumN_mono {f g : Nat → Nat} : ∀ {n : Nat}, (∀ i, i < n → f i ≤ g i) → sumN f n ≤ sumN g n
  | 0, _ => Nat.le_refl _
  | n + 1, h => by
    have h1 := sumN_mono (n := n) (fun i hi => h i (by omega))
    have h2 := h n (by omega)
    rw [sumN, sumN]
    omega
/-- the first term apart -/
theorem sumN_head {f : Nat → Nat} : ∀ {n : Nat}, sumN f (n + 1) = f 0 + sumN (fun i => f (i + 1)) n
  | 0 => by simp [sumN]
  | n + 1 => by rw [sumN, sumN_head, sumN]; omega
/-- a book's numbers: 0 tests, 1 dreams, 2 the room's weight, 3 tired, 4 sure, 5 late, 6 wrong, 7 learn, 8 and on rooms, 16 dreams, 24 weights, 30 keeps -/
def BOK (bk : Nat → Nat) : Prop := bk 0 ≤ 8 ∧ bk 1 ≤ 6 ∧ (1 ≤ bk 2 ∧ bk 2 ≤ 20) ∧ bk 3 ≤ 12 ∧ (5 ≤ bk 4 ∧ bk 4 ≤ 9) ∧ bk 5 ≤ 99 ∧ bk 6 ≤ 99 ∧ bk 7 ≤ 1 ∧ (∀ t, t < 8 → bk (8 + t) ≤ 9 ∧ bk (16 + t) ≤ 9) ∧ (∀ d, d < 6 → bk (24 + d) ≤ 20 ∧ bk (30 + d) < 2 ^ bk 0) ∧ (∀ d, d < bk 1 → 1 ≤ bk (24 + d)) ∧ (∀ d, bk 1 ≤ d → d < 6 → bk (24 + d) = 0 ∧ bk (30 + d) = 0) ∧ (∀ t, bk 0 ≤ t → t < 8 → bk (8 + t) = 0 ∧ bk (16 + t) = 0)
def a_w (bk : Nat → Nat) (q : Nat) : Nat := if q = 0 then bk 2 else bk (24 + q - 1)
def a_pl (bk : Nat → Nat) (q t : Nat) : Nat := if q = 0 ∨ (bk (30 + q - 1)).testBit t = true then bk (8 + t) else bk (16 + t)
/-- how often a test was asked in the first n answers -/
def a_tm (ans : Nat → Nat) (t : Nat) : Nat → Nat
  | 0 => 0
  | n + 1 => a_tm ans t n + if ans n / 2 = t then 1 else 0
def a_od (bk ans : Nat → Nat) (n q t : Nat) : Nat := if 0 < bk 3 ∧ bk 3 ≤ n + 1 then 9 else if 0 < q ∧ bk 7 = 1 ∧ 0 < a_tm ans t n then bk (8 + t) else a_pl bk q t
/-- by how many of nine the answer comes -/
def a_fa (o s : Nat) : Nat := if s = 1 then o else 9 - o
def a_lk (bk ans : Nat → Nat) (q : Nat) : Nat → Nat
  | 0 => a_w bk q
  | n + 1 => a_lk bk ans q n * a_fa (a_od bk ans n q (ans n / 2)) (ans n % 2)
def a_all (bk ans : Nat → Nat) (n : Nat) : Nat := sumN (fun q => a_lk bk ans q n) (bk 1 + 1)
theorem BOK.w {bk : Nat → Nat} (b : BOK bk) {q : Nat} (h : q < 7) : a_w bk q ≤ 20 := by
  unfold a_w
  split
  · exact b.2.2.1.2
  · rw [show 24 + q - 1 = 24 + (q - 1) by omega]
    exact (b.2.2.2.2.2.2.2.2.2.1 (q - 1) (by omega)).1
theorem BOK.w0 {bk : Nat → Nat} (b : BOK bk) {q : Nat} (h : q < 7) (h2 : bk 1 < q) : a_w bk q = 0 := by
  unfold a_w
  rw [if_neg (by omega), show 24 + q - 1 = 24 + (q - 1) by omega]
  exact (b.2.2.2.2.2.2.2.2.2.2.2.1 (q - 1) (by omega) (by omega)).1
theorem BOK.pl {bk : Nat → Nat} (b : BOK bk) {q t : Nat} (h : t < 8) : a_pl bk q t ≤ 9 := by
  unfold a_pl
  have := b.2.2.2.2.2.2.2.2.1 t h
  split <;> omega
theorem BOK.od {bk ans : Nat → Nat} (b : BOK bk) {n q t : Nat} (h : t < 8) : a_od bk ans n q t ≤ 9 := by
  unfold a_od
  have := b.2.2.2.2.2.2.2.2.1 t h
  have := b.pl (q := q) h
  split
  · omega
  · split <;> omega
theorem a_fa_le {o s : Nat} (h : o ≤ 9) : a_fa o s ≤ 9 := by unfold a_fa; split <;> omega
theorem a_tm_le (ans : Nat → Nat) (t : Nat) : ∀ n, a_tm ans t n ≤ n
  | 0 => Nat.le_refl _
  | n + 1 => by
    have := a_tm_le ans t n
    rw [a_tm]
    split <;> omega
theorem a_tm_congr {ans ans' : Nat → Nat} {t : Nat} : ∀ {n : Nat}, (∀ i, i < n → ans i = ans' i) → a_tm ans t n = a_tm ans' t n
  | 0, _ => rfl
  | n + 1, h => by rw [a_tm, a_tm, a_tm_congr (fun i hi => h i (by omega)), h n (by omega)]
theorem a_od_congr {bk ans ans' : Nat → Nat} {n q t : Nat} (h : ∀ i, i < n → ans i = ans' i) : a_od bk ans n q t = a_od bk ans' n q t := by unfold a_od; rw [a_tm_congr h]
theorem a_lk_congr {bk ans ans' : Nat → Nat} {q : Nat} : ∀ {n : Nat}, (∀ i, i < n → ans i = ans' i) → a_lk bk ans q n = a_lk bk ans' q n
  | 0, _ => rfl
  | n + 1, h => by rw [a_lk, a_lk, a_lk_congr (fun i hi => h i (by omega)), h n (by omega), a_od_congr (fun i hi => h i (by omega))]
theorem a_all_congr {bk ans ans' : Nat → Nat} {n : Nat} (h : ∀ i, i < n → ans i = ans' i) : a_all bk ans n = a_all bk ans' n := sumN_congr fun _ _ => a_lk_congr h
theorem BOK.lk {bk ans : Nat → Nat} (b : BOK bk) {q : Nat} (hq : q < 7) : ∀ {n : Nat}, (∀ i, i < n → ans i / 2 < 8) → a_lk bk ans q n ≤ 20 * 9 ^ n
  | 0, _ => by rw [a_lk]; have := b.w hq; omega
  | n + 1, h => by
    have h1 := b.lk hq (n := n) (fun i hi => h i (by omega))
    have h2 := a_fa_le (s := ans n % 2) (b.od (ans := ans) (n := n) (q := q) (h n (by omega)))
    rw [a_lk, Nat.pow_succ, ← Nat.mul_assoc]
    exact Nat.mul_le_mul h1 h2
theorem BOK.lk0 {bk ans : Nat → Nat} (b : BOK bk) {q : Nat} (hq : q < 7) (h2 : bk 1 < q) : ∀ {n : Nat}, a_lk bk ans q n = 0
  | 0 => b.w0 hq h2
  | n + 1 => by rw [a_lk, b.lk0 hq h2, Nat.zero_mul]
theorem a_p9 {n : Nat} (h : n ≤ 12) : 20 * 9 ^ n ≤ 20 * 282429536481 := Nat.mul_le_mul_left _ (Nat.le_trans (Nat.pow_le_pow_right (by decide) h) (by decide))
theorem BOK.lkb {bk ans : Nat → Nat} (b : BOK bk) {q n : Nat} (hq : q < 7) (hn : n ≤ 12) (h : ∀ i, i < n → ans i / 2 < 8) : a_lk bk ans q n ≤ 5648590729620 := Nat.le_trans (b.lk hq h) (Nat.le_trans (a_p9 hn) (by decide))
theorem BOK.allb {bk ans : Nat → Nat} (b : BOK bk) {n : Nat} (hn : n ≤ 12) (h : ∀ i, i < n → ans i / 2 < 8) : a_all bk ans n ≤ 39540135107340 := by
  have h1 : a_all bk ans n ≤ (bk 1 + 1) * 5648590729620 := sumN_le fun i hi => b.lkb (by have := b.2.1; omega) hn h
  have h2 : (bk 1 + 1) * 5648590729620 ≤ 7 * 5648590729620 := Nat.mul_le_mul_right _ (by have := b.2.1; omega)
  omega
/-- a night: at most 12 answers, each of a test that is there, and one can be somewhere -/
def NOK (bk ans : Nat → Nat) (n : Nat) : Prop := n ≤ 12 ∧ (∀ i, i < n → ans i < 2 * bk 0) ∧ 0 < a_all bk ans n
theorem NOK.t {bk ans : Nat → Nat} {n : Nat} (b : BOK bk) (h : NOK bk ans n) : ∀ i, i < n → ans i / 2 < 8 := fun i hi => by have := h.2.1 i hi; have := b.1; omega
/-- the sum over all seven places is that over those that are there -/
theorem BOK.all7 {bk ans : Nat → Nat} (b : BOK bk) {n : Nat} : sumN (fun q => a_lk bk ans q n) 7 = a_all bk ans n := sumN_ext (by have := b.2.1; omega) (fun i h1 h2 => b.lk0 h2 (by omega))
theorem BOK.room {bk ans : Nat → Nat} (b : BOK bk) (n : Nat) : 0 < a_w bk 0 := by have := b.2.2.1.1; exact this
theorem a_all_room {bk ans : Nat → Nat} {n : Nat} : a_lk bk ans 0 n ≤ a_all bk ans n := sumN_ge (f := fun q => a_lk bk ans q n) (by omega)
theorem a_all_pl {bk ans : Nat → Nat} {n q : Nat} (h : q ≤ bk 1) : a_lk bk ans q n ≤ a_all bk ans n := sumN_ge (f := fun q => a_lk bk ans q n) (by omega)
theorem BOK.new {bk ans : Nat → Nat} (b : BOK bk) : NOK bk ans 0 := ⟨by omega, fun i h => absurd h (Nat.not_lt_zero _), Nat.lt_of_lt_of_le b.2.2.1.1 (a_all_room (n := 0))⟩
