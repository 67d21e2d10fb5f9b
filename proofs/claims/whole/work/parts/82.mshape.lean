/-! the reference's heap: its shape (object 0, its arrays 1 to 22) -/
def mK : Nat → Nat := fun o => match o with
  | 0 => 11
  | 1 => 12
  | 2 => 13
  | 3 => 13
  | 4 => 13
  | 5 => 14
  | 6 => 14
  | 7 => 14
  | 8 => 13
  | 9 => 13
  | 10 => 14
  | 11 => 13
  | 12 => 12
  | 13 => 13
  | 14 => 13
  | 15 => 13
  | 16 => 13
  | 17 => 13
  | 18 => 13
  | 19 => 15
  | 20 => 13
  | 21 => 14
  | 22 => 15
  | _ => 0
def mN : Nat → Nat := fun o => match o with
  | 0 => 0
  | 1 => 940
  | 2 => 357
  | 3 => 36
  | 4 => 135
  | 5 => 28
  | 6 => 22
  | 7 => 7
  | 8 => 104
  | 9 => 13
  | 10 => 729
  | 11 => 729
  | 12 => 400
  | 13 => 64
  | 14 => 124
  | 15 => 4
  | 16 => 4
  | 17 => 3
  | 18 => 45
  | 19 => 45
  | 20 => 714
  | 21 => 28
  | 22 => 2
  | _ => 0
def mR : Nat → Option Nat := fun o => match o with
  | 1 => some 1
  | 6 => some 2
  | 7 => some 3
  | 8 => some 4
  | 9 => some 5
  | 10 => some 6
  | 21 => some 7
  | 22 => some 8
  | 23 => some 9
  | 25 => some 10
  | 26 => some 11
  | 29 => some 12
  | 30 => some 13
  | 32 => some 14
  | 33 => some 15
  | 34 => some 16
  | 43 => some 17
  | 47 => some 18
  | 53 => some 19
  | 54 => some 20
  | 55 => some 21
  | 56 => some 22
  | _ => none
def SM (h : z_T) : Prop := 23 ≤ z_n h ∧ (∀ o, o < 23 → z_K h o = mK o ∧ z_N h o = mN o) ∧ ∀ k a, mR k = some a → z_R h 0 k = some a
theorem SM.ok {h : z_T} (s : SM h) {o kd : Nat} (h1 : o < 23) (h2 : mK o = kd) : z_ok h o kd = true := by
  unfold z_ok
  rw [(s.2.1 o h1).1, h2]
  simp
  have := s.1
  omega
theorem SM_I {h : z_T} {o k : Nat} {v : Int32} : SM (z_sI h o k v) = SM h := rfl
theorem SM_L {h : z_T} {o k : Nat} {v : Int64} : SM (z_sL h o k v) = SM h := rfl
/-- nothing but what the reference writes there: C says what is kept -/
def m_fr (C : Nat → Nat → Prop) (h h' : z_T) : Prop := h'.2.2 = h.2.2 ∧ (∀ o k, C o k → z_I h' o k = z_I h o k) ∧ ∀ o k, C o k → z_L h' o k = z_L h o k
theorem m_fr.s {C : Nat → Nat → Prop} {h h' : z_T} (f : m_fr C h h') (s : SM h) : SM h' := by
  have e := f.1
  have e1 : z_R h' = z_R h := congrArg (fun q => q.1) e
  have e2 : z_K h' = z_K h := congrArg (fun q => q.2.1) e
  have e3 : z_N h' = z_N h := congrArg (fun q => q.2.2.1) e
  have e4 : z_n h' = z_n h := congrArg (fun q => q.2.2.2) e
  unfold SM
  rw [e1, e2, e3, e4]
  exact s
theorem m_fr.I {C : Nat → Nat → Prop} {h h' : z_T} (f : m_fr C h h') (o k : Nat) (c : C o k) : z_I h' o k = z_I h o k := f.2.1 o k c
theorem m_fr.L {C : Nat → Nat → Prop} {h h' : z_T} (f : m_fr C h h') (o k : Nat) (c : C o k) : z_L h' o k = z_L h o k := f.2.2 o k c
theorem m_fr.rf {C : Nat → Nat → Prop} {h : z_T} : m_fr C h h := ⟨rfl, fun _ _ _ => rfl, fun _ _ _ => rfl⟩
theorem m_fr.tr {C : Nat → Nat → Prop} {h h' h'' : z_T} (f : m_fr C h h') (g : m_fr C h' h'') : m_fr C h h'' := ⟨g.1.trans f.1, fun o k c => (g.2.1 o k c).trans (f.2.1 o k c), fun o k c => (g.2.2 o k c).trans (f.2.2 o k c)⟩
theorem m_fr.w {C C' : Nat → Nat → Prop} {h h' : z_T} (f : m_fr C h h') (hc : ∀ o k, C' o k → C o k) : m_fr C' h h' := ⟨f.1, fun o k c => f.2.1 o k (hc o k c), fun o k c => f.2.2 o k (hc o k c)⟩
theorem m_fr.sI {C : Nat → Nat → Prop} {h h' : z_T} {a b : Nat} {v : Int32} (f : m_fr C h h') (hc : ¬ C a b) : m_fr C h (z_sI h' a b v) := by
  refine ⟨f.1, fun o k c => ?_, f.2.2⟩
  rw [← f.2.1 o k c]
  refine q_In ?_
  by_cases e : o = a
  · by_cases e2 : k = b
    · subst e e2; exact absurd c hc
    · exact Or.inr e2
  · exact Or.inl e
theorem m_fr.sL {C : Nat → Nat → Prop} {h h' : z_T} {a b : Nat} {v : Int64} (f : m_fr C h h') (hc : ¬ C a b) : m_fr C h (z_sL h' a b v) := by
  refine ⟨f.1, f.2.1, fun o k c => ?_⟩
  rw [← f.2.2 o k c]
  refine q_Ln ?_
  by_cases e : o = a
  · by_cases e2 : k = b
    · subst e e2; exact absurd c hc
    · exact Or.inr e2
  · exact Or.inl e
theorem p_bis {A T : Type} {a : A} {k : A → Option T} : y_bi (some a) k = k a := rfl
theorem p_gdt {T : Type} {k : Option T} : y_gd true k = k := rfl
theorem p_un {S T : Type} {body : S → Option (S ⊕ T)} {s : S} {Q : T → Prop} (h : p_W (body s) (p_S (fun s' => p_W (y_lp body s') Q) Q)) : p_W (y_lp body s) Q := by
  obtain ⟨w, e, q⟩ := h
  cases w with
  | inl s' =>
    obtain ⟨v, e1, q1⟩ := q
    obtain ⟨n, e2⟩ := y_lp_e e1
    refine ⟨v, y_lp_of (n := n + 1) ?_, q1⟩
    unfold y_lpN
    rw [e]
    exact e2
  | inr t =>
    refine ⟨t, y_lp_of (n := 1) ?_, q⟩
    unfold y_lpN
    rw [e]
theorem mk0 {h : z_T} (s : SM h) : z_ok h 0 11 = true := s.ok (by decide) rfl
theorem mk1 {h : z_T} (s : SM h) : z_ok h 1 12 = true := s.ok (by decide) rfl
theorem mk2 {h : z_T} (s : SM h) : z_ok h 2 13 = true := s.ok (by decide) rfl
theorem mk3 {h : z_T} (s : SM h) : z_ok h 3 13 = true := s.ok (by decide) rfl
theorem mk4 {h : z_T} (s : SM h) : z_ok h 4 13 = true := s.ok (by decide) rfl
theorem mk5 {h : z_T} (s : SM h) : z_ok h 5 14 = true := s.ok (by decide) rfl
theorem mk6 {h : z_T} (s : SM h) : z_ok h 6 14 = true := s.ok (by decide) rfl
theorem mk7 {h : z_T} (s : SM h) : z_ok h 7 14 = true := s.ok (by decide) rfl
theorem mk8 {h : z_T} (s : SM h) : z_ok h 8 13 = true := s.ok (by decide) rfl
theorem mk9 {h : z_T} (s : SM h) : z_ok h 9 13 = true := s.ok (by decide) rfl
theorem mk10 {h : z_T} (s : SM h) : z_ok h 10 14 = true := s.ok (by decide) rfl
theorem mk11 {h : z_T} (s : SM h) : z_ok h 11 13 = true := s.ok (by decide) rfl
theorem mk12 {h : z_T} (s : SM h) : z_ok h 12 12 = true := s.ok (by decide) rfl
theorem mk13 {h : z_T} (s : SM h) : z_ok h 13 13 = true := s.ok (by decide) rfl
theorem mk14 {h : z_T} (s : SM h) : z_ok h 14 13 = true := s.ok (by decide) rfl
theorem mk15 {h : z_T} (s : SM h) : z_ok h 15 13 = true := s.ok (by decide) rfl
theorem mk16 {h : z_T} (s : SM h) : z_ok h 16 13 = true := s.ok (by decide) rfl
theorem mk17 {h : z_T} (s : SM h) : z_ok h 17 13 = true := s.ok (by decide) rfl
theorem mk18 {h : z_T} (s : SM h) : z_ok h 18 13 = true := s.ok (by decide) rfl
theorem mk19 {h : z_T} (s : SM h) : z_ok h 19 15 = true := s.ok (by decide) rfl
theorem mk20 {h : z_T} (s : SM h) : z_ok h 20 13 = true := s.ok (by decide) rfl
theorem mk21 {h : z_T} (s : SM h) : z_ok h 21 14 = true := s.ok (by decide) rfl
theorem mk22 {h : z_T} (s : SM h) : z_ok h 22 15 = true := s.ok (by decide) rfl
theorem mn1 {h : z_T} (s : SM h) : z_N h 1 = 940 := (s.2.1 1 (by decide)).2
theorem mn2 {h : z_T} (s : SM h) : z_N h 2 = 357 := (s.2.1 2 (by decide)).2
theorem mn3 {h : z_T} (s : SM h) : z_N h 3 = 36 := (s.2.1 3 (by decide)).2
theorem mn4 {h : z_T} (s : SM h) : z_N h 4 = 135 := (s.2.1 4 (by decide)).2
theorem mn5 {h : z_T} (s : SM h) : z_N h 5 = 28 := (s.2.1 5 (by decide)).2
theorem mn6 {h : z_T} (s : SM h) : z_N h 6 = 22 := (s.2.1 6 (by decide)).2
theorem mn7 {h : z_T} (s : SM h) : z_N h 7 = 7 := (s.2.1 7 (by decide)).2
theorem mn8 {h : z_T} (s : SM h) : z_N h 8 = 104 := (s.2.1 8 (by decide)).2
theorem mn9 {h : z_T} (s : SM h) : z_N h 9 = 13 := (s.2.1 9 (by decide)).2
theorem mn10 {h : z_T} (s : SM h) : z_N h 10 = 729 := (s.2.1 10 (by decide)).2
theorem mn11 {h : z_T} (s : SM h) : z_N h 11 = 729 := (s.2.1 11 (by decide)).2
theorem mn12 {h : z_T} (s : SM h) : z_N h 12 = 400 := (s.2.1 12 (by decide)).2
theorem mn13 {h : z_T} (s : SM h) : z_N h 13 = 64 := (s.2.1 13 (by decide)).2
theorem mn14 {h : z_T} (s : SM h) : z_N h 14 = 124 := (s.2.1 14 (by decide)).2
theorem mn15 {h : z_T} (s : SM h) : z_N h 15 = 4 := (s.2.1 15 (by decide)).2
theorem mn16 {h : z_T} (s : SM h) : z_N h 16 = 4 := (s.2.1 16 (by decide)).2
theorem mn17 {h : z_T} (s : SM h) : z_N h 17 = 3 := (s.2.1 17 (by decide)).2
theorem mn18 {h : z_T} (s : SM h) : z_N h 18 = 45 := (s.2.1 18 (by decide)).2
theorem mn19 {h : z_T} (s : SM h) : z_N h 19 = 45 := (s.2.1 19 (by decide)).2
theorem mn20 {h : z_T} (s : SM h) : z_N h 20 = 714 := (s.2.1 20 (by decide)).2
theorem mn21 {h : z_T} (s : SM h) : z_N h 21 = 28 := (s.2.1 21 (by decide)).2
theorem mn22 {h : z_T} (s : SM h) : z_N h 22 = 2 := (s.2.1 22 (by decide)).2
theorem mr1 {h : z_T} (s : SM h) : z_R h 0 1 = some 1 := s.2.2 1 1 rfl
theorem mr6 {h : z_T} (s : SM h) : z_R h 0 6 = some 2 := s.2.2 6 2 rfl
theorem mr7 {h : z_T} (s : SM h) : z_R h 0 7 = some 3 := s.2.2 7 3 rfl
theorem mr8 {h : z_T} (s : SM h) : z_R h 0 8 = some 4 := s.2.2 8 4 rfl
theorem mr9 {h : z_T} (s : SM h) : z_R h 0 9 = some 5 := s.2.2 9 5 rfl
theorem mr10 {h : z_T} (s : SM h) : z_R h 0 10 = some 6 := s.2.2 10 6 rfl
theorem mr21 {h : z_T} (s : SM h) : z_R h 0 21 = some 7 := s.2.2 21 7 rfl
theorem mr22 {h : z_T} (s : SM h) : z_R h 0 22 = some 8 := s.2.2 22 8 rfl
theorem mr23 {h : z_T} (s : SM h) : z_R h 0 23 = some 9 := s.2.2 23 9 rfl
theorem mr25 {h : z_T} (s : SM h) : z_R h 0 25 = some 10 := s.2.2 25 10 rfl
theorem mr26 {h : z_T} (s : SM h) : z_R h 0 26 = some 11 := s.2.2 26 11 rfl
theorem mr29 {h : z_T} (s : SM h) : z_R h 0 29 = some 12 := s.2.2 29 12 rfl
theorem mr30 {h : z_T} (s : SM h) : z_R h 0 30 = some 13 := s.2.2 30 13 rfl
theorem mr32 {h : z_T} (s : SM h) : z_R h 0 32 = some 14 := s.2.2 32 14 rfl
theorem mr33 {h : z_T} (s : SM h) : z_R h 0 33 = some 15 := s.2.2 33 15 rfl
theorem mr34 {h : z_T} (s : SM h) : z_R h 0 34 = some 16 := s.2.2 34 16 rfl
theorem mr43 {h : z_T} (s : SM h) : z_R h 0 43 = some 17 := s.2.2 43 17 rfl
theorem mr47 {h : z_T} (s : SM h) : z_R h 0 47 = some 18 := s.2.2 47 18 rfl
theorem mr53 {h : z_T} (s : SM h) : z_R h 0 53 = some 19 := s.2.2 53 19 rfl
theorem mr54 {h : z_T} (s : SM h) : z_R h 0 54 = some 20 := s.2.2 54 20 rfl
theorem mr55 {h : z_T} (s : SM h) : z_R h 0 55 = some 21 := s.2.2 55 21 rfl
theorem mr56 {h : z_T} (s : SM h) : z_R h 0 56 = some 22 := s.2.2 56 22 rfl
/-- none: minus 1 -/
def m1 : Int32 := -1
theorem r_m1 : -nI 1 = m1 := rfl
theorem r_m1n {n : Nat} (h : n < 2 ^ 31) : (nI n = m1) = False := by
  simp only [eq_iff_iff, iff_false]
  exact r_neg1 h
theorem r_m1n' {n : Nat} (h : n < 2 ^ 31) : (m1 = nI n) = False := by
  simp only [eq_iff_iff, iff_false]
  exact fun e => r_neg1 h e.symm
theorem r_m1lt {n : Nat} (h : n < 2 ^ 31) : (m1 < nI n) = True := by
  simp only [eq_iff_iff, iff_true]
  rw [Int32.lt_iff_toInt_lt, nI_toInt h, show m1.toInt = -1 from rfl]
  omega
theorem r_m1nlt {n : Nat} (h : n < 2 ^ 31) : (nI n < m1) = False := by
  simp only [eq_iff_iff, iff_false]
  rw [Int32.lt_iff_toInt_lt, nI_toInt h, show m1.toInt = -1 from rfl]
  omega
theorem r_m1le {n : Nat} (h : n < 2 ^ 31) : (m1 ≤ nI n) = True := by
  simp only [eq_iff_iff, iff_true]
  rw [Int32.le_iff_toInt_le, nI_toInt h, show m1.toInt = -1 from rfl]
  omega
theorem r_m1nle {n : Nat} (h : n < 2 ^ 31) : (nI n ≤ m1) = False := by
  simp only [eq_iff_iff, iff_false]
  rw [Int32.le_iff_toInt_le, nI_toInt h, show m1.toInt = -1 from rfl]
  omega
theorem s_c0 {x y : Int64} : (lg_cmp x y = nI 0) = (x = y) := propext (r_cmp0 x y)
theorem s_cg0 {x y : Int64} : (nI 0 < lg_cmp x y) = (y < x) := propext (r_cmpg0 x y)
theorem s_cl0 {x y : Int64} : (lg_cmp x y < nI 0) = (x < y) := propext (r_cmpl0 x y)
theorem s_cge {x y : Int64} : (nI 0 ≤ lg_cmp x y) = (y ≤ x) := propext (lg_cmp_ge x y)
theorem s_cle {x y : Int64} : (lg_cmp x y ≤ nI 0) = (x ≤ y) := propext (lg_cmp_le x y)
theorem r_2 : (!decide ((2 : Nat) = 0)) = true := rfl
theorem r_3 : (!decide ((3 : Nat) = 0)) = true := rfl
theorem r_md {a d : Nat} : nI a - nI (a / d) * nI d = nI (a % d) := by
  have h := Nat.div_add_mod a d
  have h3 : a / d * d ≤ a := Nat.div_mul_le_self a d
  rw [pk_mul, pk_sub h3]
  congr 1
  rw [Nat.mul_comm d] at h
  omega
theorem r_ge (x : Int32) (n : Nat) : (∃ j : Nat, j < n ∧ j < 2 ^ 31 ∧ x = nI j) ∨ x < nI 0 ∨ (∃ j : Nat, n ≤ j ∧ j < 2 ^ 31 ∧ x = nI j) := r_in x n
