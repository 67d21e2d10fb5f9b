/-! the class's heap: its shape (object 0, what its constructor makes 1 to 81, the law's own row 82) -/
def xK : Nat → Nat := fun o => match o with
  | 0 => 10
  | 1 => 0
  | 2 => 13
  | 3 => 14
  | 4 => 13
  | 5 => 13
  | 6 => 14
  | 7 => 13
  | 8 => 13
  | 9 => 1
  | 10 => 12
  | 11 => 1
  | 12 => 12
  | 13 => 6
  | 14 => 8
  | 15 => 2
  | 16 => 13
  | 17 => 13
  | 18 => 14
  | 19 => 17
  | 20 => 8
  | 21 => 2
  | 22 => 13
  | 23 => 13
  | 24 => 14
  | 25 => 8
  | 26 => 2
  | 27 => 13
  | 28 => 13
  | 29 => 14
  | 30 => 4
  | 31 => 16
  | 32 => 2
  | 33 => 13
  | 34 => 13
  | 35 => 14
  | 36 => 2
  | 37 => 13
  | 38 => 13
  | 39 => 14
  | 40 => 2
  | 41 => 13
  | 42 => 13
  | 43 => 14
  | 44 => 2
  | 45 => 13
  | 46 => 13
  | 47 => 14
  | 48 => 2
  | 49 => 13
  | 50 => 13
  | 51 => 14
  | 52 => 2
  | 53 => 13
  | 54 => 13
  | 55 => 14
  | 56 => 2
  | 57 => 13
  | 58 => 13
  | 59 => 14
  | 60 => 2
  | 61 => 13
  | 62 => 13
  | 63 => 14
  | 64 => 2
  | 65 => 13
  | 66 => 13
  | 67 => 14
  | 68 => 5
  | 69 => 18
  | 70 => 14
  | 71 => 14
  | 72 => 14
  | 73 => 14
  | 74 => 14
  | 75 => 14
  | 76 => 13
  | 77 => 15
  | 78 => 15
  | 79 => 3
  | 80 => 13
  | 81 => 13
  | 82 => 14
  | _ => 0
def xN : Nat → Nat := fun o => match o with
  | 2 => 6
  | 3 => 8
  | 4 => 8
  | 5 => 8
  | 6 => 6
  | 7 => 7
  | 8 => 7
  | 10 => 940
  | 12 => 940
  | 16 => 12
  | 17 => 8
  | 18 => 7
  | 19 => 2
  | 22 => 12
  | 23 => 8
  | 24 => 7
  | 27 => 12
  | 28 => 8
  | 29 => 7
  | 31 => 8
  | 33 => 12
  | 34 => 8
  | 35 => 7
  | 37 => 12
  | 38 => 8
  | 39 => 7
  | 41 => 12
  | 42 => 8
  | 43 => 7
  | 45 => 12
  | 46 => 8
  | 47 => 7
  | 49 => 12
  | 50 => 8
  | 51 => 7
  | 53 => 12
  | 54 => 8
  | 55 => 7
  | 57 => 12
  | 58 => 8
  | 59 => 7
  | 61 => 12
  | 62 => 8
  | 63 => 7
  | 65 => 12
  | 66 => 8
  | 67 => 7
  | 69 => 5
  | 70 => 7
  | 71 => 7
  | 72 => 7
  | 73 => 7
  | 74 => 7
  | 75 => 729
  | 76 => 729
  | 77 => 729
  | 78 => 729
  | 80 => 40
  | 81 => 40
  | 82 => 1
  | _ => 0
def xRl : List (Nat × Nat × Nat) := [(0, 0, 9), (0, 1, 11), (0, 2, 13), (0, 3, 14), (0, 4, 19), (0, 5, 30), (0, 6, 64), (0, 7, 68), (0, 8, 79), (1, 4, 2), (1, 5, 3), (1, 6, 4), (1, 7, 5), (1, 8, 6), (1, 9, 7), (1, 10, 8), (9, 0, 10), (11, 0, 12), (13, 0, 9), (14, 0, 15), (15, 2, 16), (15, 3, 17), (15, 4, 18), (19, 0, 20), (19, 1, 25), (20, 0, 21), (21, 2, 22), (21, 3, 23), (21, 4, 24), (25, 0, 26), (26, 2, 27), (26, 3, 28), (26, 4, 29), (30, 0, 31), (31, 0, 32), (31, 1, 36), (31, 2, 40), (31, 3, 44), (31, 4, 48), (31, 5, 52), (31, 6, 56), (31, 7, 60), (32, 2, 33), (32, 3, 34), (32, 4, 35), (36, 2, 37), (36, 3, 38), (36, 4, 39), (40, 2, 41), (40, 3, 42), (40, 4, 43), (44, 2, 45), (44, 3, 46), (44, 4, 47), (48, 2, 49), (48, 3, 50), (48, 4, 51), (52, 2, 53), (52, 3, 54), (52, 4, 55), (56, 2, 57), (56, 3, 58), (56, 4, 59), (60, 2, 61), (60, 3, 62), (60, 4, 63), (64, 2, 65), (64, 3, 66), (64, 4, 67), (68, 0, 69), (68, 1, 75), (68, 2, 76), (68, 3, 77), (68, 4, 78), (69, 0, 70), (69, 1, 71), (69, 2, 72), (69, 3, 73), (69, 4, 74), (79, 0, 80), (79, 1, 81)]
/-- the references that go on changing -/
def xM (o k : Nat) : Prop := (o = 13 ∧ k = 7) ∨ (k = 0 ∧ (o = 15 ∨ o = 21 ∨ o = 26 ∨ o = 64 ∨ (32 ≤ o ∧ o < 64 ∧ o % 4 = 0))) ∨ ((o = 14 ∨ o = 20 ∨ o = 25) ∧ (k = 1 ∨ k = 2)) ∨ (o = 68 ∧ k = 5)
def SX (h : z_T) : Prop := 83 ≤ z_n h ∧ (∀ o, o < 83 → z_K h o = xK o ∧ z_N h o = xN o) ∧ ∀ q, q ∈ xRl → z_R h q.1 q.2.1 = some q.2.2
theorem SX.ok {h : z_T} (s : SX h) {o kd : Nat} (h1 : o < 83) (h2 : xK o = kd) : z_ok h o kd = true := by
  unfold z_ok
  rw [(s.2.1 o h1).1, h2]
  simp
  have := s.1
  omega
theorem SX.R {h : z_T} (s : SX h) (i : Nat) {o k a : Nat} (e : xRl[i]? = some (o, k, a)) : z_R h o k = some a := s.2.2 (o, k, a) (List.mem_of_getElem? e)
theorem SX_I {h : z_T} {o k : Nat} {v : Int32} : SX (z_sI h o k v) = SX h := rfl
theorem SX_L {h : z_T} {o k : Nat} {v : Int64} : SX (z_sL h o k v) = SX h := rfl
theorem xRl_ok : xRl.all (fun q => decide (q.1 < 83 ∧ ¬ ((q.1 = 13 ∧ q.2.1 = 7) ∨ (q.2.1 = 0 ∧ (q.1 = 15 ∨ q.1 = 21 ∨ q.1 = 26 ∨ q.1 = 64 ∨ (32 ≤ q.1 ∧ q.1 < 64 ∧ q.1 % 4 = 0))) ∨ ((q.1 = 14 ∨ q.1 = 20 ∨ q.1 = 25) ∧ (q.2.1 = 1 ∨ q.2.1 = 2)) ∨ (q.1 = 68 ∧ q.2.1 = 5)))) = true := by decide +kernel
theorem SX_R {h : z_T} {o k : Nat} {v : Option Nat} (hm : xM o k ∨ 83 ≤ o) (s : SX h) : SX (z_sR h o k v) := by
  refine ⟨s.1, s.2.1, fun q hq => ?_⟩
  have h1 := List.all_eq_true.mp xRl_ok q hq
  rw [decide_eq_true_eq] at h1
  have h2 := s.2.2 q hq
  rw [← h2]
  refine q_Rn ?_
  by_cases e : q.1 = o
  · by_cases e2 : q.2.1 = k
    · subst e e2
      rcases hm with hm | hm
      · exact absurd hm h1.2
      · have := h1.1; omega
    · exact Or.inr e2
  · exact Or.inl e
/-- nothing but what C leaves out is written; new things may come -/
def x_fr (C : Nat → Nat → Prop) (h h' : z_T) : Prop := z_n h ≤ z_n h' ∧ ∀ o, o < z_n h → (z_K h' o = z_K h o ∧ z_N h' o = z_N h o) ∧ ∀ k, (C o k → z_I h' o k = z_I h o k ∧ z_L h' o k = z_L h o k ∧ z_R h' o k = z_R h o k) ∧ (¬ xM o k → z_R h' o k = z_R h o k)
theorem x_fr.s {C : Nat → Nat → Prop} {h h' : z_T} (f : x_fr C h h') (s : SX h) : SX h' := by
  have h0 := s.1
  refine ⟨Nat.le_trans s.1 f.1, fun o ho => ?_, fun q hq => ?_⟩
  · rw [(f.2 o (by omega)).1.1, (f.2 o (by omega)).1.2]
    exact s.2.1 o ho
  · have h1 := List.all_eq_true.mp xRl_ok q hq
    rw [decide_eq_true_eq] at h1
    rw [((f.2 q.1 (by have := h1.1; omega)).2 q.2.1).2 h1.2]
    exact s.2.2 q hq
theorem x_fr.I {C : Nat → Nat → Prop} {h h' : z_T} (f : x_fr C h h') (o k : Nat) (ho : o < z_n h) (c : C o k) : z_I h' o k = z_I h o k := (((f.2 o ho).2 k).1 c).1
theorem x_fr.L {C : Nat → Nat → Prop} {h h' : z_T} (f : x_fr C h h') (o k : Nat) (ho : o < z_n h) (c : C o k) : z_L h' o k = z_L h o k := (((f.2 o ho).2 k).1 c).2.1
theorem x_fr.R {C : Nat → Nat → Prop} {h h' : z_T} (f : x_fr C h h') (o k : Nat) (ho : o < z_n h) (c : C o k) : z_R h' o k = z_R h o k := (((f.2 o ho).2 k).1 c).2.2
theorem x_fr.rf {C : Nat → Nat → Prop} {h : z_T} : x_fr C h h := ⟨Nat.le_refl _, fun _ _ => ⟨⟨rfl, rfl⟩, fun _ => ⟨fun _ => ⟨rfl, rfl, rfl⟩, fun _ => rfl⟩⟩⟩
theorem x_fr.tr {C : Nat → Nat → Prop} {h h' h'' : z_T} (f : x_fr C h h') (g : x_fr C h' h'') : x_fr C h h'' := by
  refine ⟨Nat.le_trans f.1 g.1, fun o ho => ?_⟩
  have a := f.2 o ho
  have b := g.2 o (Nat.lt_of_lt_of_le ho f.1)
  refine ⟨⟨b.1.1.trans a.1.1, b.1.2.trans a.1.2⟩, fun k => ⟨fun c => ?_, fun c => ((b.2 k).2 c).trans ((a.2 k).2 c)⟩⟩
  have a1 := (a.2 k).1 c
  have b1 := (b.2 k).1 c
  exact ⟨b1.1.trans a1.1, b1.2.1.trans a1.2.1, b1.2.2.trans a1.2.2⟩
theorem x_fr.w {C C' : Nat → Nat → Prop} {h h' : z_T} (f : x_fr C h h') (hc : ∀ o k, o < z_n h → C' o k → C o k) : x_fr C' h h' := ⟨f.1, fun o ho => ⟨(f.2 o ho).1, fun k => ⟨fun c => ((f.2 o ho).2 k).1 (hc o k ho c), ((f.2 o ho).2 k).2⟩⟩⟩
theorem x_fr.sI {C : Nat → Nat → Prop} {h h' : z_T} {a b : Nat} {v : Int32} (f : x_fr C h h') (hc : a < z_n h → ¬ C a b) : x_fr C h (z_sI h' a b v) := by
  refine ⟨f.1, fun o ho => ⟨(f.2 o ho).1, fun k => ⟨fun c => ?_, ((f.2 o ho).2 k).2⟩⟩⟩
  have g := ((f.2 o ho).2 k).1 c
  refine ⟨?_, g.2⟩
  rw [← g.1]
  refine q_In ?_
  by_cases e : o = a
  · by_cases e2 : k = b
    · subst e e2; exact absurd c (hc ho)
    · exact Or.inr e2
  · exact Or.inl e
theorem x_fr.sL {C : Nat → Nat → Prop} {h h' : z_T} {a b : Nat} {v : Int64} (f : x_fr C h h') (hc : a < z_n h → ¬ C a b) : x_fr C h (z_sL h' a b v) := by
  refine ⟨f.1, fun o ho => ⟨(f.2 o ho).1, fun k => ⟨fun c => ?_, ((f.2 o ho).2 k).2⟩⟩⟩
  have g := ((f.2 o ho).2 k).1 c
  refine ⟨g.1, ?_, g.2.2⟩
  rw [← g.2.1]
  refine q_Ln ?_
  by_cases e : o = a
  · by_cases e2 : k = b
    · subst e e2; exact absurd c (hc ho)
    · exact Or.inr e2
  · exact Or.inl e
theorem x_fr.sR {C : Nat → Nat → Prop} {h h' : z_T} {a b : Nat} {v : Option Nat} (f : x_fr C h h') (hc : a < z_n h → ¬ C a b ∧ xM a b) : x_fr C h (z_sR h' a b v) := by
  refine ⟨f.1, fun o ho => ⟨(f.2 o ho).1, fun k => ⟨fun c => ?_, fun c => ?_⟩⟩⟩
  · have g := ((f.2 o ho).2 k).1 c
    refine ⟨g.1, g.2.1, ?_⟩
    rw [← g.2.2]
    refine q_Rn ?_
    by_cases e : o = a
    · by_cases e2 : k = b
      · subst e e2; exact absurd c (hc ho).1
      · exact Or.inr e2
    · exact Or.inl e
  · rw [← ((f.2 o ho).2 k).2 c]
    refine q_Rn ?_
    by_cases e : o = a
    · by_cases e2 : k = b
      · subst e e2; exact absurd (hc ho).2 c
      · exact Or.inr e2
    · exact Or.inl e
theorem x_fr.al {C : Nat → Nat → Prop} {h h' : z_T} {kd len : Nat} (f : x_fr C h h') : x_fr C h (z_al h' kd len) := by
  refine ⟨Nat.le_succ_of_le f.1, fun o ho => ?_⟩
  have ho' : o ≠ z_n h' := by have := f.1; omega
  have eI : z_I (z_al h' kd len) o = z_I h' o := if_neg ho'
  have eL : z_L (z_al h' kd len) o = z_L h' o := if_neg ho'
  have eR : z_R (z_al h' kd len) o = z_R h' o := if_neg ho'
  have eK : z_K (z_al h' kd len) o = z_K h' o := if_neg ho'
  have eN : z_N (z_al h' kd len) o = z_N h' o := if_neg ho'
  rw [eI, eL, eR, eK, eN]
  exact f.2 o ho
theorem x_ok {C : Nat → Nat → Prop} {h h' : z_T} (f : x_fr C h h') {o kd : Nat} (g : z_ok h o kd = true) : z_ok h' o kd = true := by
  have h1 := z_ok_lt g
  have h2 := z_ok_K g
  unfold z_ok
  rw [(f.2 o h1).1.1, h2]
  have := f.1
  simp
  omega
theorem xk0 {h : z_T} (s : SX h) : z_ok h 0 10 = true := s.ok (by decide) rfl
theorem xk1 {h : z_T} (s : SX h) : z_ok h 1 0 = true := s.ok (by decide) rfl
theorem xk2 {h : z_T} (s : SX h) : z_ok h 2 13 = true := s.ok (by decide) rfl
theorem xk3 {h : z_T} (s : SX h) : z_ok h 3 14 = true := s.ok (by decide) rfl
theorem xk4 {h : z_T} (s : SX h) : z_ok h 4 13 = true := s.ok (by decide) rfl
theorem xk5 {h : z_T} (s : SX h) : z_ok h 5 13 = true := s.ok (by decide) rfl
theorem xk6 {h : z_T} (s : SX h) : z_ok h 6 14 = true := s.ok (by decide) rfl
theorem xk7 {h : z_T} (s : SX h) : z_ok h 7 13 = true := s.ok (by decide) rfl
theorem xk8 {h : z_T} (s : SX h) : z_ok h 8 13 = true := s.ok (by decide) rfl
theorem xk9 {h : z_T} (s : SX h) : z_ok h 9 1 = true := s.ok (by decide) rfl
theorem xk10 {h : z_T} (s : SX h) : z_ok h 10 12 = true := s.ok (by decide) rfl
theorem xk11 {h : z_T} (s : SX h) : z_ok h 11 1 = true := s.ok (by decide) rfl
theorem xk12 {h : z_T} (s : SX h) : z_ok h 12 12 = true := s.ok (by decide) rfl
theorem xk13 {h : z_T} (s : SX h) : z_ok h 13 6 = true := s.ok (by decide) rfl
theorem xk14 {h : z_T} (s : SX h) : z_ok h 14 8 = true := s.ok (by decide) rfl
theorem xk15 {h : z_T} (s : SX h) : z_ok h 15 2 = true := s.ok (by decide) rfl
theorem xk16 {h : z_T} (s : SX h) : z_ok h 16 13 = true := s.ok (by decide) rfl
theorem xk17 {h : z_T} (s : SX h) : z_ok h 17 13 = true := s.ok (by decide) rfl
theorem xk18 {h : z_T} (s : SX h) : z_ok h 18 14 = true := s.ok (by decide) rfl
theorem xk19 {h : z_T} (s : SX h) : z_ok h 19 17 = true := s.ok (by decide) rfl
theorem xk20 {h : z_T} (s : SX h) : z_ok h 20 8 = true := s.ok (by decide) rfl
theorem xk21 {h : z_T} (s : SX h) : z_ok h 21 2 = true := s.ok (by decide) rfl
theorem xk22 {h : z_T} (s : SX h) : z_ok h 22 13 = true := s.ok (by decide) rfl
theorem xk23 {h : z_T} (s : SX h) : z_ok h 23 13 = true := s.ok (by decide) rfl
theorem xk24 {h : z_T} (s : SX h) : z_ok h 24 14 = true := s.ok (by decide) rfl
theorem xk25 {h : z_T} (s : SX h) : z_ok h 25 8 = true := s.ok (by decide) rfl
theorem xk26 {h : z_T} (s : SX h) : z_ok h 26 2 = true := s.ok (by decide) rfl
theorem xk27 {h : z_T} (s : SX h) : z_ok h 27 13 = true := s.ok (by decide) rfl
theorem xk28 {h : z_T} (s : SX h) : z_ok h 28 13 = true := s.ok (by decide) rfl
theorem xk29 {h : z_T} (s : SX h) : z_ok h 29 14 = true := s.ok (by decide) rfl
theorem xk30 {h : z_T} (s : SX h) : z_ok h 30 4 = true := s.ok (by decide) rfl
theorem xk31 {h : z_T} (s : SX h) : z_ok h 31 16 = true := s.ok (by decide) rfl
theorem xk32 {h : z_T} (s : SX h) : z_ok h 32 2 = true := s.ok (by decide) rfl
theorem xk33 {h : z_T} (s : SX h) : z_ok h 33 13 = true := s.ok (by decide) rfl
theorem xk34 {h : z_T} (s : SX h) : z_ok h 34 13 = true := s.ok (by decide) rfl
theorem xk35 {h : z_T} (s : SX h) : z_ok h 35 14 = true := s.ok (by decide) rfl
theorem xk36 {h : z_T} (s : SX h) : z_ok h 36 2 = true := s.ok (by decide) rfl
theorem xk37 {h : z_T} (s : SX h) : z_ok h 37 13 = true := s.ok (by decide) rfl
theorem xk38 {h : z_T} (s : SX h) : z_ok h 38 13 = true := s.ok (by decide) rfl
theorem xk39 {h : z_T} (s : SX h) : z_ok h 39 14 = true := s.ok (by decide) rfl
theorem xk40 {h : z_T} (s : SX h) : z_ok h 40 2 = true := s.ok (by decide) rfl
theorem xk41 {h : z_T} (s : SX h) : z_ok h 41 13 = true := s.ok (by decide) rfl
theorem xk42 {h : z_T} (s : SX h) : z_ok h 42 13 = true := s.ok (by decide) rfl
theorem xk43 {h : z_T} (s : SX h) : z_ok h 43 14 = true := s.ok (by decide) rfl
theorem xk44 {h : z_T} (s : SX h) : z_ok h 44 2 = true := s.ok (by decide) rfl
theorem xk45 {h : z_T} (s : SX h) : z_ok h 45 13 = true := s.ok (by decide) rfl
theorem xk46 {h : z_T} (s : SX h) : z_ok h 46 13 = true := s.ok (by decide) rfl
theorem xk47 {h : z_T} (s : SX h) : z_ok h 47 14 = true := s.ok (by decide) rfl
theorem xk48 {h : z_T} (s : SX h) : z_ok h 48 2 = true := s.ok (by decide) rfl
theorem xk49 {h : z_T} (s : SX h) : z_ok h 49 13 = true := s.ok (by decide) rfl
theorem xk50 {h : z_T} (s : SX h) : z_ok h 50 13 = true := s.ok (by decide) rfl
theorem xk51 {h : z_T} (s : SX h) : z_ok h 51 14 = true := s.ok (by decide) rfl
theorem xk52 {h : z_T} (s : SX h) : z_ok h 52 2 = true := s.ok (by decide) rfl
theorem xk53 {h : z_T} (s : SX h) : z_ok h 53 13 = true := s.ok (by decide) rfl
theorem xk54 {h : z_T} (s : SX h) : z_ok h 54 13 = true := s.ok (by decide) rfl
theorem xk55 {h : z_T} (s : SX h) : z_ok h 55 14 = true := s.ok (by decide) rfl
theorem xk56 {h : z_T} (s : SX h) : z_ok h 56 2 = true := s.ok (by decide) rfl
theorem xk57 {h : z_T} (s : SX h) : z_ok h 57 13 = true := s.ok (by decide) rfl
theorem xk58 {h : z_T} (s : SX h) : z_ok h 58 13 = true := s.ok (by decide) rfl
theorem xk59 {h : z_T} (s : SX h) : z_ok h 59 14 = true := s.ok (by decide) rfl
theorem xk60 {h : z_T} (s : SX h) : z_ok h 60 2 = true := s.ok (by decide) rfl
theorem xk61 {h : z_T} (s : SX h) : z_ok h 61 13 = true := s.ok (by decide) rfl
theorem xk62 {h : z_T} (s : SX h) : z_ok h 62 13 = true := s.ok (by decide) rfl
theorem xk63 {h : z_T} (s : SX h) : z_ok h 63 14 = true := s.ok (by decide) rfl
theorem xk64 {h : z_T} (s : SX h) : z_ok h 64 2 = true := s.ok (by decide) rfl
theorem xk65 {h : z_T} (s : SX h) : z_ok h 65 13 = true := s.ok (by decide) rfl
theorem xk66 {h : z_T} (s : SX h) : z_ok h 66 13 = true := s.ok (by decide) rfl
theorem xk67 {h : z_T} (s : SX h) : z_ok h 67 14 = true := s.ok (by decide) rfl
theorem xk68 {h : z_T} (s : SX h) : z_ok h 68 5 = true := s.ok (by decide) rfl
theorem xk69 {h : z_T} (s : SX h) : z_ok h 69 18 = true := s.ok (by decide) rfl
theorem xk70 {h : z_T} (s : SX h) : z_ok h 70 14 = true := s.ok (by decide) rfl
theorem xk71 {h : z_T} (s : SX h) : z_ok h 71 14 = true := s.ok (by decide) rfl
theorem xk72 {h : z_T} (s : SX h) : z_ok h 72 14 = true := s.ok (by decide) rfl
theorem xk73 {h : z_T} (s : SX h) : z_ok h 73 14 = true := s.ok (by decide) rfl
theorem xk74 {h : z_T} (s : SX h) : z_ok h 74 14 = true := s.ok (by decide) rfl
theorem xk75 {h : z_T} (s : SX h) : z_ok h 75 14 = true := s.ok (by decide) rfl
theorem xk76 {h : z_T} (s : SX h) : z_ok h 76 13 = true := s.ok (by decide) rfl
theorem xk77 {h : z_T} (s : SX h) : z_ok h 77 15 = true := s.ok (by decide) rfl
theorem xk78 {h : z_T} (s : SX h) : z_ok h 78 15 = true := s.ok (by decide) rfl
theorem xk79 {h : z_T} (s : SX h) : z_ok h 79 3 = true := s.ok (by decide) rfl
theorem xk80 {h : z_T} (s : SX h) : z_ok h 80 13 = true := s.ok (by decide) rfl
theorem xk81 {h : z_T} (s : SX h) : z_ok h 81 13 = true := s.ok (by decide) rfl
theorem xk82 {h : z_T} (s : SX h) : z_ok h 82 14 = true := s.ok (by decide) rfl
theorem xn2 {h : z_T} (s : SX h) : z_N h 2 = 6 := (s.2.1 2 (by decide)).2
theorem xn3 {h : z_T} (s : SX h) : z_N h 3 = 8 := (s.2.1 3 (by decide)).2
theorem xn4 {h : z_T} (s : SX h) : z_N h 4 = 8 := (s.2.1 4 (by decide)).2
theorem xn5 {h : z_T} (s : SX h) : z_N h 5 = 8 := (s.2.1 5 (by decide)).2
theorem xn6 {h : z_T} (s : SX h) : z_N h 6 = 6 := (s.2.1 6 (by decide)).2
theorem xn7 {h : z_T} (s : SX h) : z_N h 7 = 7 := (s.2.1 7 (by decide)).2
theorem xn8 {h : z_T} (s : SX h) : z_N h 8 = 7 := (s.2.1 8 (by decide)).2
theorem xn10 {h : z_T} (s : SX h) : z_N h 10 = 940 := (s.2.1 10 (by decide)).2
theorem xn12 {h : z_T} (s : SX h) : z_N h 12 = 940 := (s.2.1 12 (by decide)).2
theorem xn16 {h : z_T} (s : SX h) : z_N h 16 = 12 := (s.2.1 16 (by decide)).2
theorem xn17 {h : z_T} (s : SX h) : z_N h 17 = 8 := (s.2.1 17 (by decide)).2
theorem xn18 {h : z_T} (s : SX h) : z_N h 18 = 7 := (s.2.1 18 (by decide)).2
theorem xn19 {h : z_T} (s : SX h) : z_N h 19 = 2 := (s.2.1 19 (by decide)).2
theorem xn22 {h : z_T} (s : SX h) : z_N h 22 = 12 := (s.2.1 22 (by decide)).2
theorem xn23 {h : z_T} (s : SX h) : z_N h 23 = 8 := (s.2.1 23 (by decide)).2
theorem xn24 {h : z_T} (s : SX h) : z_N h 24 = 7 := (s.2.1 24 (by decide)).2
theorem xn27 {h : z_T} (s : SX h) : z_N h 27 = 12 := (s.2.1 27 (by decide)).2
theorem xn28 {h : z_T} (s : SX h) : z_N h 28 = 8 := (s.2.1 28 (by decide)).2
theorem xn29 {h : z_T} (s : SX h) : z_N h 29 = 7 := (s.2.1 29 (by decide)).2
theorem xn31 {h : z_T} (s : SX h) : z_N h 31 = 8 := (s.2.1 31 (by decide)).2
theorem xn33 {h : z_T} (s : SX h) : z_N h 33 = 12 := (s.2.1 33 (by decide)).2
theorem xn34 {h : z_T} (s : SX h) : z_N h 34 = 8 := (s.2.1 34 (by decide)).2
theorem xn35 {h : z_T} (s : SX h) : z_N h 35 = 7 := (s.2.1 35 (by decide)).2
theorem xn37 {h : z_T} (s : SX h) : z_N h 37 = 12 := (s.2.1 37 (by decide)).2
theorem xn38 {h : z_T} (s : SX h) : z_N h 38 = 8 := (s.2.1 38 (by decide)).2
theorem xn39 {h : z_T} (s : SX h) : z_N h 39 = 7 := (s.2.1 39 (by decide)).2
theorem xn41 {h : z_T} (s : SX h) : z_N h 41 = 12 := (s.2.1 41 (by decide)).2
theorem xn42 {h : z_T} (s : SX h) : z_N h 42 = 8 := (s.2.1 42 (by decide)).2
theorem xn43 {h : z_T} (s : SX h) : z_N h 43 = 7 := (s.2.1 43 (by decide)).2
theorem xn45 {h : z_T} (s : SX h) : z_N h 45 = 12 := (s.2.1 45 (by decide)).2
theorem xn46 {h : z_T} (s : SX h) : z_N h 46 = 8 := (s.2.1 46 (by decide)).2
theorem xn47 {h : z_T} (s : SX h) : z_N h 47 = 7 := (s.2.1 47 (by decide)).2
theorem xn49 {h : z_T} (s : SX h) : z_N h 49 = 12 := (s.2.1 49 (by decide)).2
theorem xn50 {h : z_T} (s : SX h) : z_N h 50 = 8 := (s.2.1 50 (by decide)).2
theorem xn51 {h : z_T} (s : SX h) : z_N h 51 = 7 := (s.2.1 51 (by decide)).2
theorem xn53 {h : z_T} (s : SX h) : z_N h 53 = 12 := (s.2.1 53 (by decide)).2
theorem xn54 {h : z_T} (s : SX h) : z_N h 54 = 8 := (s.2.1 54 (by decide)).2
theorem xn55 {h : z_T} (s : SX h) : z_N h 55 = 7 := (s.2.1 55 (by decide)).2
theorem xn57 {h : z_T} (s : SX h) : z_N h 57 = 12 := (s.2.1 57 (by decide)).2
theorem xn58 {h : z_T} (s : SX h) : z_N h 58 = 8 := (s.2.1 58 (by decide)).2
theorem xn59 {h : z_T} (s : SX h) : z_N h 59 = 7 := (s.2.1 59 (by decide)).2
theorem xn61 {h : z_T} (s : SX h) : z_N h 61 = 12 := (s.2.1 61 (by decide)).2
theorem xn62 {h : z_T} (s : SX h) : z_N h 62 = 8 := (s.2.1 62 (by decide)).2
theorem xn63 {h : z_T} (s : SX h) : z_N h 63 = 7 := (s.2.1 63 (by decide)).2
theorem xn65 {h : z_T} (s : SX h) : z_N h 65 = 12 := (s.2.1 65 (by decide)).2
theorem xn66 {h : z_T} (s : SX h) : z_N h 66 = 8 := (s.2.1 66 (by decide)).2
theorem xn67 {h : z_T} (s : SX h) : z_N h 67 = 7 := (s.2.1 67 (by decide)).2
theorem xn69 {h : z_T} (s : SX h) : z_N h 69 = 5 := (s.2.1 69 (by decide)).2
theorem xn70 {h : z_T} (s : SX h) : z_N h 70 = 7 := (s.2.1 70 (by decide)).2
theorem xn71 {h : z_T} (s : SX h) : z_N h 71 = 7 := (s.2.1 71 (by decide)).2
theorem xn72 {h : z_T} (s : SX h) : z_N h 72 = 7 := (s.2.1 72 (by decide)).2
theorem xn73 {h : z_T} (s : SX h) : z_N h 73 = 7 := (s.2.1 73 (by decide)).2
theorem xn74 {h : z_T} (s : SX h) : z_N h 74 = 7 := (s.2.1 74 (by decide)).2
theorem xn75 {h : z_T} (s : SX h) : z_N h 75 = 729 := (s.2.1 75 (by decide)).2
theorem xn76 {h : z_T} (s : SX h) : z_N h 76 = 729 := (s.2.1 76 (by decide)).2
theorem xn77 {h : z_T} (s : SX h) : z_N h 77 = 729 := (s.2.1 77 (by decide)).2
theorem xn78 {h : z_T} (s : SX h) : z_N h 78 = 729 := (s.2.1 78 (by decide)).2
theorem xn80 {h : z_T} (s : SX h) : z_N h 80 = 40 := (s.2.1 80 (by decide)).2
theorem xn81 {h : z_T} (s : SX h) : z_N h 81 = 40 := (s.2.1 81 (by decide)).2
theorem xn82 {h : z_T} (s : SX h) : z_N h 82 = 1 := (s.2.1 82 (by decide)).2
theorem xr0_0 {h : z_T} (s : SX h) : z_R h 0 0 = some 9 := s.R 0 rfl
theorem xr0_1 {h : z_T} (s : SX h) : z_R h 0 1 = some 11 := s.R 1 rfl
theorem xr0_2 {h : z_T} (s : SX h) : z_R h 0 2 = some 13 := s.R 2 rfl
theorem xr0_3 {h : z_T} (s : SX h) : z_R h 0 3 = some 14 := s.R 3 rfl
theorem xr0_4 {h : z_T} (s : SX h) : z_R h 0 4 = some 19 := s.R 4 rfl
theorem xr0_5 {h : z_T} (s : SX h) : z_R h 0 5 = some 30 := s.R 5 rfl
theorem xr0_6 {h : z_T} (s : SX h) : z_R h 0 6 = some 64 := s.R 6 rfl
theorem xr0_7 {h : z_T} (s : SX h) : z_R h 0 7 = some 68 := s.R 7 rfl
theorem xr0_8 {h : z_T} (s : SX h) : z_R h 0 8 = some 79 := s.R 8 rfl
theorem xr1_4 {h : z_T} (s : SX h) : z_R h 1 4 = some 2 := s.R 9 rfl
theorem xr1_5 {h : z_T} (s : SX h) : z_R h 1 5 = some 3 := s.R 10 rfl
theorem xr1_6 {h : z_T} (s : SX h) : z_R h 1 6 = some 4 := s.R 11 rfl
theorem xr1_7 {h : z_T} (s : SX h) : z_R h 1 7 = some 5 := s.R 12 rfl
theorem xr1_8 {h : z_T} (s : SX h) : z_R h 1 8 = some 6 := s.R 13 rfl
theorem xr1_9 {h : z_T} (s : SX h) : z_R h 1 9 = some 7 := s.R 14 rfl
theorem xr1_10 {h : z_T} (s : SX h) : z_R h 1 10 = some 8 := s.R 15 rfl
theorem xr9_0 {h : z_T} (s : SX h) : z_R h 9 0 = some 10 := s.R 16 rfl
theorem xr11_0 {h : z_T} (s : SX h) : z_R h 11 0 = some 12 := s.R 17 rfl
theorem xr13_0 {h : z_T} (s : SX h) : z_R h 13 0 = some 9 := s.R 18 rfl
theorem xr14_0 {h : z_T} (s : SX h) : z_R h 14 0 = some 15 := s.R 19 rfl
theorem xr15_2 {h : z_T} (s : SX h) : z_R h 15 2 = some 16 := s.R 20 rfl
theorem xr15_3 {h : z_T} (s : SX h) : z_R h 15 3 = some 17 := s.R 21 rfl
theorem xr15_4 {h : z_T} (s : SX h) : z_R h 15 4 = some 18 := s.R 22 rfl
theorem xr19_0 {h : z_T} (s : SX h) : z_R h 19 0 = some 20 := s.R 23 rfl
theorem xr19_1 {h : z_T} (s : SX h) : z_R h 19 1 = some 25 := s.R 24 rfl
theorem xr20_0 {h : z_T} (s : SX h) : z_R h 20 0 = some 21 := s.R 25 rfl
theorem xr21_2 {h : z_T} (s : SX h) : z_R h 21 2 = some 22 := s.R 26 rfl
theorem xr21_3 {h : z_T} (s : SX h) : z_R h 21 3 = some 23 := s.R 27 rfl
theorem xr21_4 {h : z_T} (s : SX h) : z_R h 21 4 = some 24 := s.R 28 rfl
theorem xr25_0 {h : z_T} (s : SX h) : z_R h 25 0 = some 26 := s.R 29 rfl
theorem xr26_2 {h : z_T} (s : SX h) : z_R h 26 2 = some 27 := s.R 30 rfl
theorem xr26_3 {h : z_T} (s : SX h) : z_R h 26 3 = some 28 := s.R 31 rfl
theorem xr26_4 {h : z_T} (s : SX h) : z_R h 26 4 = some 29 := s.R 32 rfl
theorem xr30_0 {h : z_T} (s : SX h) : z_R h 30 0 = some 31 := s.R 33 rfl
theorem xr31_0 {h : z_T} (s : SX h) : z_R h 31 0 = some 32 := s.R 34 rfl
theorem xr31_1 {h : z_T} (s : SX h) : z_R h 31 1 = some 36 := s.R 35 rfl
theorem xr31_2 {h : z_T} (s : SX h) : z_R h 31 2 = some 40 := s.R 36 rfl
theorem xr31_3 {h : z_T} (s : SX h) : z_R h 31 3 = some 44 := s.R 37 rfl
theorem xr31_4 {h : z_T} (s : SX h) : z_R h 31 4 = some 48 := s.R 38 rfl
theorem xr31_5 {h : z_T} (s : SX h) : z_R h 31 5 = some 52 := s.R 39 rfl
theorem xr31_6 {h : z_T} (s : SX h) : z_R h 31 6 = some 56 := s.R 40 rfl
theorem xr31_7 {h : z_T} (s : SX h) : z_R h 31 7 = some 60 := s.R 41 rfl
theorem xr32_2 {h : z_T} (s : SX h) : z_R h 32 2 = some 33 := s.R 42 rfl
theorem xr32_3 {h : z_T} (s : SX h) : z_R h 32 3 = some 34 := s.R 43 rfl
theorem xr32_4 {h : z_T} (s : SX h) : z_R h 32 4 = some 35 := s.R 44 rfl
theorem xr36_2 {h : z_T} (s : SX h) : z_R h 36 2 = some 37 := s.R 45 rfl
theorem xr36_3 {h : z_T} (s : SX h) : z_R h 36 3 = some 38 := s.R 46 rfl
theorem xr36_4 {h : z_T} (s : SX h) : z_R h 36 4 = some 39 := s.R 47 rfl
theorem xr40_2 {h : z_T} (s : SX h) : z_R h 40 2 = some 41 := s.R 48 rfl
theorem xr40_3 {h : z_T} (s : SX h) : z_R h 40 3 = some 42 := s.R 49 rfl
theorem xr40_4 {h : z_T} (s : SX h) : z_R h 40 4 = some 43 := s.R 50 rfl
theorem xr44_2 {h : z_T} (s : SX h) : z_R h 44 2 = some 45 := s.R 51 rfl
theorem xr44_3 {h : z_T} (s : SX h) : z_R h 44 3 = some 46 := s.R 52 rfl
theorem xr44_4 {h : z_T} (s : SX h) : z_R h 44 4 = some 47 := s.R 53 rfl
theorem xr48_2 {h : z_T} (s : SX h) : z_R h 48 2 = some 49 := s.R 54 rfl
theorem xr48_3 {h : z_T} (s : SX h) : z_R h 48 3 = some 50 := s.R 55 rfl
theorem xr48_4 {h : z_T} (s : SX h) : z_R h 48 4 = some 51 := s.R 56 rfl
theorem xr52_2 {h : z_T} (s : SX h) : z_R h 52 2 = some 53 := s.R 57 rfl
theorem xr52_3 {h : z_T} (s : SX h) : z_R h 52 3 = some 54 := s.R 58 rfl
theorem xr52_4 {h : z_T} (s : SX h) : z_R h 52 4 = some 55 := s.R 59 rfl
theorem xr56_2 {h : z_T} (s : SX h) : z_R h 56 2 = some 57 := s.R 60 rfl
theorem xr56_3 {h : z_T} (s : SX h) : z_R h 56 3 = some 58 := s.R 61 rfl
theorem xr56_4 {h : z_T} (s : SX h) : z_R h 56 4 = some 59 := s.R 62 rfl
theorem xr60_2 {h : z_T} (s : SX h) : z_R h 60 2 = some 61 := s.R 63 rfl
theorem xr60_3 {h : z_T} (s : SX h) : z_R h 60 3 = some 62 := s.R 64 rfl
theorem xr60_4 {h : z_T} (s : SX h) : z_R h 60 4 = some 63 := s.R 65 rfl
theorem xr64_2 {h : z_T} (s : SX h) : z_R h 64 2 = some 65 := s.R 66 rfl
theorem xr64_3 {h : z_T} (s : SX h) : z_R h 64 3 = some 66 := s.R 67 rfl
theorem xr64_4 {h : z_T} (s : SX h) : z_R h 64 4 = some 67 := s.R 68 rfl
theorem xr68_0 {h : z_T} (s : SX h) : z_R h 68 0 = some 69 := s.R 69 rfl
theorem xr68_1 {h : z_T} (s : SX h) : z_R h 68 1 = some 75 := s.R 70 rfl
theorem xr68_2 {h : z_T} (s : SX h) : z_R h 68 2 = some 76 := s.R 71 rfl
theorem xr68_3 {h : z_T} (s : SX h) : z_R h 68 3 = some 77 := s.R 72 rfl
theorem xr68_4 {h : z_T} (s : SX h) : z_R h 68 4 = some 78 := s.R 73 rfl
theorem xr69_0 {h : z_T} (s : SX h) : z_R h 69 0 = some 70 := s.R 74 rfl
theorem xr69_1 {h : z_T} (s : SX h) : z_R h 69 1 = some 71 := s.R 75 rfl
theorem xr69_2 {h : z_T} (s : SX h) : z_R h 69 2 = some 72 := s.R 76 rfl
theorem xr69_3 {h : z_T} (s : SX h) : z_R h 69 3 = some 73 := s.R 77 rfl
theorem xr69_4 {h : z_T} (s : SX h) : z_R h 69 4 = some 74 := s.R 78 rfl
theorem xr79_0 {h : z_T} (s : SX h) : z_R h 79 0 = some 80 := s.R 79 rfl
theorem xr79_1 {h : z_T} (s : SX h) : z_R h 79 1 = some 81 := s.R 80 rfl
