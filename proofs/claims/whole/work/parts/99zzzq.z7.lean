/-! what is between the two heaps -/
abbrev a_ST : Type := (Nat → Nat) × (Nat → Nat) × Nat × (Nat → Nat) × Option (Nat → Nat) × Option ((Nat → Nat) × Nat)
abbrev a_IS : Type := a_ST × (Nat × (Nat → Nat × (Nat → Nat))) × (Nat × (Nat → Nat)) × List Nat × Int32 × Option (Int32 × Int32 × Int32) × (Nat → Option a_ST)
def a_ok (bk nm : Nat → Nat) (n : Nat) (ans : Nat → Nat) (tr : Option (Nat → Nat)) (se : Option ((Nat → Nat) × Nat)) : Prop := BOK bk ∧ NMO bk nm ∧ NOK bk ans n ∧ (∀ nd, tr = some nd → TOK (bk 0) nd ∧ TPA nd ∧ ∀ q, nd q ≤ 10) ∧ ∀ cf c, se = some (cf, c) → WFC (bk 1) cf c ∧ a_ht cf c = 1 ∧ c ≤ 39
/-- the class: own says which of the later things belong together -/
def xTo (h : z_T) (own : Nat → Nat) (r : Option Nat) (tr : Option (Nat → Nat)) : Prop := match tr with
  | none => r = none
  | some nd => ∃ to cnt, r = some to ∧ xTn h to nd cnt ∧ 83 ≤ to ∧ ∀ j, j < 2 → own (to + j) = to
def xSo (h : z_T) (own bk : Nat → Nat) (r : Option Nat) (se : Option ((Nat → Nat) × Nat)) : Prop := match se with
  | none => r = none
  | some (cf, c) => ∃ so c1, r = some so ∧ xSn h so bk cf c c1 ∧ 83 ≤ so ∧ ∀ j, j < 4 → own (so + j) = so
def xBo (own : Nat → Nat) (bo : Nat) : Prop := bo = 1 ∨ (83 ≤ bo ∧ ∀ j, j < 8 → own (bo + j) = bo)
def xSp (h : z_T) (own : Nat → Nat) (o bo : Nat) (bk nm : Nat → Nat) (n : Nat) (ans : Nat → Nat) (tr : Option (Nat → Nat)) (se : Option ((Nat → Nat) × Nat)) : Prop := xNi h (o + 1) bo bk ans n ∧ xBo own bo ∧ xNm h bo bk nm ∧ xTo h own (z_R h o 1) tr ∧ xSo h own bk (z_R h o 2) se
def xIm (h : z_T) (own : Nat → Nat) (i : Nat) (q : Option a_ST) : Prop := match q with
  | none => z_I h (20 + 5 * i) 3 = nI 0
  | some (bk, nm, n, ans, tr, se) => z_I h (20 + 5 * i) 3 = nI 1 ∧ ∃ bo, xSp h own (20 + 5 * i) bo bk nm n ans tr se
def mTo (f : Nat → Int32) (tr : Option (Nat → Nat)) : Prop := match tr with
  | none => f 49 = nI 0
  | some nd => ∃ pos m, f 49 = nI m ∧ 0 < m ∧ m ≤ 31 ∧ MT (fun k => f (52 + k)) nd pos m
def mSo (f : Nat → Int32) (se : Option ((Nat → Nat) × Nat)) : Prop := match se with
  | none => f 176 = nI 0
  | some (cf, c) => f 176 = nI c ∧ ∀ i, i < 3 * c → f (177 + i) = nI (cf i)
def mSp (f : Nat → Int32) (g : Nat → Int64) (bk nm : Nat → Nat) (n : Nat) (ans : Nat → Nat) (tr : Option (Nat → Nat)) (se : Option ((Nat → Nat) × Nat)) : Prop := ((∀ k, k < 36 → f k = nI (bk k)) ∧ f 36 = nI n ∧ ∀ i, i < n → f (37 + i) = nI (ans i)) ∧ ((∀ t, t < bk 0 → g t = lN (a_c8 7 (nm t))) ∧ ∀ d, d < bk 1 → g (8 + d) = lN (a_c8 7 (nm (8 + d)))) ∧ mTo f tr ∧ mSo f se
def mIm (h : z_T) (i : Nat) (q : Option a_ST) : Prop := match q with
  | none => z_I h 22 i = nI 0
  | some (bk, nm, n, ans, tr, se) => z_I h 22 i = nI 1 ∧ mSp (fun k => z_I h 20 (357 * i + k)) (fun k => z_L h 21 (14 * i + k)) bk nm n ans tr se
def a_okO (q : Option a_ST) : Prop := match q with
  | none => True
  | some (bk, nm, n, ans, tr, se) => a_ok bk nm n ans tr se
def a_sB (by8 : Nat → Nat) : Nat → Int32 := fun i => a_sb (by8 i)
def aI (p : a_IS) : Prop := match p with
  | ((bk, nm, n, ans, tr, se), (k, pa), (L, by8), T, _, _, im) => a_ok bk nm n ans tr se ∧ (k ≤ 8 ∧ ∀ j, j < k → NOK bk (pa j).2 (pa j).1) ∧ BY L by8 ∧ T.length ≤ 400 ∧ ∀ i, i < 2 → a_okO (im i)
def xI (h : z_T) (p : a_IS) : Prop := match p with
  | ((bk, nm, n, ans, tr, se), (k, pa), (L, by8), T, fl, j, im) => ∃ own bo, SX h ∧ xSp h own 14 bo bk nm n ans tr se ∧ xU h bo bk k pa ∧ xTp h L (a_sB by8) ∧ xT h T ∧ z_I h 13 8 = fl ∧ xJd h j ∧ ∀ i, i < 2 → xIm h own i (im i)
def mI (h : z_T) (p : a_IS) : Prop := match p with
  | ((bk, nm, n, ans, tr, se), (k, pa), (L, by8), T, fl, j, im) => SM h ∧ mRs h ∧ mSp (z_I h 2) (z_L h 5) bk nm n ans tr se ∧ mU h k pa ∧ mTp h L (a_sB by8) ∧ mT h T ∧ z_I h 0 15 = fl ∧ mJd h j ∧ ∀ i, i < 2 → mIm h i (im i)
def Inv (hX hM : z_T) : Prop := ∃ p, aI p ∧ xI hX p ∧ mI hM p
/-! what stays as it is, when only other things are written -/
section XFR
variable {C : Nat → Nat → Prop} {h h' : z_T} {own : Nat → Nat} {o bo n : Nat} {bk nm ans : Nat → Nat} {tr : Option (Nat → Nat)} {se : Option ((Nat → Nat) × Nat)}
/-- things made later stay, but for the stack of one sentence -/
def xCL (C : Nat → Nat → Prop) (h : z_T) (own : Nat → Nat) : Prop := ∀ r a k, 83 ≤ r → own a = r → r ≤ a → (z_K h r = 7 → a ≠ r + 3) → C a k
theorem xBo.b (B : xBo own bo) : bo = 1 ∨ 83 ≤ bo := by
  rcases B with e | e
  · exact Or.inl e
  · exact Or.inr e.1
theorem xBo.c (B : xBo own bo) (K : z_K h bo = 0) (h1 : ∀ a k, 1 ≤ a → a ≤ 8 → C a k) (hl : xCL C h own) : ∀ j k, j < 8 → C (bo + j) k := fun j k hj => by
  rcases B with rfl | ⟨e1, e2⟩
  · exact h1 _ k (by omega) (by omega)
  · exact hl bo _ k e1 (e2 j hj) (by omega) (fun q => by rw [K] at q; exact absurd q (by decide))
theorem xTo.fr {r : Option Nat} (T : xTo h own r tr) (f : x_fr C h h') (hl : xCL C h own) : xTo h' own r tr := by
  cases tr with
  | none => exact T
  | some nd =>
    obtain ⟨to, cnt, e, t, h83, ow⟩ := T
    have K := z_ok_K t.1
    have ne : z_K h to = 7 → ∀ a : Nat, a ≠ to + 3 := fun q => by rw [K] at q; exact absurd q (by decide)
    exact ⟨to, cnt, e, t.fr h83 f (fun k => hl to _ k h83 (ow 1 (by omega)) (by omega) (fun q => ne q _)) (hl to _ 1 h83 (ow 0 (by omega)) (by omega) (fun q => ne q _)), h83, ow⟩
theorem xSo.fr {r : Option Nat} (S : xSo h own bk r se) (f : x_fr C h h') (hl : xCL C h own) : xSo h' own bk r se := by
  cases se with
  | none => exact S
  | some q =>
    obtain ⟨cf, c⟩ := q
    obtain ⟨so, c1, e, t, h83, ow⟩ := S
    exact ⟨so, c1, e, t.fr h83 f (fun k => hl so _ k h83 (ow 1 (by omega)) (by omega) (fun q => by omega)) (fun k => hl so _ k h83 (ow 2 (by omega)) (by omega) (fun q => by omega)) (hl so _ 3 h83 (ow 0 (by omega)) (by omega) (fun q => by omega)) (hl so _ 4 h83 (ow 0 (by omega)) (by omega) (fun q => by omega)), h83, ow⟩
theorem xNm.fr (M : xNm h bo bk nm) (B : xBs h bo) (f : x_fr C h h') (hc : ∀ j k, j < 8 → C (bo + j) k) : xNm h' bo bk nm :=
  ⟨fun t ht => (f.L (bo + 2) t (z_ok_lt (xb_4 B)) (hc 2 t (by omega))).trans (M.1 t ht), fun t ht => (f.L (bo + 5) t (z_ok_lt (xb_13 B)) (hc 5 t (by omega))).trans (M.2 t ht)⟩
theorem xSp.fr (S : xSp h own o bo bk nm n ans tr se) (ho : xSt o) (s : SX h) (f : x_fr C h h') (h1 : ∀ a k, (1 ≤ a ∧ a ≤ 8) ∨ (o + 1 ≤ a ∧ a ≤ o + 4) → C a k) (h2 : C o 1) (h3 : C o 2) (hl : xCL C h own) : xSp h' own o bo bk nm n ans tr se := by
  obtain ⟨N, B, M, T, Z⟩ := S
  have K := z_ok_K (xb_0 N.2.2.1.1)
  have hc := B.c K (fun a k q1 q2 => h1 a k (Or.inl ⟨q1, q2⟩)) hl
  have h83 := s.1
  have ho2 : o < 83 := by unfold xSt at ho; omega
  have hn : isN (o + 1) := by unfold isN; unfold xSt at ho; omega
  refine ⟨N.fr f hn B.b (fun j k hj => h1 _ k (Or.inr (by omega))) hc, B, M.fr N.2.2.1.1 f hc, ?_, ?_⟩
  · rw [f.R o 1 (by omega) h2]; exact T.fr f hl
  · rw [f.R o 2 (by omega) h3]; exact Z.fr f hl
theorem xIm.fr {i : Nat} {q : Option a_ST} (hi : i < 2) (I : xIm h own i q) (s : SX h) (f : x_fr C h h') (h1 : ∀ a k, (1 ≤ a ∧ a ≤ 8) ∨ (20 + 5 * i ≤ a ∧ a ≤ 24 + 5 * i) → C a k) (hl : xCL C h own) : xIm h' own i q := by
  have h83 := s.1
  cases q with
  | none => exact (f.I (20 + 5 * i) 3 (by omega) (h1 _ _ (Or.inr (by omega)))).trans I
  | some σ =>
    obtain ⟨bk, nm, n, ans, tr, se⟩ := σ
    obtain ⟨e, bo, S⟩ := I
    exact ⟨(f.I (20 + 5 * i) 3 (by omega) (h1 _ _ (Or.inr (by omega)))).trans e, bo, S.fr (by unfold xSt; omega) s f (fun a k q => h1 a k (by omega)) (h1 _ _ (Or.inr (by omega))) (h1 _ _ (Or.inr (by omega))) hl⟩
theorem xT.fr {T : List Nat} (t : xT h T) (s : SX h) (f : x_fr C h h') (h1 : C 11 1) (h2 : ∀ k, C 12 k) : xT h' T := ⟨(f.I 11 1 (by have := s.1; omega) h1).trans t.1, fun i hi => (f.I 12 i (by have := s.1; omega) (h2 i)).trans (t.2 i hi)⟩
theorem xTp.fr {L : Nat} {TB : Nat → Int32} (t : xTp h L TB) (s : SX h) (f : x_fr C h h') (h1 : C 9 1) (h2 : ∀ k, C 10 k) : xTp h' L TB := ⟨(f.I 9 1 (by have := s.1; omega) h1).trans t.1, fun i hi => (f.I 10 i (by have := s.1; omega) (h2 i)).trans (t.2 i hi)⟩
theorem xJd.fr {j : Option (Int32 × Int32 × Int32)} (t : xJd h j) (s : SX h) (f : x_fr C h h') (h1 : C 79 5) (h2 : C 79 6) (h3 : C 79 7) : xJd h' j := by
  have l : 79 < z_n h := by have := s.1; omega
  cases j with
  | none => exact ⟨(f.I 79 5 l h1).trans t.1, (f.I 79 6 l h2).trans t.2.1, (f.I 79 7 l h3).trans t.2.2⟩
  | some q => exact ⟨(f.I 79 5 l h1).trans t.1, (f.I 79 6 l h2).trans t.2.1, (f.I 79 7 l h3).trans t.2.2⟩
/-- later things may be marked -/
theorem xSp.ow {own' : Nat → Nat} (S : xSp h own o bo bk nm n ans tr se) (e : ∀ a, a < z_n h → own' a = own a) : xSp h own' o bo bk nm n ans tr se := by
  obtain ⟨N, B, M, T, Z⟩ := S
  have BS := N.2.2.1.1
  refine ⟨N, ?_, M, ?_, ?_⟩
  · rcases B with q | ⟨q1, q2⟩
    · exact Or.inl q
    · refine Or.inr ⟨q1, fun j hj => ?_⟩
      have l0 := z_ok_lt (xb_0 BS)
      have l1 := z_ok_lt (xb_1 BS)
      have l2 := z_ok_lt (xb_4 BS)
      have l3 := z_ok_lt (xb_7 BS)
      have l4 := z_ok_lt (xb_10 BS)
      have l5 := z_ok_lt (xb_13 BS)
      have l6 := z_ok_lt (xb_16 BS)
      have l7 := z_ok_lt (xb_19 BS)
      rw [e _ (by omega)]
      exact q2 j hj
  · cases tr with
    | none => exact T
    | some nd =>
      obtain ⟨to, cnt, r, t, h83, ow⟩ := T
      have l1 := z_ok_lt t.1
      have l2 := z_ok_lt t.2.2.1
      exact ⟨to, cnt, r, t, h83, fun j hj => by rw [e _ (by omega)]; exact ow j hj⟩
  · cases se with
    | none => exact Z
    | some q =>
      obtain ⟨cf, c⟩ := q
      obtain ⟨so, c1, r, t, h83, ow⟩ := Z
      have l1 := z_ok_lt t.1.1
      have l2 := z_ok_lt t.1.2.2.2.2.1
      have l3 := z_ok_lt t.1.2.2.2.2.2.2.1
      have l4 := z_ok_lt t.1.2.2.2.2.2.2.2.2.1
      exact ⟨so, c1, r, t, h83, fun j hj => by rw [e _ (by omega)]; exact ow j hj⟩
theorem xIm.ow {own' : Nat → Nat} {i : Nat} {q : Option a_ST} (I : xIm h own i q) (e : ∀ a, a < z_n h → own' a = own a) : xIm h own' i q := by
  cases q with
  | none => exact I
  | some σ =>
    obtain ⟨bk, nm, n, ans, tr, se⟩ := σ
    obtain ⟨e1, bo, S⟩ := I
    exact ⟨e1, bo, S.ow e⟩
end XFR
/-- what no reading call of the class writes -/
def xWk (o : Nat) : Prop := (o < 64 ∨ 79 ≤ o) ∧ o ≠ 82
theorem xCL.wk {h : z_T} {own : Nat → Nat} : xCL (fun a _ => xWk a) h own := fun r a k h1 _ h3 _ => by unfold xWk; omega
theorem xI.fr {h h' : z_T} {p : a_IS} (I : xI h p) (f : x_fr (fun a _ => xWk a) h h') : xI h' p := by
  obtain ⟨⟨bk, nm, n, ans, tr, se⟩, ⟨k, pa⟩, ⟨L, by8⟩, T, fl, j, im⟩ := p
  obtain ⟨own, bo, s, S, U, P, X, F, J, M⟩ := I
  have h83 := s.1
  have w : ∀ a, a < 64 ∨ (79 ≤ a ∧ a ≠ 82) → xWk a := fun a q => by unfold xWk; omega
  have K := z_ok_K (xb_0 S.1.2.2.1.1)
  exact ⟨own, bo, f.s s, S.fr (Or.inl rfl) s f (fun a k q => w _ (by omega)) (w _ (by omega)) (w _ (by omega)) xCL.wk, U.fr f s S.2.1.b (fun j k _ _ => w _ (by omega)) (S.2.1.c K (fun a k _ _ => w _ (by omega)) xCL.wk), P.fr s f (w _ (by omega)) (fun _ => w _ (by omega)), X.fr s f (w _ (by omega)) (fun _ => w _ (by omega)), (f.I 13 8 (by omega) (w _ (by omega))).trans F, J.fr s f (w _ (by omega)) (w _ (by omega)) (w _ (by omega)), fun i hi => (M i hi).fr hi s f (fun a k q => w _ (by omega)) xCL.wk⟩
/-! the reference -/
theorem mSp.cg {f f' : Nat → Int32} {g g' : Nat → Int64} {bk nm ans : Nat → Nat} {n : Nat} {tr : Option (Nat → Nat)} {se : Option ((Nat → Nat) × Nat)} (S : mSp f g bk nm n ans tr se) (A : a_ok bk nm n ans tr se) (e1 : ∀ k, k < 357 → f' k = f k) (e2 : ∀ k, k < 14 → g' k = g k) : mSp f' g' bk nm n ans tr se := by
  obtain ⟨⟨S1, S2, S3⟩, ⟨S4, S5⟩, S6, S7⟩ := S
  obtain ⟨b, N, hO, A4, A5⟩ := A
  have b0 := b.1
  have b1 := b.2.1
  have hn := hO.1
  refine ⟨⟨fun k hk => (e1 k (by omega)).trans (S1 k hk), (e1 36 (by omega)).trans S2, fun i hi => (e1 _ (by omega)).trans (S3 i hi)⟩, ⟨fun t ht => (e2 t (by omega)).trans (S4 t ht), fun d hd => (e2 _ (by omega)).trans (S5 d hd)⟩, ?_, ?_⟩
  · cases tr with
    | none => exact (e1 49 (by omega)).trans S6
    | some nd =>
      obtain ⟨pos, m, q1, q2, q3, q4⟩ := S6
      exact ⟨pos, m, (e1 49 (by omega)).trans q1, q2, q3, q4.cg (fun k hk => e1 _ (by omega))⟩
  · cases se with
    | none => exact (e1 176 (by omega)).trans S7
    | some q =>
      obtain ⟨cf, c⟩ := q
      have c39 := (A5 cf c rfl).2.2
      exact ⟨(e1 176 (by omega)).trans S7.1, fun i hi => (e1 _ (by omega)).trans (S7.2 i hi)⟩
theorem mI.fr {h h' : z_T} {p : a_IS} (A : aI p) (I : mI h p) (f : m_fr mKp h h') : mI h' p := by
  obtain ⟨⟨bk, nm, n, ans, tr, se⟩, ⟨k, pa⟩, ⟨L, by8⟩, T, fl, j, im⟩ := p
  obtain ⟨s, R, S, U, P, X, F, J, M⟩ := I
  obtain ⟨A1, A2, A3, A4, A5⟩ := A
  have w : ∀ o k, (o = 0 ∧ (k = 2 ∨ k = 15 ∨ k = 24 ∨ k = 31 ∨ k = 44)) ∨ o = 1 ∨ o = 2 ∨ (o = 5 ∧ k < 14) ∨ o = 6 ∨ o = 8 ∨ o = 12 ∨ o = 17 ∨ o = 20 ∨ o = 21 ∨ o = 22 → mKp o k := fun o k q => q
  refine ⟨f.s s, fun k hk => (f.L 6 k (w _ _ (by omega))).trans (R k hk), S.cg A1 (fun k _ => f.I 2 k (w _ _ (by omega))) (fun k hk => f.L 5 k (w _ _ (by omega))), U.fr f (w _ _ (by omega)) (fun k => w _ _ (by omega)), ⟨(f.I 0 2 (w _ _ (by omega))).trans P.1, fun i hi => (f.I 1 i (w _ _ (by omega))).trans (P.2 i hi)⟩, ⟨(f.I 0 31 (w _ _ (by omega))).trans X.1, fun i hi => (f.I 12 i (w _ _ (by omega))).trans (X.2 i hi)⟩, (f.I 0 15 (w _ _ (by omega))).trans F, ?_, fun i hi => ?_⟩
  · cases j with
    | none => exact (f.I 0 44 (w _ _ (by omega))).trans J
    | some q => exact ⟨(f.I 0 44 (w _ _ (by omega))).trans J.1, (f.I 17 0 (w _ _ (by omega))).trans J.2.1, (f.I 17 1 (w _ _ (by omega))).trans J.2.2.1, (f.I 17 2 (w _ _ (by omega))).trans J.2.2.2⟩
  · have Mi := M i hi
    have Ai := A5 i hi
    cases hq : im i with
    | none =>
      rw [hq] at Mi
      exact (f.I 22 i (w _ _ (by omega))).trans Mi
    | some σ =>
      rw [hq] at Mi Ai
      obtain ⟨bk1, nm1, n1, ans1, tr1, se1⟩ := σ
      exact ⟨(f.I 22 i (w _ _ (by omega))).trans Mi.1, Mi.2.cg Ai (fun k _ => f.I 20 _ (w _ _ (by omega))) (fun k _ => f.L 21 _ (w _ _ (by omega)))⟩
