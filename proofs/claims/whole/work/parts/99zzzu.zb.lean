/-! operations that read a text, both sides -/
theorem a_sen_ok {by8 : Nat → Nat} {L nD c o : Nat} {f cf : Nat → Nat} (hD : nD ≤ 6) (h : a_sen by8 L f nD = .inr (cf, c, o)) : WFC nD cf c ∧ a_ht cf c = 1 ∧ c ≤ 39 := by
  obtain ⟨v, e1, h⟩ := a_bd_i (show a_bd _ _ = .inr (cf, c, o) from h)
  obtain ⟨⟨r1, r2, r3, r4, r5, r6, r7⟩, -⟩ := a_co_r (fun cf c o t v W q => a_one_r hD 8 cf c o t v W q) _ _ _ _ _ ⟨fun i hi => absurd hi (Nat.not_lt_zero _), fun i hi => absurd hi (by omega)⟩ e1
  split at h
  · have e := Sum.inr.inj h
    have e1 : v.1 = cf := congrArg (fun q => q.1) e
    have e2 : v.2.1 = c := congrArg (fun q => q.2.1) e
    rw [e1, e2] at r2 r3
    exact ⟨r2, r3, by omega⟩
  · exact absurd h Sum.inl_ne_inr
theorem a_tree_10 {n0 : Nat} {nd : Nat → Nat} (h8 : n0 ≤ 8) (K : TOK n0 nd) : ∀ q, nd q ≤ 10 := fun q => by
  by_cases c : 3 ≤ nd q
  · have := (K.2.2.2 q c).1
    omega
  · omega
/-- later things belong to the first of them -/
def a_ow (own : Nat → Nat) (m : Nat) : Nat → Nat := fun i => if i < m then own i else m
theorem a_ow_lo {own : Nat → Nat} {m : Nat} : ∀ a, a < m → a_ow own m a = own a := fun a h => if_pos h
theorem a_ow_hi {own : Nat → Nat} {m j : Nat} : a_ow own m (m + j) = m := if_neg (by omega)
section RD
variable {h h' : z_T} {bk nm ans by8 : Nat → Nat} {n k L L' bo : Nat} {pa : Nat → Nat × (Nat → Nat)} {tr tr' : Option (Nat → Nat)} {se se' : Option ((Nat → Nat) × Nat)} {T : List Nat} {fl fl' : Int32} {j j' : Option (Int32 × Int32 × Int32)} {im : Nat → Option a_ST} {own : Nat → Nat}
theorem xI.nj (I : xI h ((bk, nm, n, ans, tr, se), (k, pa), (L, by8), T, fl, j, im)) (f : x_fr xD1 h h') (P' : xTp h' L' (a_sB by8)) (F' : z_I h' 13 8 = fl') (J' : xJd h' j') : xI h' ((bk, nm, n, ans, tr, se), (k, pa), (L', by8), T, fl', j', im) := by
  obtain ⟨own, bo, s, S, U, P, X, F, J, M⟩ := I
  have w : ∀ a k, (a < 64 ∨ 82 < a) ∧ a ≠ 13 ∧ a ≠ 9 → xD1 a k := fun a k q => by unfold xD1 xD0 xC0; omega
  have hl : xCL xD1 h own := fun r a k h1 _ h3 _ => w _ _ (by omega)
  have K := z_ok_K (xb_0 S.1.2.2.1.1)
  exact ⟨own, bo, f.s s, S.fr (Or.inl rfl) s f (fun a k q => w _ _ (by omega)) (w _ _ (by omega)) (w _ _ (by omega)) hl, U.fr f s S.2.1.b (fun j k _ _ => w _ _ (by omega)) (S.2.1.c K (fun a k _ _ => w _ _ (by omega)) hl), P', X.fr s f (w _ _ (by omega)) (fun _ => w _ _ (by omega)), F', J', fun i hi => (M i hi).fr hi s f (fun a k q => w _ _ (by omega)) hl⟩
theorem mI.nj (A : aI ((bk, nm, n, ans, tr, se), (k, pa), (L, by8), T, fl, j, im)) (I : mI h ((bk, nm, n, ans, tr, se), (k, pa), (L, by8), T, fl, j, im)) (f : m_fr mD1 h h') (g : ∀ i, i < 13 → z_I h' 2 (36 + i) = z_I h 2 (36 + i)) (P' : mTp h' L' (a_sB by8)) (F' : z_I h' 0 15 = fl') (J' : mJd h' j') : mI h' ((bk, nm, n, ans, tr, se), (k, pa), (L', by8), T, fl', j', im) := by
  obtain ⟨s, R, S, U, P, X, F, J, M⟩ := I
  have w : ∀ o k, (o = 0 ∧ (k = 24 ∨ k = 31)) ∨ (o = 2 ∧ (k < 36 ∨ 49 ≤ k)) ∨ (o = 5 ∧ k < 14) ∨ o = 6 ∨ o = 8 ∨ o = 12 ∨ o = 20 ∨ o = 21 ∨ o = 22 → mD1 o k := fun o k q => by unfold mD1 mC0 mKp; omega
  refine ⟨f.s s, fun k hk => (f.L 6 k (w _ _ (by omega))).trans (R k hk), S.cg A.1 (fun k hk => ?_) (fun k hk => f.L 5 k (w _ _ (by omega))), U.fr f (w _ _ (by omega)) (fun k => w _ _ (by omega)), P', ⟨(f.I 0 31 (w _ _ (by omega))).trans X.1, fun i hi => (f.I 12 i (w _ _ (by omega))).trans (X.2 i hi)⟩, F', J', fun i hi => (M i hi).fr (A.2.2.2.2 i hi) f (w _ _ (by omega)) (fun k => w _ _ (by omega)) (fun k => w _ _ (by omega))⟩
  by_cases c : k < 36 ∨ 49 ≤ k
  · exact f.I 2 k (w _ _ (by omega))
  · have := g (k - 36) (by omega)
    rw [show 36 + (k - 36) = k by omega] at this
    exact this
theorem xTp0 {TB : Nat → Int32} (e : z_I h 9 1 = nI 0) : xTp h 0 TB := ⟨e, fun i hi => absurd hi (Nat.not_lt_zero _)⟩
theorem mTp0 {TB : Nat → Int32} (e : z_I h 0 2 = nI 0) : mTp h 0 TB := ⟨e, fun i hi => absurd hi (Nat.not_lt_zero _)⟩
/-- the class: a new tree, a new sentence -/
theorem xI.ts (I : xI h ((bk, nm, n, ans, tr, se), (k, pa), (L, by8), T, fl, j, im)) (f : x_fr (fun o k => xC0 o k ∧ (o ≠ 14 ∨ (k ≠ 1 ∧ k ≠ 2))) h h') (P' : xTp h' L' (a_sB by8)) (F' : z_I h' 13 8 = fl') (T' : ∀ own, xTo h own (z_R h 14 1) tr → xTo h' (a_ow own (z_n h)) (z_R h' 14 1) tr') (S' : ∀ own, xSo h own bk (z_R h 14 2) se → xSo h' (a_ow own (z_n h)) bk (z_R h' 14 2) se') : xI h' ((bk, nm, n, ans, tr', se'), (k, pa), (L', by8), T, fl', j, im) := by
  obtain ⟨own, bo, s, S, U, P, X, F, J, M⟩ := I
  have h83 := s.1
  have w : ∀ a k, (a ≠ 13 ∧ a ≠ 9 ∧ a ≠ 14) ∨ (a = 14 ∧ k ≠ 1 ∧ k ≠ 2) → xC0 a k ∧ (a ≠ 14 ∨ (k ≠ 1 ∧ k ≠ 2)) := fun a k q => by unfold xC0; omega
  have tS := T' own S.2.2.2.1
  have sS := S' own S.2.2.2.2
  have S2 := S.ow (own' := a_ow own (z_n h)) a_ow_lo
  have hl : xCL (fun o k => xC0 o k ∧ (o ≠ 14 ∨ (k ≠ 1 ∧ k ≠ 2))) h (a_ow own (z_n h)) := fun r a k h1 _ h3 _ => w _ _ (by omega)
  have K := z_ok_K (xb_0 S.1.2.2.1.1)
  have hc := S2.2.1.c K (fun a k _ _ => w _ _ (by omega)) hl
  exact ⟨a_ow own (z_n h), bo, f.s s, ⟨S2.1.fr f (Or.inl rfl) S2.2.1.b (fun j k hj => w _ _ (by omega)) hc, S2.2.1, S2.2.2.1.fr S2.1.2.2.1.1 f hc, tS, sS⟩, U.fr f s S.2.1.b (fun j k _ _ => w _ _ (by omega)) hc, P', X.fr s f (w _ _ (by omega)) (fun _ => w _ _ (by omega)), F', J.fr s f (w _ _ (by omega)) (w _ _ (by omega)) (w _ _ (by omega)), fun i hi => ((M i hi).ow (own' := a_ow own (z_n h)) a_ow_lo).fr hi s f (fun a k q => w _ _ (by omega)) hl⟩
end RD
theorem xTo.ow {h : z_T} {own : Nat → Nat} {r : Option Nat} {tr : Option (Nat → Nat)} {m : Nat} (T : xTo h own r tr) (hm : z_n h ≤ m) : xTo h (a_ow own m) r tr := by
  cases tr with
  | none => exact T
  | some nd =>
    obtain ⟨to, cnt, r, t, h83, ow⟩ := T
    have l1 := z_ok_lt t.1
    have l2 := z_ok_lt t.2.2.1
    exact ⟨to, cnt, r, t, h83, fun j hj => by rw [a_ow_lo _ (by omega)]; exact ow j hj⟩
theorem xSo.ow {h : z_T} {own bk : Nat → Nat} {r : Option Nat} {se : Option ((Nat → Nat) × Nat)} {m : Nat} (Z : xSo h own bk r se) (hm : z_n h ≤ m) : xSo h (a_ow own m) bk r se := by
  cases se with
  | none => exact Z
  | some q =>
    obtain ⟨cf, c⟩ := q
    obtain ⟨so, c1, r, t, h83, ow⟩ := Z
    have l1 := z_ok_lt t.1.1
    have l2 := z_ok_lt t.1.2.2.2.2.1
    have l3 := z_ok_lt t.1.2.2.2.2.2.2.1
    have l4 := z_ok_lt t.1.2.2.2.2.2.2.2.2.1
    exact ⟨so, c1, r, t, h83, fun j hj => by rw [a_ow_lo _ (by omega)]; exact ow j hj⟩
section IVR
variable {hX hM : z_T}
theorem iv_nights (I : Inv hX hM) : ∃ (r : Int32) (hX' hM' : z_T), fX11_nights 0 hX = some (r, hX') ∧ fX12_nights 0 hM = some (r, hM') ∧ Inv hX' hM' := by
  refine ivA (fun p => match a_ntr p.2.2.1.2 p.2.2.1.1 p.1.1 p.1.2.1 with
    | .inl e => (-nI 2 - nI e.2, (p.1, p.2.1, (0, p.2.2.1.2), p.2.2.2.1, nI e.1, p.2.2.2.2.2))
    | .inr w => (a_jI (a_ntj p.1.1 w).1, (p.1, p.2.1, (0, p.2.2.1.2), p.2.2.2.1, nI 0, some (nI (a_ntj p.1.1 w).2.1, nI (a_ntj p.1.1 w).2.2.2.2.2.1, nI (a_ntj p.1.1 w).2.2.2.2.2.2), p.2.2.2.2.2.2))) ?_ ?_ ?_ I
  · rintro ⟨⟨bk, nm, n, ans, tr, se⟩, ⟨k, pa⟩, ⟨L, by8⟩, T, fl, j, im⟩ A
    dsimp only
    cases a_ntr by8 L bk nm with
    | inl e => exact ⟨A.1, A.2.1, ⟨Nat.zero_le _, fun i hi => absurd hi (Nat.not_lt_zero _)⟩, A.2.2.2⟩
    | inr w => exact ⟨A.1, A.2.1, ⟨Nat.zero_le _, fun i hi => absurd hi (Nat.not_lt_zero _)⟩, A.2.2.2⟩
  · rintro ⟨⟨bk, nm, n, ans, tr, se⟩, ⟨k, pa⟩, ⟨L, by8⟩, T, fl, j, im⟩ h A I
    have I' := I
    obtain ⟨own, bo, s, S, U, P, X, F, J, M⟩ := I'
    dsimp only
    refine x_opNights (bo := bo) ⟨s, S.1, S.2.1.b⟩ A.1.1 A.1.2.1 S.2.2.1 P (fun i hi => rfl) A.2.2.1 (fun h' e q f i9 g => ?_) (fun h' w q f i9 g j5 j6 j7 => ?_)
    · rw [q]
      exact ⟨rfl, I.nj (f.w (fun o k _ c => c.1)) (xTp0 i9) g (J.fr s f (by unfold xD0 xC0; omega) (by unfold xD0 xC0; omega) (by unfold xD0 xC0; omega))⟩
    · rw [q]
      exact ⟨rfl, I.nj f (xTp0 i9) g ⟨j5, j6, j7⟩⟩
  · rintro ⟨⟨bk, nm, n, ans, tr, se⟩, ⟨k, pa⟩, ⟨L, by8⟩, T, fl, j, im⟩ h A I
    dsimp only
    refine m_nights I.s A.1.1 I.now A.1.2.1 I.nm I.2.1 I.P (fun i hi => rfl) A.2.2.1 (fun h' e q f i2 g => ?_) (fun h' w q f i2 g j44 j0 j1 j2 gr => ?_)
    · rw [q]
      exact ⟨rfl, I.tp A (f.w (fun o k c => by unfold mC0; exact ⟨c.1, c.2.2⟩)) (mTp0 i2) g⟩
    · rw [q]
      exact ⟨rfl, I.nj A f gr (mTp0 i2) g ⟨j44, j0, j1, j2⟩⟩
theorem iv_tree (I : Inv hX hM) : ∃ (r : Int32) (hX' hM' : z_T), fX11_tree 0 hX = some (r, hX') ∧ fX12_tree 0 hM = some (r, hM') ∧ Inv hX' hM' := by
  refine ivA (fun p => match a_tree p.2.2.1.2 p.2.2.1.1 p.1.2.1 (p.1.1 0) with
    | .inl e => (m1 - nI e.2, (p.1, p.2.1, (0, p.2.2.1.2), p.2.2.2.1, nI e.1, p.2.2.2.2.2))
    | .inr w => (nI w.2, ((p.1.1, p.1.2.1, p.1.2.2.1, p.1.2.2.2.1, some w.1, p.1.2.2.2.2.2), p.2.1, (0, p.2.2.1.2), p.2.2.2.1, nI 0, p.2.2.2.2.2))) ?_ ?_ ?_ I
  · rintro ⟨⟨bk, nm, n, ans, tr, se⟩, ⟨k, pa⟩, ⟨L, by8⟩, T, fl, j, im⟩ A
    dsimp only
    have z : BY 0 by8 := ⟨Nat.zero_le _, fun i hi => absurd hi (Nat.not_lt_zero _)⟩
    cases q : a_tree by8 L nm (bk 0) with
    | inl e => exact ⟨A.1, A.2.1, z, A.2.2.2⟩
    | inr w =>
      obtain ⟨nd, cnt⟩ := w
      refine ⟨⟨A.1.1, A.1.2.1, A.1.2.2.1, fun nd2 e => ?_, A.1.2.2.2.2⟩, A.2.1, z, A.2.2.2⟩
      have e : nd = nd2 := Option.some.inj e
      subst e
      have K := a_tree_ok q
      exact ⟨K, a_tree_pa q, a_tree_10 A.1.1.1 K⟩
  · rintro ⟨⟨bk, nm, n, ans, tr, se⟩, ⟨k, pa⟩, ⟨L, by8⟩, T, fl, j, im⟩ h A I
    have I' := I
    obtain ⟨own, bo, s, S, U, P, X, F, J, M⟩ := I'
    have h83 := s.1
    dsimp only
    refine x_opTree (bo := bo) ⟨s, S.1, S.2.1.b⟩ A.1.1 A.1.2.1 S.2.2.1 P (fun i hi => rfl) A.2.2.1 (fun h' e q f i9 g => ?_) (fun h' nd cnt q f i9 g r t => ?_)
    · rw [q]
      exact ⟨rfl, I.tp (f.w (fun o k _ c => ⟨c.1, c.2.2⟩)) (xTp0 i9) g⟩
    · rw [q]
      refine ⟨rfl, I.ts (f.w (fun o k _ c => ⟨c.1, by have := c.2; omega⟩)) (xTp0 i9) g (fun own2 _ => ⟨z_n h, cnt, r, t, h83, fun j hj => a_ow_hi⟩) (fun own2 Z => ?_)⟩
      rw [f.R 14 2 (by omega) (by unfold xC0; omega)]
      exact (Z.ow (Nat.le_refl _)).fr f (fun r a k h1 _ h3 _ => by unfold xC0; omega)
  · rintro ⟨⟨bk, nm, n, ans, tr, se⟩, ⟨k, pa⟩, ⟨L, by8⟩, T, fl, j, im⟩ h A I
    dsimp only
    refine m_tree I.s A.1.1 I.now A.1.2.1 I.nm I.2.1 I.P (fun i hi => rfl) A.2.2.1 (fun h' e q f i2 g => ?_) (fun h' nd cnt pos m q f i2 g i49 hm hm31 mt _ => ?_)
    · rw [q]
      exact ⟨rfl, I.tp A (f.w (fun o k c => by unfold mC0; exact ⟨c.1, c.2.2⟩)) (mTp0 i2) g⟩
    · rw [q]
      obtain ⟨s, R, S, U, P, X, F, J, M⟩ := I
      have w : ∀ o k, (o = 0 ∧ (k = 24 ∨ k = 31 ∨ k = 44)) ∨ (o = 2 ∧ (k < 49 ∨ 176 ≤ k)) ∨ (o = 5 ∧ k < 14) ∨ o = 6 ∨ o = 8 ∨ o = 12 ∨ o = 17 ∨ o = 20 ∨ o = 21 ∨ o = 22 → mC0 o k ∧ (o ≠ 2 ∨ k < 49 ∨ 176 ≤ k) := fun o k q => by unfold mC0 mKp; omega
      have hn := A.1.2.2.1.1
      have h8 := A.1.1.1
      have h6 := A.1.1.2.1
      refine ⟨rfl, f.s s, fun k hk => (f.L 6 k (w _ _ (by omega))).trans (R k hk), ⟨⟨fun k hk => (f.I 2 k (w _ _ (by omega))).trans (S.1.1 k hk), (f.I 2 36 (w _ _ (by omega))).trans S.1.2.1, fun i hi => (f.I 2 _ (w _ _ (by omega))).trans (S.1.2.2 i hi)⟩, ⟨fun t ht => (f.L 5 t (w _ _ (by omega))).trans (S.2.1.1 t ht), fun d hd => (f.L 5 _ (w _ _ (by omega))).trans (S.2.1.2 d hd)⟩, ⟨pos, m, i49, hm, hm31, mt⟩, ?_⟩, U.fr f (w _ _ (by omega)) (fun k => w _ _ (by omega)), mTp0 i2, ⟨(f.I 0 31 (w _ _ (by omega))).trans X.1, fun i hi => (f.I 12 i (w _ _ (by omega))).trans (X.2 i hi)⟩, g, J.fr f (w _ _ (by omega)) (fun k => w _ _ (by omega)), fun i hi => (M i hi).fr (A.2.2.2.2 i hi) f (w _ _ (by omega)) (fun k => w _ _ (by omega)) (fun k => w _ _ (by omega))⟩
      have Z := S.2.2.2
      cases se with
      | none => exact (f.I 2 176 (w _ _ (by omega))).trans Z
      | some z2 =>
        obtain ⟨cf, c⟩ := z2
        exact ⟨(f.I 2 176 (w _ _ (by omega))).trans Z.1, fun i hi => (f.I 2 _ (w _ _ (by omega))).trans (Z.2 i hi)⟩
theorem iv_sentence (I : Inv hX hM) : ∃ (r : Int32) (hX' hM' : z_T), fX11_sentence 0 hX = some (r, hX') ∧ fX12_sentence 0 hM = some (r, hM') ∧ Inv hX' hM' := by
  refine ivA (fun p => match a_sen p.2.2.1.2 p.2.2.1.1 (fun d => p.1.2.1 (8 + d)) (p.1.1 1) with
    | .inl e => (m1 - nI e.2, (p.1, p.2.1, (0, p.2.2.1.2), p.2.2.2.1, nI e.1, p.2.2.2.2.2))
    | .inr w => (nI w.2.2, ((p.1.1, p.1.2.1, p.1.2.2.1, p.1.2.2.2.1, p.1.2.2.2.2.1, some (w.1, w.2.1)), p.2.1, (0, p.2.2.1.2), p.2.2.2.1, nI 0, p.2.2.2.2.2))) ?_ ?_ ?_ I
  · rintro ⟨⟨bk, nm, n, ans, tr, se⟩, ⟨k, pa⟩, ⟨L, by8⟩, T, fl, j, im⟩ A
    dsimp only
    have z : BY 0 by8 := ⟨Nat.zero_le _, fun i hi => absurd hi (Nat.not_lt_zero _)⟩
    cases q : a_sen by8 L (fun d => nm (8 + d)) (bk 1) with
    | inl e => exact ⟨A.1, A.2.1, z, A.2.2.2⟩
    | inr w =>
      obtain ⟨cf, c, o⟩ := w
      refine ⟨⟨A.1.1, A.1.2.1, A.1.2.2.1, A.1.2.2.2.1, fun cf2 c2 e => ?_⟩, A.2.1, z, A.2.2.2⟩
      have e := Option.some.inj e
      have e1 : cf = cf2 := congrArg (fun q => q.1) e
      have e2 : c = c2 := congrArg (fun q => q.2) e
      subst e1 e2
      exact a_sen_ok A.1.1.2.1 q
  · rintro ⟨⟨bk, nm, n, ans, tr, se⟩, ⟨k, pa⟩, ⟨L, by8⟩, T, fl, j, im⟩ h A I
    have I' := I
    obtain ⟨own, bo, s, S, U, P, X, F, J, M⟩ := I'
    have h83 := s.1
    dsimp only
    refine x_opSentence (bo := bo) ⟨s, S.1, S.2.1.b⟩ A.1.1 A.1.2.1 S.2.2.1 P (fun i hi => rfl) A.2.2.1 (fun h' e q f i9 g => ?_) (fun h' cf c o q f i9 g r t => ?_)
    · rw [q]
      exact ⟨rfl, I.tp (f.w (fun o k _ c => ⟨c.1, c.2.2⟩)) (xTp0 i9) g⟩
    · rw [q]
      refine ⟨rfl, I.ts (f.w (fun o k _ c => ⟨c.1, by have := c.2; omega⟩)) (xTp0 i9) g (fun own2 Z => ?_) (fun own2 _ => ⟨z_n h, o, r, t, h83, fun j hj => a_ow_hi⟩)⟩
      rw [f.R 14 1 (by omega) (by unfold xC0; omega)]
      exact (Z.ow (Nat.le_refl _)).fr f (fun r a k h1 _ h3 _ => by unfold xC0; omega)
  · rintro ⟨⟨bk, nm, n, ans, tr, se⟩, ⟨k, pa⟩, ⟨L, by8⟩, T, fl, j, im⟩ h A I
    dsimp only
    refine m_sentence I.s A.1.1 I.now A.1.2.1 I.nm I.2.1 I.P (fun i hi => rfl) A.2.2.1 (fun h' e q f i2 g => ?_) (fun h' cf c o q f i2 g Z => ?_)
    · rw [q]
      exact ⟨rfl, I.tp A (f.w (fun o k c => by unfold mC0; exact ⟨c.1, c.2.2⟩)) (mTp0 i2) g⟩
    · rw [q]
      obtain ⟨s, R, S, U, P, X, F, J, M⟩ := I
      have w : ∀ o k, (o = 0 ∧ (k = 24 ∨ k = 31 ∨ k = 44)) ∨ (o = 2 ∧ k < 176) ∨ (o = 5 ∧ k < 14) ∨ o = 6 ∨ o = 8 ∨ o = 12 ∨ o = 17 ∨ o = 20 ∨ o = 21 ∨ o = 22 → mC0 o k ∧ (o ≠ 2 ∨ k < 176) := fun o k q => by unfold mC0 mKp; omega
      have hn := A.1.2.2.1.1
      have h8 := A.1.1.1
      have h6 := A.1.1.2.1
      refine ⟨rfl, f.s s, fun k hk => (f.L 6 k (w _ _ (by omega))).trans (R k hk), ⟨⟨fun k hk => (f.I 2 k (w _ _ (by omega))).trans (S.1.1 k hk), (f.I 2 36 (w _ _ (by omega))).trans S.1.2.1, fun i hi => (f.I 2 _ (w _ _ (by omega))).trans (S.1.2.2 i hi)⟩, ⟨fun t ht => (f.L 5 t (w _ _ (by omega))).trans (S.2.1.1 t ht), fun d hd => (f.L 5 _ (w _ _ (by omega))).trans (S.2.1.2 d hd)⟩, ?_, Z⟩, U.fr f (w _ _ (by omega)) (fun k => w _ _ (by omega)), mTp0 i2, ⟨(f.I 0 31 (w _ _ (by omega))).trans X.1, fun i hi => (f.I 12 i (w _ _ (by omega))).trans (X.2 i hi)⟩, g, J.fr f (w _ _ (by omega)) (fun k => w _ _ (by omega)), fun i hi => (M i hi).fr (A.2.2.2.2 i hi) f (w _ _ (by omega)) (fun k => w _ _ (by omega)) (fun k => w _ _ (by omega))⟩
      have Z := S.2.2.1
      cases tr with
      | none => exact (f.I 2 49 (w _ _ (by omega))).trans Z
      | some nd =>
        obtain ⟨pos, m, q1, q2, q3, q4⟩ := Z
        exact ⟨pos, m, (f.I 2 49 (w _ _ (by omega))).trans q1, q2, q3, q4.cg (fun k hk => f.I 2 _ (w _ _ (by omega)))⟩
theorem iv_book (I : Inv hX hM) : ∃ (r : Int32) (hX' hM' : z_T), fX11_book 0 hX = some (r, hX') ∧ fX12_book 0 hM = some (r, hM') ∧ Inv hX' hM' := by
  refine ivA (fun p => match a_book p.2.2.1.2 p.2.2.1.1 with
    | .inl e => (m1 - nI e.2, (p.1, p.2.1, (0, p.2.2.1.2), p.2.2.2.1, nI e.1, p.2.2.2.2.2))
    | .inr w => (nI w.2.2, ((w.1, w.2.1, 0, p.1.2.2.2.1, none, none), (0, p.2.1.2), (0, p.2.2.1.2), p.2.2.2.1, nI 0, p.2.2.2.2.2))) ?_ ?_ ?_ I
  · rintro ⟨⟨bk, nm, n, ans, tr, se⟩, ⟨k, pa⟩, ⟨L, by8⟩, T, fl, j, im⟩ A
    dsimp only
    have z : BY 0 by8 := ⟨Nat.zero_le _, fun i hi => absurd hi (Nat.not_lt_zero _)⟩
    cases q : a_book by8 L with
    | inl e => exact ⟨A.1, A.2.1, z, A.2.2.2⟩
    | inr w =>
      obtain ⟨bk', nm', o⟩ := w
      obtain ⟨b, N⟩ := a_lines_ok 480 _ _ _ _ _ _ BKS0 q
      exact ⟨⟨b, N, b.new, fun nd e => absurd e (by simp), fun cf c e => absurd e (by simp)⟩, ⟨Nat.zero_le _, fun j hj => absurd hj (Nat.not_lt_zero _)⟩, z, A.2.2.2⟩
  · rintro ⟨⟨bk, nm, n, ans, tr, se⟩, ⟨k, pa⟩, ⟨L, by8⟩, T, fl, j, im⟩ h A I
    have I' := I
    obtain ⟨own, bo, s, S, U, P, X, F, J, M⟩ := I'
    have h83 := s.1
    dsimp only
    refine x_opBook (ans := ans) s P (fun i hi => rfl) A.2.2.1 (fun h' e q f i9 g => ?_) (fun h' bk' nm' o q f i9 g W' N' r1 r2 i30 => ?_)
    · rw [q]
      exact ⟨rfl, I.tp (f.w (fun o k _ c => ⟨c.1, c.2.2⟩)) (xTp0 i9) g⟩
    · rw [q]
      have w : ∀ a k, (a < 9 ∨ 10 ≤ a) ∧ a ≠ 13 ∧ (a < 14 ∨ 19 ≤ a) ∧ a ≠ 30 → xC1 a k := fun a k q => by unfold xC1 xC0 nC; omega
      have hl : xCL xC1 h (a_ow own (z_n h)) := fun r a k h1 _ h3 _ => w _ _ (by omega)
      obtain ⟨u1, l, hl8, u2, u3⟩ := U
      refine ⟨rfl, a_ow own (z_n h), z_n h, W'.1, ⟨W'.2.1, Or.inr ⟨h83, fun j hj => a_ow_hi⟩, N', r1, r2⟩, ⟨i30, l, hl8, (f.I 30 1 (by omega) (by unfold xC1 xC0 nC; omega)).trans u2, fun j hj => absurd hj (Nat.not_lt_zero _)⟩, xTp0 i9, X.fr s f (w _ _ (by omega)) (fun _ => w _ _ (by omega)), g, J.fr s f (w _ _ (by omega)) (w _ _ (by omega)) (w _ _ (by omega)), fun i hi => ((M i hi).ow (own' := a_ow own (z_n h)) a_ow_lo).fr hi s f (fun a k q => w _ _ (by omega)) hl⟩
  · rintro ⟨⟨bk, nm, n, ans, tr, se⟩, ⟨k, pa⟩, ⟨L, by8⟩, T, fl, j, im⟩ h A I
    dsimp only
    refine m_book I.s I.P (fun i hi => rfl) A.2.2.1 I.2.1 (fun h' e q f i2 g => ?_) (fun h' bk' nm' o q f i2 g B => ?_)
    · rw [q]
      exact ⟨rfl, I.tp A (f.w (fun o k c => by unfold mC0; exact ⟨c.1, c.2.2⟩)) (mTp0 i2) g⟩
    · rw [q]
      obtain ⟨s, R, S, U, P, X, F, J, M⟩ := I
      have w : ∀ o k, (o = 0 ∧ (k = 31 ∨ k = 44)) ∨ o = 6 ∨ o = 8 ∨ o = 12 ∨ o = 17 ∨ o = 20 ∨ o = 21 ∨ o = 22 → mC1 o k := fun o k q => by unfold mC1 mC0 mKp; omega
      obtain ⟨b1, b2, b3, b4⟩ := B
      exact ⟨rfl, f.s s, fun k hk => (f.L 6 k (w _ _ (by omega))).trans (R k hk), ⟨⟨b1, b2 36 (by omega) (by omega), fun i hi => absurd hi (Nat.not_lt_zero _)⟩, b3, b2 49 (by omega) (by omega), b2 176 (by omega) (by omega)⟩, ⟨b4, fun j hj => absurd hj (Nat.not_lt_zero _)⟩, mTp0 i2, ⟨(f.I 0 31 (w _ _ (by omega))).trans X.1, fun i hi => (f.I 12 i (w _ _ (by omega))).trans (X.2 i hi)⟩, g, J.fr f (w _ _ (by omega)) (fun k => w _ _ (by omega)), fun i hi => (M i hi).fr (A.2.2.2.2 i hi) f (w _ _ (by omega)) (fun k => w _ _ (by omega)) (fun k => w _ _ (by omega))⟩
end IVR
