/-! images, both sides; all operations -/
section IVI
variable {hX hM : z_T}
theorem iv_image (x : Int32) (I : Inv hX hM) : ∃ (r : Int32) (hX' hM' : z_T), fX11_image 0 x hX = some (r, hX') ∧ fX12_image 0 x hM = some (r, hM') ∧ Inv hX' hM' := by
  refine ivA (fun p => if z_ix x 2 = true then (nI 1, (p.1, p.2.1, p.2.2.1, p.2.2.2.1, p.2.2.2.2.1, p.2.2.2.2.2.1, fun i => if i = x.toNatClampNeg then some p.1 else p.2.2.2.2.2.2 i)) else (nI 0, p)) ?_ ?_ ?_ I
  · rintro ⟨⟨bk, nm, n, ans, tr, se⟩, ⟨k, pa⟩, ⟨L, by8⟩, T, fl, j, im⟩ A
    by_cases c : z_ix x 2 = true
    · simp only [if_pos c]
      refine ⟨A.1, A.2.1, A.2.2.1, A.2.2.2.1, fun i hi => ?_⟩
      show a_okO (if i = x.toNatClampNeg then some (bk, nm, n, ans, tr, se) else im i)
      by_cases e : i = x.toNatClampNeg
      · rw [if_pos e]; exact A.1
      · rw [if_neg e]; exact A.2.2.2.2 i hi
    · simp only [if_neg c]
      exact A
  · rintro ⟨⟨bk, nm, n, ans, tr, se⟩, ⟨k, pa⟩, ⟨L, by8⟩, T, fl, j, im⟩ h A I
    have I' := I
    obtain ⟨own, bo, s, S, U, P, X, F, J, M⟩ := I'
    have h83 := s.1
    refine x_opImage (bo := bo) ⟨s, S.1, S.2.1.b⟩ A.1.2.2.1.1 x (fun c => ?_) (fun h' i hi e f N' r1 r2 i3 => ?_)
    · simp only [if_neg c]
      exact ⟨by trivial, I⟩
    · subst e
      simp only [if_pos (q_ix hi (by omega)), nI_clamp (show i < 2 ^ 31 by omega)]
      have hl : xCL (fun a _ => a < 20 + 5 * i ∨ 25 + 5 * i ≤ a) h own := fun r a k h1 _ h3 _ => by omega
      have K := z_ok_K (xb_0 S.1.2.2.1.1)
      have hc := S.2.1.c (C := fun a _ => a < 20 + 5 * i ∨ 25 + 5 * i ≤ a) K (fun a k _ _ => by omega) hl
      refine ⟨by trivial, own, bo, f.s s, S.fr (Or.inl rfl) s f (fun a k q => by omega) (by omega) (by omega) hl, U.fr f s S.2.1.b (fun j k _ _ => by omega) hc, P.fr s f (by omega) (fun _ => by omega), X.fr s f (by omega) (fun _ => by omega), (f.I 13 8 (by omega) (by omega)).trans F, J.fr s f (by omega) (by omega) (by omega), fun i2 hi2 => ?_⟩
      show xIm h' own i2 (if i2 = i then some (bk, nm, n, ans, tr, se) else im i2)
      by_cases e : i2 = i
      · subst e
        rw [if_pos rfl]
        refine ⟨i3, bo, ?_, S.2.1, S.2.2.1.fr S.1.2.2.1.1 f hc, ?_, ?_⟩
        · rw [show 20 + 5 * i2 + 1 = 21 + 5 * i2 by omega]; exact N'
        · rw [r1]; exact S.2.2.2.1.fr f hl
        · rw [r2]; exact S.2.2.2.2.fr f hl
      · rw [if_neg e]
        exact (M i2 hi2).fr hi2 s f (fun a k q => by omega) hl
  · rintro ⟨⟨bk, nm, n, ans, tr, se⟩, ⟨k, pa⟩, ⟨L, by8⟩, T, fl, j, im⟩ h A I
    refine m_image I.s x (fun h' f c => ?_) (fun h' i hi e f c1 c2 c3 => ?_)
    · simp only [if_neg c]
      exact ⟨by trivial, I.fr A f⟩
    · subst e
      simp only [if_pos (q_ix hi (by omega)), nI_clamp (show i < 2 ^ 31 by omega)]
      obtain ⟨s, R, S, U, P, X, F, J, M⟩ := I
      have w : ∀ o k, (o = 0 ∧ (k = 2 ∨ k = 15 ∨ k = 24 ∨ k = 31 ∨ k = 44)) ∨ o = 1 ∨ o = 2 ∨ (o = 5 ∧ k < 14) ∨ o = 6 ∨ o = 8 ∨ o = 12 ∨ o = 17 → mKi i o k := fun o k q => by unfold mKi mKp; omega
      refine ⟨by trivial, f.s s, fun k hk => (f.L 6 k (w _ _ (by omega))).trans (R k hk), S.cg A.1 (fun k hk => f.I 2 k (w _ _ (by omega))) (fun k hk => f.L 5 k (w _ _ (by omega))), U.fr f (w _ _ (by omega)) (fun k => w _ _ (by omega)), ⟨(f.I 0 2 (w _ _ (by omega))).trans P.1, fun i hi => (f.I 1 i (w _ _ (by omega))).trans (P.2 i hi)⟩, ⟨(f.I 0 31 (w _ _ (by omega))).trans X.1, fun i hi => (f.I 12 i (w _ _ (by omega))).trans (X.2 i hi)⟩, (f.I 0 15 (w _ _ (by omega))).trans F, J.fr f (w _ _ (by omega)) (fun k => w _ _ (by omega)), fun i2 hi2 => ?_⟩
      show mIm h' i2 (if i2 = i then some (bk, nm, n, ans, tr, se) else im i2)
      by_cases e : i2 = i
      · subst e
        rw [if_pos rfl]
        exact ⟨c3, S.cg A.1 (fun k hk => c1 k hk) (fun k hk => c2 k hk)⟩
      · rw [if_neg e]
        have Mi := M i2 hi2
        have Ai := A.2.2.2.2 i2 hi2
        cases hq : im i2 with
        | none =>
          rw [hq] at Mi
          exact (f.I 22 i2 (by unfold mKi mKp; omega)).trans Mi
        | some σ =>
          rw [hq] at Mi Ai
          obtain ⟨bk1, nm1, n1, ans1, tr1, se1⟩ := σ
          exact ⟨(f.I 22 i2 (by unfold mKi mKp; omega)).trans Mi.1, Mi.2.cg Ai (fun k hk => f.I 20 _ (by unfold mKi mKp; omega)) (fun k hk => f.L 21 _ (by unfold mKi mKp; omega))⟩
def a_D0 : a_ST := (fun _ => 0, fun _ => 0, 0, fun _ => 0, none, none)
theorem iv_restore (x : Int32) (I : Inv hX hM) : ∃ (r : Int32) (hX' hM' : z_T), fX11_restore 0 x hX = some (r, hX') ∧ fX12_restore 0 x hM = some (r, hM') ∧ Inv hX' hM' := by
  refine ivA (fun p => match (if z_ix x 2 = true then p.2.2.2.2.2.2 x.toNatClampNeg else none) with
    | none => (nI 0, p)
    | some σ => (nI 1, (σ, (0, p.2.1.2), p.2.2))) ?_ ?_ ?_ I
  · rintro ⟨⟨bk, nm, n, ans, tr, se⟩, ⟨k, pa⟩, ⟨L, by8⟩, T, fl, j, im⟩ A
    dsimp only
    by_cases c : z_ix x 2 = true
    · rw [if_pos c]
      obtain ⟨i, hi, rfl⟩ := z_ixn (fun q => q c) (by omega)
      rw [nI_clamp (by omega)]
      have Ai := A.2.2.2.2 i hi
      cases hq : im i with
      | none => exact A
      | some σ =>
        rw [hq] at Ai
        obtain ⟨bk1, nm1, n1, ans1, tr1, se1⟩ := σ
        exact ⟨Ai, ⟨Nat.zero_le _, fun j hj => absurd hj (Nat.not_lt_zero _)⟩, A.2.2⟩
    · rw [if_neg c]
      exact A
  · rintro ⟨⟨bk, nm, n, ans, tr, se⟩, ⟨k, pa⟩, ⟨L, by8⟩, T, fl, j, im⟩ h A I
    have I' := I
    obtain ⟨own, bo, s, S, U, P, X, F, J, M⟩ := I'
    have h83 := s.1
    dsimp only
    have ex : ∀ i, i < 2 → ∃ b, ∀ bk1 nm1 n1 ans1 tr1 se1, im i = some (bk1, nm1, n1, ans1, tr1, se1) → xSp h own (20 + 5 * i) b bk1 nm1 n1 ans1 tr1 se1 := fun i hi => by
      have Mi := M i hi
      cases hq : im i with
      | none => exact ⟨0, fun _ _ _ _ _ _ e => absurd e (by simp)⟩
      | some σ =>
        rw [hq] at Mi
        obtain ⟨bk1, nm1, n1, ans1, tr1, se1⟩ := σ
        obtain ⟨-, b, Sp⟩ := Mi
        refine ⟨b, fun bk2 nm2 n2 ans2 tr2 se2 e => ?_⟩
        have e := Option.some.inj e
        have q1 : bk1 = bk2 := congrArg (fun q => q.1) e
        have q2 : nm1 = nm2 := congrArg (fun q => q.2.1) e
        have q3 : n1 = n2 := congrArg (fun q => q.2.2.1) e
        have q4 : ans1 = ans2 := congrArg (fun q => q.2.2.2.1) e
        have q5 : tr1 = tr2 := congrArg (fun q => q.2.2.2.2.1) e
        have q6 : se1 = se2 := congrArg (fun q => q.2.2.2.2.2) e
        subst q1 q2 q3 q4 q5 q6
        exact Sp
    obtain ⟨b0, hb0⟩ := ex 0 (by omega)
    obtain ⟨b1, hb1⟩ := ex 1 (by omega)
    have hb : ∀ i, i < 2 → ∀ bk1 nm1 n1 ans1 tr1 se1, im i = some (bk1, nm1, n1, ans1, tr1, se1) → xSp h own (20 + 5 * i) (if i = 0 then b0 else b1) bk1 nm1 n1 ans1 tr1 se1 := fun i hi => by
      by_cases e : i = 0
      · subst e; rw [if_pos rfl]; exact hb0
      · have e1 : i = 1 := by omega
        subst e1; rw [if_neg (by omega)]; exact hb1
    have some1 : ∀ i, i < 2 → ¬ z_I h (20 + 5 * i) 3 = nI 0 → ∃ bk1 nm1 n1 ans1 tr1 se1, im i = some (bk1, nm1, n1, ans1, tr1, se1) := fun i hi ne => by
      have Mi := M i hi
      cases hq : im i with
      | none => rw [hq] at Mi; exact absurd Mi ne
      | some σ =>
        obtain ⟨bk1, nm1, n1, ans1, tr1, se1⟩ := σ
        exact ⟨bk1, nm1, n1, ans1, tr1, se1, rfl⟩
    refine x_opRestore (bo1 := fun i => if i = 0 then b0 else b1) (n1 := fun i => ((im i).getD a_D0).2.2.1) (bk1 := fun i => ((im i).getD a_D0).1) (ans1 := fun i => ((im i).getD a_D0).2.2.2.1) s (fun i hi ne => ?_) x (fun c => ?_) (fun h' i hi e ne f W' r1 r2 i30 => ?_)
    · obtain ⟨bk1, nm1, n1, ans1, tr1, se1, q⟩ := some1 i hi ne
      have Sp := hb i hi _ _ _ _ _ _ q
      have Ai := A.2.2.2.2 i hi
      rw [q] at Ai
      rw [q]
      refine ⟨?_, Sp.2.1.b, Ai.2.2.1.1⟩
      have := Sp.1
      rw [show 20 + 5 * i + 1 = 21 + 5 * i by omega] at this
      exact this
    · have e0 : (if z_ix x 2 = true then im x.toNatClampNeg else none) = none := by
        by_cases c2 : z_ix x 2 = true
        · rw [if_pos c2]
          obtain ⟨i, hi, rfl⟩ := z_ixn (fun q => q c2) (by omega)
          rw [nI_clamp (by omega)]
          have z := c i hi rfl
          have Mi := M i hi
          cases hq : im i with
          | none => rfl
          | some σ =>
            rw [hq] at Mi
            obtain ⟨bk1, nm1, n1, ans1, tr1, se1⟩ := σ
            have := Mi.1
            rw [z] at this
            exact absurd this (by decide)
        · rw [if_neg c2]
      rw [e0]
      exact ⟨rfl, I⟩
    · subst e
      obtain ⟨bk1, nm1, n1, ans1, tr1, se1, q⟩ := some1 i hi ne
      have Sp := hb i hi _ _ _ _ _ _ q
      rw [if_pos (q_ix hi (by omega)), nI_clamp (by omega)]
      rw [q] at W' ⊢
      have hl : xCL (fun a k => (a < 14 ∨ 19 ≤ a ∨ (a = 14 ∧ k = 3)) ∧ (a ≠ 30 ∨ k ≠ 2)) h own := fun r a k h1 _ h3 _ => by omega
      have K := z_ok_K (xb_0 Sp.1.2.2.1.1)
      have hc := Sp.2.1.c (C := fun a k => (a < 14 ∨ 19 ≤ a ∨ (a = 14 ∧ k = 3)) ∧ (a ≠ 30 ∨ k ≠ 2)) K (fun a k _ _ => by omega) hl
      obtain ⟨u1, l, hl8, u2, u3⟩ := U
      refine ⟨rfl, own, _, W'.1, ⟨W'.2.1, Sp.2.1, Sp.2.2.1.fr Sp.1.2.2.1.1 f hc, ?_, ?_⟩, ⟨i30, l, hl8, (f.I 30 1 (by omega) (by omega)).trans u2, fun j hj => absurd hj (Nat.not_lt_zero _)⟩, P.fr s f (by omega) (fun _ => by omega), X.fr s f (by omega) (fun _ => by omega), (f.I 13 8 (by omega) (by omega)).trans F, J.fr s f (by omega) (by omega) (by omega), fun i2 hi2 => (M i2 hi2).fr hi2 s f (fun a k q => by omega) hl⟩
      · rw [r1]; exact Sp.2.2.2.1.fr f hl
      · rw [r2]; exact Sp.2.2.2.2.fr f hl
  · rintro ⟨⟨bk, nm, n, ans, tr, se⟩, ⟨k, pa⟩, ⟨L, by8⟩, T, fl, j, im⟩ h A I
    dsimp only
    refine m_restore I.s x (fun h' f c => ?_) (fun h' i hi e ne f c1 c2 u => ?_)
    · have M := I.2.2.2.2.2.2.2.2
      have e0 : (if z_ix x 2 = true then im x.toNatClampNeg else none) = none := by
        by_cases c2 : z_ix x 2 = true
        · rw [if_pos c2]
          obtain ⟨i, hi, rfl⟩ := z_ixn (fun q => q c2) (by omega)
          rw [nI_clamp (by omega)]
          have z := c i hi rfl
          have Mi := M i hi
          cases hq : im i with
          | none => rfl
          | some σ =>
            rw [hq] at Mi
            obtain ⟨bk1, nm1, n1, ans1, tr1, se1⟩ := σ
            have := Mi.1
            rw [z] at this
            exact absurd this (by decide)
        · rw [if_neg c2]
      rw [e0]
      exact ⟨rfl, I.fr A f⟩
    · subst e
      rw [if_pos (q_ix hi (by omega)), nI_clamp (by omega)]
      obtain ⟨s, R, S, U, P, X, F, J, M⟩ := I
      have Mi := M i hi
      have Ai := A.2.2.2.2 i hi
      have w : ∀ o k, (o = 0 ∧ (k = 2 ∨ k = 15 ∨ k = 31 ∨ k = 44)) ∨ o = 1 ∨ o = 6 ∨ o = 8 ∨ o = 12 ∨ o = 17 ∨ o = 20 ∨ o = 21 ∨ o = 22 → mKr o k := fun o k q => by unfold mKr mKp; omega
      cases hq : im i with
      | none => rw [hq] at Mi; exact absurd Mi ne
      | some σ =>
        rw [hq] at Mi Ai
        obtain ⟨bk1, nm1, n1, ans1, tr1, se1⟩ := σ
        exact ⟨rfl, f.s s, fun k hk => (f.L 6 k (w _ _ (by omega))).trans (R k hk), Mi.2.cg Ai (fun k hk => c1 k hk) (fun k hk => c2 k hk), ⟨u, fun j hj => absurd hj (Nat.not_lt_zero _)⟩, ⟨(f.I 0 2 (w _ _ (by omega))).trans P.1, fun i hi => (f.I 1 i (w _ _ (by omega))).trans (P.2 i hi)⟩, ⟨(f.I 0 31 (w _ _ (by omega))).trans X.1, fun i hi => (f.I 12 i (w _ _ (by omega))).trans (X.2 i hi)⟩, (f.I 0 15 (w _ _ (by omega))).trans F, J.fr f (w _ _ (by omega)) (fun k => w _ _ (by omega)), fun i2 hi2 => (M i2 hi2).fr (A.2.2.2.2 i2 hi2) f (w _ _ (by omega)) (fun k => w _ _ (by omega)) (fun k => w _ _ (by omega))⟩
end IVI
theorem iv_V : lq_V Inv 0 0 82 := fun hX hM ⟨p, A, X, M⟩ => ⟨xk0 X.s, mk0 M.s, xk82 X.s, by rw [xn82 X.s]; decide⟩
theorem iv_Ops : lq_Ops Inv 0 0 82 :=
  ⟨fun _ _ x1 x2 x3 x4 x5 I => iv_feed x1 x2 x3 x4 x5 I, fun _ _ x I => iv_end x I, fun _ _ I => iv_book I, fun _ _ I => iv_fault I, fun _ _ x y I => iv_test x y I, fun _ _ x y I => iv_dream x y I, fun _ _ x y I => iv_stays x y I, fun _ _ x y I => iv_ask x y I, fun _ _ I => iv_sleep I, fun _ _ x I => iv_answer x I, fun _ _ I => iv_undo I, fun _ _ y I => iv_sure y I, fun _ _ x y I => iv_odds x y I, fun _ _ I => iv_up I, fun _ _ I => iv_likely I, fun _ _ I => iv_fits I, fun _ _ I => iv_enough I, fun _ _ I => iv_forger I, fun _ _ x y I => iv_error x y I, fun _ _ I => iv_pair I, fun _ _ x y I => iv_cost x y I, fun _ _ x I => iv_first x I, fun _ _ x I => iv_write x I, fun _ _ x I => iv_byteAt x I, fun _ _ I => iv_tree I, fun _ _ y I => iv_worth y I, fun _ _ I => iv_leads I, fun _ _ x y I => iv_after x y I, fun _ _ y I => iv_lot y I, fun _ _ x y I => iv_share x y I, fun _ _ I => iv_next I, fun _ _ x y I => iv_fails x y I, fun _ _ x y I => iv_deep x y I, fun _ _ x y I => iv_tells x y I, fun _ _ x y I => iv_apart x y I, fun _ _ I => iv_nights I, fun _ _ x I => iv_judged x I, fun _ _ x y I => iv_drawn x y I, fun _ _ c y x I => iv_wrongs c y x I, fun _ _ I => iv_sentence I, fun _ _ x I => iv_said x I, fun _ _ x I => iv_image x I, fun _ _ x I => iv_restore x I, fun _ _ x I => iv_count x I⟩
