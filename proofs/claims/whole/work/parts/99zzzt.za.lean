/-! operations that write the tape, the night, the text -/
section IVW
variable {hX hM : z_T}
theorem iv_feed (x1 x2 x3 x4 x5 : Int32) (I : Inv hX hM) : ∃ (r : Int32) (hX' hM' : z_T), fX11_feed 0 x1 x2 x3 x4 x5 hX = some (r, hX') ∧ fX12_feed 0 x1 x2 x3 x4 x5 hM = some (r, hM') ∧ Inv hX' hM' := by
  refine ivA (fun p => if p.2.2.1.1 + 20 ≤ 940 then (nI (p.2.2.1.1 + 20), (p.1, p.2.1, (p.2.2.1.1 + 20, fun i => a_ubv (a_f5 (a_sB p.2.2.1.2) p.2.2.1.1 x1 x2 x3 x4 x5 i)), p.2.2.2)) else (m1, p)) ?_ ?_ ?_ I
  · rintro ⟨⟨bk, nm, n, ans, tr, se⟩, ⟨k, pa⟩, ⟨L, by8⟩, T, fl, j, im⟩ A
    by_cases c : L + 20 ≤ 940
    · simp only [if_pos c]
      exact ⟨A.1, A.2.1, ⟨c, fun i _ => a_ubv_lt _⟩, A.2.2.2⟩
    · simp only [if_neg c]
      exact A
  · rintro ⟨⟨bk, nm, n, ans, tr, se⟩, ⟨k, pa⟩, ⟨L, by8⟩, T, fl, j, im⟩ h A I
    refine x_opFeed I.s I.P A.2.2.1.1 x1 x2 x3 x4 x5 (fun c => ?_) (fun h' c f P' => ?_)
    · simp only [if_neg c]
      exact ⟨by trivial, I⟩
    · simp only [if_pos c]
      refine ⟨by trivial, I.tp (f.w (fun a k _ c => by omega)) (by rw [a_f5_8]; exact P') ((f.I 13 8 (by have := I.s.1; omega) (by omega)).trans I.F)⟩
  · rintro ⟨⟨bk, nm, n, ans, tr, se⟩, ⟨k, pa⟩, ⟨L, by8⟩, T, fl, j, im⟩ h A I
    refine m_feed I.s I.P A.2.2.1.1 x1 x2 x3 x4 x5 (fun h' c f => ?_) (fun h' c f P' => ?_)
    · simp only [if_neg c]
      exact ⟨by trivial, I.fr A f⟩
    · simp only [if_pos c]
      refine ⟨by trivial, I.tp A (f.w (fun a k c => ⟨c.1, c.2.1, by omega⟩)) (by rw [a_f5_8]; exact P') ((f.I 0 15 (by unfold mKp; omega)).trans I.F)⟩
theorem iv_end (x : Int32) (I : Inv hX hM) : ∃ (r : Int32) (hX' hM' : z_T), fX11_end 0 x hX = some (r, hX') ∧ fX12_end 0 x hM = some (r, hM') ∧ Inv hX' hM' := by
  refine ivA (fun p => if z_ix x (p.2.2.1.1 + 1) = true then (nI 1, (p.1, p.2.1, (x.toNatClampNeg, p.2.2.1.2), p.2.2.2)) else (nI 0, p)) ?_ ?_ ?_ I
  · rintro ⟨⟨bk, nm, n, ans, tr, se⟩, ⟨k, pa⟩, ⟨L, by8⟩, T, fl, j, im⟩ A
    have hL := A.2.2.1.1
    by_cases c : z_ix x (L + 1) = true
    · simp only [if_pos c]
      obtain ⟨t, ht, rfl⟩ := z_ixn (fun q => q c) (by omega)
      rw [nI_clamp (by omega)]
      exact ⟨A.1, A.2.1, ⟨by omega, fun i hi => A.2.2.1.2 i (by omega)⟩, A.2.2.2⟩
    · simp only [if_neg c]
      exact A
  · rintro ⟨⟨bk, nm, n, ans, tr, se⟩, ⟨k, pa⟩, ⟨L, by8⟩, T, fl, j, im⟩ h A I
    have hL := A.2.2.1.1
    refine x_opEnd I.s I.P A.2.2.1.1 x (fun c => ?_) (fun h' t ht e f P' => ?_)
    · simp only [if_neg c]
      exact ⟨by trivial, I⟩
    · subst e
      have ht : t ≤ L := ht
      simp only [if_pos (q_ix (show t < L + 1 by omega) (by omega)), nI_clamp (show t < 2 ^ 31 by omega)]
      exact ⟨by trivial, I.tp (f.w (fun a k _ c => by omega)) P' ((f.I 13 8 (by have := I.s.1; omega) (by omega)).trans I.F)⟩
  · rintro ⟨⟨bk, nm, n, ans, tr, se⟩, ⟨k, pa⟩, ⟨L, by8⟩, T, fl, j, im⟩ h A I
    have hL := A.2.2.1.1
    refine m_end I.s I.P A.2.2.1.1 x (fun h' c f => ?_) (fun h' t ht e f P' => ?_)
    · simp only [if_neg c]
      exact ⟨by trivial, I.fr A f⟩
    · subst e
      have ht : t ≤ L := ht
      simp only [if_pos (q_ix (show t < L + 1 by omega) (by omega)), nI_clamp (show t < 2 ^ 31 by omega)]
      exact ⟨by trivial, I.tp A (f.w (fun a k c => ⟨c.1, by have := c.2; omega⟩)) P' ((f.I 0 15 (by unfold mKp; omega)).trans I.F)⟩
theorem iv_first (x : Int32) (I : Inv hX hM) : ∃ (r : Int32) (hX' hM' : z_T), fX11_first 0 x hX = some (r, hX') ∧ fX12_first 0 x hM = some (r, hM') ∧ Inv hX' hM' := by
  refine ivA (fun p => (a_firstT p.1.1 x, p)) (fun p A => A) (fun p h A I => ?_) (fun p h A I => ?_) I
  · obtain ⟨bo, W⟩ := I.now
    exact x_opFirst W A.b x (fun h' f => ⟨by trivial, I.fr (f.w (fun a k _ c => by unfold xWk at c; omega))⟩)
  · exact m_first I.s A.b I.now x (fun h' f => ⟨by trivial, I.fr A f⟩)
theorem iv_write (x : Int32) (I : Inv hX hM) : ∃ (r : Int32) (hX' hM' : z_T), fX11_write 0 x hX = some (r, hX') ∧ fX12_write 0 x hM = some (r, hM') ∧ Inv hX' hM' := by
  refine ivA (fun p => if z_ix x 5 = true ∧ p.1.1 0 ≤ 6 then (nI (a_wt p.1.1 p.1.2.1 x.toNatClampNeg 0).length, (p.1, p.2.1, p.2.2.1, a_wt p.1.1 p.1.2.1 x.toNatClampNeg 0, p.2.2.2.2)) else (m1, p)) ?_ ?_ ?_ I
  · rintro ⟨⟨bk, nm, n, ans, tr, se⟩, ⟨k, pa⟩, ⟨L, by8⟩, T, fl, j, im⟩ A
    by_cases c : z_ix x 5 = true ∧ bk 0 ≤ 6
    · simp only [if_pos c]
      obtain ⟨m, hm, rfl⟩ := z_ixn (fun q => q c.1) (by omega)
      rw [nI_clamp (by omega)]
      refine ⟨A.1, A.2.1, A.2.2.1, ?_, A.2.2.2.2⟩
      have h1 := a_wt_len (bk := bk) (nm := nm) m 0
      have h2 := a_wl_le m (by omega)
      omega
    · simp only [if_neg c]
      exact A
  · rintro ⟨⟨bk, nm, n, ans, tr, se⟩, ⟨k, pa⟩, ⟨L, by8⟩, T, fl, j, im⟩ h A I
    have I' := I
    obtain ⟨own, bo, s, S, U, P, X, F, J, M⟩ := I'
    refine x_opWrite (bo := bo) ⟨s, S.1, S.2.1.b⟩ A.1.1 A.1.2.1 S.2.2.1 x (fun c => ?_) (fun h' m e hm h6 f X' => ?_)
    · simp only [if_neg c]
      exact ⟨by trivial, I⟩
    · subst e
      simp only [if_pos (show z_ix (nI m) 5 = true ∧ bk 0 ≤ 6 from ⟨q_ix (by omega) (by omega), h6⟩), nI_clamp (show m < 2 ^ 31 by omega)]
      exact ⟨by trivial, I.tx (f.w (fun a k _ c => by unfold xWk at c; unfold xCt; omega)) X'⟩
  · rintro ⟨⟨bk, nm, n, ans, tr, se⟩, ⟨k, pa⟩, ⟨L, by8⟩, T, fl, j, im⟩ h A I
    refine m_write I.s A.1.1 I.now A.1.2.1 I.nm x (fun h' c f => ?_) (fun h' m e hm h6 f X' => ?_)
    · simp only [if_neg c]
      exact ⟨by trivial, I.fr A f⟩
    · subst e
      simp only [if_pos (show z_ix (nI m) 5 = true ∧ bk 0 ≤ 6 from ⟨q_ix (by omega) (by omega), h6⟩), nI_clamp (show m < 2 ^ 31 by omega)]
      exact ⟨by trivial, I.tx A f X'⟩
theorem iv_ask (x y : Int32) (I : Inv hX hM) : ∃ (r : Int32) (hX' hM' : z_T), fX11_ask 0 x y hX = some (r, hX') ∧ fX12_ask 0 x y hM = some (r, hM') ∧ Inv hX' hM' := by
  refine ivA (fun p => if z_ix x (p.1.1 0) = true ∧ z_ix y 2 = true ∧ p.1.2.2.1 < 12 ∧ 0 < a_all p.1.1 (a_u p.1.2.2.2.1 p.1.2.2.1 (2 * x.toNatClampNeg + y.toNatClampNeg)) (p.1.2.2.1 + 1) then (nI (p.1.2.2.1 + 1), ((p.1.1, p.1.2.1, p.1.2.2.1 + 1, a_u p.1.2.2.2.1 p.1.2.2.1 (2 * x.toNatClampNeg + y.toNatClampNeg), p.1.2.2.2.2), (min (p.2.1.1 + 1) 8, a_push p.2.1.2 (p.1.2.2.1, p.1.2.2.2.1)), p.2.2)) else (m1, p)) ?_ ?_ ?_ I
  · rintro ⟨⟨bk, nm, n, ans, tr, se⟩, ⟨k, pa⟩, ⟨L, by8⟩, T, fl, j, im⟩ A
    by_cases c : z_ix x (bk 0) = true ∧ z_ix y 2 = true ∧ n < 12 ∧ 0 < a_all bk (a_u ans n (2 * x.toNatClampNeg + y.toNatClampNeg)) (n + 1)
    · simp only [if_pos c]
      obtain ⟨c1, c2, c3, c4⟩ := c
      have h8 := A.1.1.1
      obtain ⟨t, ht, rfl⟩ := z_ixn (fun q => q c1) (by omega)
      obtain ⟨st, hst, rfl⟩ := z_ixn (fun q => q c2) (by omega)
      rw [nI_clamp (by omega), nI_clamp (by omega)] at c4 ⊢
      refine ⟨⟨A.1.1, A.1.2.1, ⟨by omega, fun i hi => ?_, c4⟩, A.1.2.2.2⟩, ⟨by omega, a_push_ok A.1.2.2.1 A.2.1.2⟩, A.2.2⟩
      unfold a_u
      by_cases e : i = n
      · rw [if_pos e]; omega
      · rw [if_neg e]; exact A.1.2.2.1.2.1 i (by omega)
    · simp only [if_neg c]
      exact A
  · rintro ⟨⟨bk, nm, n, ans, tr, se⟩, ⟨k, pa⟩, ⟨L, by8⟩, T, fl, j, im⟩ h A I
    have I' := I
    obtain ⟨own, bo, s, S, U, P, X, F, J, M⟩ := I'
    refine x_opAsk (bo := bo) ⟨s, S.1, S.2.1.b⟩ A.1.1 A.1.2.2.1 U A.2.1.1 x y (fun c => ?_) (fun h' f c U' W' => ?_)
    · simp only [if_neg c]
      exact ⟨by trivial, I⟩
    · simp only [if_pos c]
      exact ⟨by trivial, xI.nt s S P X F J M f U' W'⟩
  · rintro ⟨⟨bk, nm, n, ans, tr, se⟩, ⟨k, pa⟩, ⟨L, by8⟩, T, fl, j, im⟩ h A I
    have hn := A.1.2.2.1.1
    refine m_askK2 I.s A.1.1 I.now A.1.2.2.1 I.2.2.2.1 A.2.1.1 (fun j hj => (A.2.1.2 j hj).1) x y (fun h' f c => ?_) (fun h' f c U' N' => ?_)
    · simp only [if_neg c]
      obtain ⟨s, R, S, U, P, X, F, J, M⟩ := I
      have w : ∀ o j, (o ≠ 2 ∨ j < 37 + n ∨ 37 + n < j ∨ 12 ≤ n) → ((o = 0 ∧ (j = 2 ∨ j = 15 ∨ j = 24 ∨ j = 31 ∨ j = 44)) ∨ o = 1 ∨ o = 2 ∨ (o = 5 ∧ j < 14) ∨ o = 6 ∨ o = 8 ∨ o = 12 ∨ o = 17 ∨ o = 20 ∨ o = 21 ∨ o = 22) → mKp o j ∧ (o ≠ 2 ∨ j ≠ 37 + n ∨ 12 ≤ n) := fun o j q1 q2 => ⟨q2, by omega⟩
      exact ⟨by trivial, f.s s, fun k hk => (f.L 6 k (w _ _ (by omega) (by omega))).trans (R k hk), S.nt A.1 (fun k q => f.I 2 k (w _ _ (by omega) (by omega))) (fun k hk => f.L 5 k (w _ _ (by omega) (by omega))) ((f.I 2 36 (w _ _ (by omega) (by omega))).trans S.1.2.1) (fun i hi => (f.I 2 _ (w _ _ (by omega) (by omega))).trans (S.1.2.2 i hi)), U.fr f (w _ _ (by omega) (by omega)) (fun k => w _ _ (by omega) (by omega)), ⟨(f.I 0 2 (w _ _ (by omega) (by omega))).trans P.1, fun i hi => (f.I 1 i (w _ _ (by omega) (by omega))).trans (P.2 i hi)⟩, ⟨(f.I 0 31 (w _ _ (by omega) (by omega))).trans X.1, fun i hi => (f.I 12 i (w _ _ (by omega) (by omega))).trans (X.2 i hi)⟩, (f.I 0 15 (w _ _ (by omega) (by omega))).trans F, J.fr f (w _ _ (by omega) (by omega)) (fun k => w _ _ (by omega) (by omega)), fun i hi => (M i hi).fr (A.2.2.2.2 i hi) f (w _ _ (by omega) (by omega)) (fun k => w _ _ (by omega) (by omega)) (fun k => w _ _ (by omega) (by omega))⟩
    · simp only [if_pos c]
      exact ⟨by trivial, I.nt A f U' N'⟩
theorem iv_sleep (I : Inv hX hM) : ∃ (r : Int32) (hX' hM' : z_T), fX11_sleep 0 hX = some (r, hX') ∧ fX12_sleep 0 hM = some (r, hM') ∧ Inv hX' hM' := by
  refine ivA (fun p => (nI p.1.2.2.1, ((p.1.1, p.1.2.1, 0, p.1.2.2.2), (min (p.2.1.1 + 1) 8, a_push p.2.1.2 (p.1.2.2.1, p.1.2.2.2.1)), p.2.2))) ?_ ?_ ?_ I
  · rintro ⟨⟨bk, nm, n, ans, tr, se⟩, ⟨k, pa⟩, ⟨L, by8⟩, T, fl, j, im⟩ A
    exact ⟨⟨A.1.1, A.1.2.1, A.1.1.new, A.1.2.2.2⟩, ⟨by omega, a_push_ok A.1.2.2.1 A.2.1.2⟩, A.2.2⟩
  · rintro ⟨⟨bk, nm, n, ans, tr, se⟩, ⟨k, pa⟩, ⟨L, by8⟩, T, fl, j, im⟩ h A I
    obtain ⟨own, bo, s, S, U, P, X, F, J, M⟩ := I
    exact x_opSleep (bo := bo) ⟨s, S.1, S.2.1.b⟩ A.1.1 A.1.2.2.1.1 U A.2.1.1 (fun h' f W' U' => ⟨by trivial, xI.nt s S P X F J M f U' W'⟩)
  · rintro ⟨⟨bk, nm, n, ans, tr, se⟩, ⟨k, pa⟩, ⟨L, by8⟩, T, fl, j, im⟩ h A I
    exact m_sleep I.s I.now A.1.2.2.1.1 I.2.2.2.1 A.2.1.1 (fun j hj => (A.2.1.2 j hj).1) (fun h' f U' N' => ⟨by trivial, I.nt A (f.w (fun o j c => ⟨c.1, c.2.1, c.2.2.1, by omega⟩)) U' N'⟩)
theorem iv_undo (I : Inv hX hM) : ∃ (r : Int32) (hX' hM' : z_T), fX11_undo 0 hX = some (r, hX') ∧ fX12_undo 0 hM = some (r, hM') ∧ Inv hX' hM' := by
  refine ivA (fun p => if p.2.1.1 = 0 then (m1, p) else (nI (p.2.1.1 - 1), ((p.1.1, p.1.2.1, (p.2.1.2 0).1, (p.2.1.2 0).2, p.1.2.2.2.2), (p.2.1.1 - 1, fun j => p.2.1.2 (j + 1)), p.2.2))) ?_ ?_ ?_ I
  · rintro ⟨⟨bk, nm, n, ans, tr, se⟩, ⟨k, pa⟩, ⟨L, by8⟩, T, fl, j, im⟩ A
    by_cases c : k = 0
    · simp only [if_pos c]
      exact A
    · simp only [if_neg c]
      exact ⟨⟨A.1.1, A.1.2.1, A.2.1.2 0 (by omega), A.1.2.2.2⟩, ⟨by have := A.2.1.1; omega, fun j hj => A.2.1.2 (j + 1) (by omega)⟩, A.2.2⟩
  · rintro ⟨⟨bk, nm, n, ans, tr, se⟩, ⟨k, pa⟩, ⟨L, by8⟩, T, fl, j, im⟩ h A I
    have I' := I
    obtain ⟨own, bo, s, S, U, P, X, F, J, M⟩ := I'
    refine x_opUndo (bo := bo) ⟨s, S.1, S.2.1.b⟩ U A.2.1.1 (fun j hj => (A.2.1.2 j hj).1) (fun c => ?_) (fun h' f c W' U' => ?_)
    · simp only [if_pos c]
      exact ⟨by trivial, I⟩
    · simp only [if_neg (show ¬ k = 0 by omega)]
      exact ⟨by trivial, xI.nt s S P X F J M (f.w (fun a k _ c => ⟨c.1, c.2.2⟩)) U' W'⟩
  · rintro ⟨⟨bk, nm, n, ans, tr, se⟩, ⟨k, pa⟩, ⟨L, by8⟩, T, fl, j, im⟩ h A I
    refine m_undoK I.s I.now I.2.2.2.1 A.2.1.1 (fun j hj => (A.2.1.2 j hj).1) (fun h' f c => ?_) (fun h' f c N' U' => ?_)
    · simp only [if_pos c]
      exact ⟨by trivial, I.fr A f⟩
    · simp only [if_neg (show ¬ k = 0 by omega)]
      exact ⟨by trivial, I.nt A (f.w (fun o j c => ⟨c.1, c.2.2.2, c.2.2.1⟩)) U' N'⟩
theorem iv_drawn (y x : Int32) (I : Inv hX hM) : ∃ (r : Int32) (hX' hM' : z_T), fX11_drawn 0 y x hX = some (r, hX') ∧ fX12_drawn 0 y x hM = some (r, hM') ∧ Inv hX' hM' := by
  refine ivA (fun p => if z_ix y 13 = true ∧ (y = nI 0 ∨ 0 < p.1.1 0) then (nI (a_dq p.1.1 x), ((p.1.1, p.1.2.1, y.toNatClampNeg, a_da p.1.1 x y.toNatClampNeg, p.1.2.2.2.2), (min (p.2.1.1 + 1) 8, a_push p.2.1.2 (p.1.2.2.1, p.1.2.2.2.1)), p.2.2)) else (m1, p)) ?_ ?_ ?_ I
  · rintro ⟨⟨bk, nm, n, ans, tr, se⟩, ⟨k, pa⟩, ⟨L, by8⟩, T, fl, j, im⟩ A
    by_cases c : z_ix y 13 = true ∧ (y = nI 0 ∨ 0 < bk 0)
    · simp only [if_pos c]
      obtain ⟨m, hm, e, h0⟩ := a_cd_n (bk := bk) c
      subst e
      rw [nI_clamp (by omega)]
      exact ⟨⟨A.1.1, A.1.2.1, NOK.drawn A.1.1 hm h0 x, A.1.2.2.2⟩, ⟨by omega, a_push_ok A.1.2.2.1 A.2.1.2⟩, A.2.2⟩
    · simp only [if_neg c]
      exact A
  · rintro ⟨⟨bk, nm, n, ans, tr, se⟩, ⟨k, pa⟩, ⟨L, by8⟩, T, fl, j, im⟩ h A I
    have I' := I
    obtain ⟨own, bo, s, S, U, P, X, F, J, M⟩ := I'
    refine x_opDrawn (bo := bo) ⟨s, S.1, S.2.1.b⟩ A.1.1 A.1.2.2.1.1 U A.2.1.1 y x (fun c => ?_) (fun h' m f c hm e h0 U' W' => ?_)
    · simp only [if_neg (show ¬ (z_ix y 13 = true ∧ (y = nI 0 ∨ 0 < bk 0)) from c)]
      exact ⟨by trivial, I⟩
    · simp only [if_pos (show z_ix y 13 = true ∧ (y = nI 0 ∨ 0 < bk 0) from c)]
      subst e
      simp only [nI_clamp (show m < 2 ^ 31 by omega)]
      exact ⟨by trivial, xI.nt s S P X F J M f U' W'⟩
  · rintro ⟨⟨bk, nm, n, ans, tr, se⟩, ⟨k, pa⟩, ⟨L, by8⟩, T, fl, j, im⟩ h A I
    refine m_drawnK I.s A.1.1 I.now A.1.2.2.1.1 I.2.2.2.1 A.2.1.1 (fun j hj => (A.2.1.2 j hj).1) y x (fun h' f c => ?_) (fun h' m f c hm e h0 U' N' => ?_)
    · simp only [if_neg (show ¬ (z_ix y 13 = true ∧ (y = nI 0 ∨ 0 < bk 0)) from c)]
      exact ⟨by trivial, I.fr A f⟩
    · simp only [if_pos (show z_ix y 13 = true ∧ (y = nI 0 ∨ 0 < bk 0) from c)]
      subst e
      simp only [nI_clamp (show m < 2 ^ 31 by omega)]
      exact ⟨by trivial, I.nt A f U' N'⟩
theorem iv_wrongs (c y x : Int32) (I : Inv hX hM) : ∃ (r : Int32) (hX' hM' : z_T), fX11_wrongs 0 c y x hX = some (r, hX') ∧ fX12_wrongs 0 c y x hM = some (r, hM') ∧ Inv hX' hM' := by
  refine ivA (fun p => (a_wr p.1.1 c y x, p)) (fun p A => A) (fun p h A I => ?_) ?_ I
  · obtain ⟨bo, W⟩ := I.now
    exact x_opWrongs W A.b c y x (fun h' f => ⟨by trivial, I.fr (f.w (fun a k _ c => by unfold xWk at c; omega))⟩)
  · rintro ⟨⟨bk, nm, n, ans, tr, se⟩, ⟨k, pa⟩, ⟨L, by8⟩, T, fl, j, im⟩ h A I
    exact m_wrongsK I.s A.1.1 I.now A.1.2.2.1.1 c y x (fun h' f N' => ⟨by trivial, I.nt A (f.w (fun o j c => ⟨c.1, c.2.2.2⟩)) (I.2.2.2.1.fr f (by unfold mKp; omega) (fun k => by unfold mKp; omega)) N'⟩)
theorem iv_said (x : Int32) (I : Inv hX hM) : ∃ (r : Int32) (hX' hM' : z_T), fX11_said 0 x hX = some (r, hX') ∧ fX12_said 0 x hM = some (r, hM') ∧ Inv hX' hM' := by
  refine ivA (fun p => ((p.1.2.2.2.2.2.map (fun q => a_said p.1.1 p.1.2.2.2.1 q.1 p.1.2.2.1 q.2 x)).getD m1, p)) (fun p A => A) ?_ ?_ I
  · rintro ⟨⟨bk, nm, n, ans, tr, se⟩, ⟨k, pa⟩, ⟨L, by8⟩, T, fl, j, im⟩ h A I
    have I' := I
    obtain ⟨own, bo, s, S, U, P, X, F, J, M⟩ := I'
    cases se with
    | none => exact x_opSaid0 s S.2.2.2.2 ⟨by trivial, I⟩
    | some q =>
      obtain ⟨cf, c⟩ := q
      obtain ⟨so, c1, r, t, h83, ow⟩ := S.2.2.2.2
      obtain ⟨W, h1, hc⟩ := A.1.2.2.2.2 cf c rfl
      have KB := z_ok_K (xb_0 S.1.2.2.1.1)
      have KS := z_ok_K t.1.1
      have hbs : bo + 8 ≤ so ∨ so + 4 ≤ bo := by
        rcases S.2.1 with e | ⟨e1, e2⟩
        · omega
        · refine Classical.byContradiction (fun z => ?_)
          have e : bo = so := by
            by_cases q : bo ≤ so
            · have o1 := e2 (so - bo) (by omega)
              have o2 := ow 0 (by omega)
              rw [show bo + (so - bo) = so by omega] at o1
              rw [Nat.add_zero] at o2
              omega
            · have o1 := ow (bo - so) (by omega)
              have o2 := e2 0 (by omega)
              rw [show so + (bo - so) = bo by omega] at o1
              rw [Nat.add_zero] at o2
              omega
          rw [e, KS] at KB
          exact absurd KB (by decide)
      have hl : xCL (fun a _ => a ≠ so + 3) h own := fun r a k h1 h2 h3 h4 e => by
        have o1 := ow 3 (by omega)
        rw [← e, h2] at o1
        subst o1
        exact h4 KS e
      refine x_opSaid (bo := bo) ⟨s, S.1, S.2.1.b⟩ A.1.1 A.1.2.2.1 h83 hbs r t W h1 hc (fun h' f => ⟨by trivial, own, bo, f.s s, S.fr (Or.inl rfl) s f (fun a k q => by omega) (by omega) (by omega) hl, U.fr f s S.2.1.b (fun j k _ _ => by omega) (S.2.1.c KB (fun a k _ _ => by omega) hl), P.fr s f (by omega) (fun _ => by omega), X.fr s f (by omega) (fun _ => by omega), (f.I 13 8 (by have := s.1; omega) (by omega)).trans F, J.fr s f (by omega) (by omega) (by omega), fun i hi => (M i hi).fr hi s f (fun a k q => by omega) hl⟩)
  · rintro ⟨⟨bk, nm, n, ans, tr, se⟩, ⟨k, pa⟩, ⟨L, by8⟩, T, fl, j, im⟩ h A I
    have w : ∀ h', m_fr (fun o k => o ≠ 19 ∧ (o ≠ 0 ∨ k ≠ 0)) h h' → mI h' ((bk, nm, n, ans, tr, se), (k, pa), (L, by8), T, fl, j, im) := fun h' f => I.fr A (f.w (fun o k c => by unfold mKp at c; omega))
    cases se with
    | none => exact m_said0 I.s I.2.2.1.2.2.2 (fun h' f => ⟨by trivial, w h' f⟩)
    | some q =>
      obtain ⟨cf, c⟩ := q
      obtain ⟨W, h1, hc⟩ := A.1.2.2.2.2 cf c rfl
      exact m_said I.s A.1.1 I.now A.1.2.2.1 I.2.2.1.2.2.2 W h1 hc (fun h' f => ⟨by trivial, w h' f⟩)
end IVW
