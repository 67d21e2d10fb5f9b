/-! tape, nights and what was, both sides -/
theorem ivA {fX fM : z_T → Option (Int32 × z_T)} (F : a_IS → Int32 × a_IS) (gA : ∀ p, aI p → aI (F p).2) (gX : ∀ p h, aI p → xI h p → p_W (fX h) (fun w => w.1 = (F p).1 ∧ xI w.2 (F p).2)) (gM : ∀ p h, aI p → mI h p → p_W (fM h) (fun w => w.1 = (F p).1 ∧ mI w.2 (F p).2)) {hX hM : z_T} (I : Inv hX hM) : ∃ (r : Int32) (hX' hM' : z_T), fX hX = some (r, hX') ∧ fM hM = some (r, hM') ∧ Inv hX' hM' := by
  obtain ⟨p, A, X, M⟩ := I
  obtain ⟨⟨r, hX'⟩, e1, q1, X'⟩ := gX p hX A X
  obtain ⟨⟨r2, hM'⟩, e2, q2, M'⟩ := gM p hM A M
  have q1 : r = (F p).1 := q1
  have q2 : r2 = (F p).1 := q2
  subst q1 q2
  exact ⟨_, hX', hM', e1, e2, F p |>.2, gA p A, X', M'⟩
/-- a byte of an int -/
def a_ubv (v : Int32) : Nat := v.toInt8.toBitVec.toNat
theorem a_ubv_lt (v : Int32) : a_ubv v < 256 := v.toInt8.toBitVec.isLt
theorem s_byte (y : Int8) : (nI y.toBitVec.toNat).toInt8 = y := by
  apply Int8.toBitVec_inj.mp
  show (BitVec.ofNat 32 y.toBitVec.toNat).signExtend 8 = y.toBitVec
  rw [BitVec.signExtend_eq_setWidth_of_le _ (by decide)]
  apply BitVec.eq_of_toNat_eq
  rw [BitVec.toNat_setWidth, BitVec.toNat_ofNat]
  have := y.toBitVec.isLt
  omega
theorem a_sb_ub {v : Int32} (h : ∃ y : Int8, v = y.toInt32) : a_sb (a_ubv v) = v := by
  obtain ⟨y, rfl⟩ := h
  unfold a_sb a_ubv
  rw [s_byte]
  simp
theorem a_pb_8 {TB : Nat → Int32} {L k : Nat} {x : Int32} (h : ∀ i, ∃ y : Int8, TB i = y.toInt32) : ∀ i, ∃ y : Int8, a_pb TB L (a_by x k) i = y.toInt32 := fun i => by
  unfold a_pb
  split
  · exact ⟨_, rfl⟩
  · exact h i
theorem a_f5_8 {by8 : Nat → Nat} {L : Nat} {x1 x2 x3 x4 x5 : Int32} : a_sB (fun i => a_ubv (a_f5 (a_sB by8) L x1 x2 x3 x4 x5 i)) = a_f5 (a_sB by8) L x1 x2 x3 x4 x5 := by
  have h4 : ∀ {TB : Nat → Int32} {L : Nat} {x : Int32}, (∀ i, ∃ y : Int8, TB i = y.toInt32) → ∀ i, ∃ y : Int8, a_p4 TB L x i = y.toInt32 := fun h => a_pb_8 (a_pb_8 (a_pb_8 (a_pb_8 h)))
  funext i
  exact a_sb_ub (h4 (h4 (h4 (h4 (h4 (fun i => ⟨_, rfl⟩))))) i)
theorem mIm.fr {C : Nat → Nat → Prop} {h h' : z_T} {i : Nat} {q : Option a_ST} (M : mIm h i q) (A : a_okO q) (f : m_fr C h h') (h1 : C 22 i) (h2 : ∀ k, C 20 k) (h3 : ∀ k, C 21 k) : mIm h' i q := by
  cases q with
  | none => exact (f.I 22 i h1).trans M
  | some σ =>
    obtain ⟨bk1, nm1, n1, ans1, tr1, se1⟩ := σ
    exact ⟨(f.I 22 i h1).trans M.1, M.2.cg A (fun k _ => f.I 20 _ (h2 _)) (fun k _ => f.L 21 _ (h3 _))⟩
theorem mJd.fr {C : Nat → Nat → Prop} {h h' : z_T} {j : Option (Int32 × Int32 × Int32)} (J : mJd h j) (f : m_fr C h h') (h1 : C 0 44) (h2 : ∀ k, C 17 k) : mJd h' j := by
  cases j with
  | none => exact (f.I 0 44 h1).trans J
  | some q => exact ⟨(f.I 0 44 h1).trans J.1, (f.I 17 0 (h2 _)).trans J.2.1, (f.I 17 1 (h2 _)).trans J.2.2.1, (f.I 17 2 (h2 _)).trans J.2.2.2⟩
section NT
variable {h h' : z_T} {bk nm ans ans' by8 by8' : Nat → Nat} {n n' k k' L L' bo : Nat} {pa pa' : Nat → Nat × (Nat → Nat)} {tr : Option (Nat → Nat)} {se : Option ((Nat → Nat) × Nat)} {T T' : List Nat} {fl fl' : Int32} {j : Option (Int32 × Int32 × Int32)} {im : Nat → Option a_ST} {own : Nat → Nat}
/-- another tape, another fault -/
theorem xI.tp (I : xI h ((bk, nm, n, ans, tr, se), (k, pa), (L, by8), T, fl, j, im)) (f : x_fr (fun a k => a ≠ 13 ∧ a ≠ 10 ∧ (a ≠ 9 ∨ k ≠ 1)) h h') (P' : xTp h' L' (a_sB by8')) (F' : z_I h' 13 8 = fl') : xI h' ((bk, nm, n, ans, tr, se), (k, pa), (L', by8'), T, fl', j, im) := by
  obtain ⟨own, bo, s, S, U, P, X, F, J, M⟩ := I
  have hl : xCL (fun a k => a ≠ 13 ∧ a ≠ 10 ∧ (a ≠ 9 ∨ k ≠ 1)) h own := fun r a k h1 _ h3 _ => by omega
  have K := z_ok_K (xb_0 S.1.2.2.1.1)
  exact ⟨own, bo, f.s s, S.fr (Or.inl rfl) s f (fun a k q => by omega) (by omega) (by omega) hl, U.fr f s S.2.1.b (fun j k _ _ => by omega) (S.2.1.c K (fun a k _ _ => by omega) hl), P', X.fr s f (by omega) (fun _ => by omega), F', J.fr s f (by omega) (by omega) (by omega), fun i hi => (M i hi).fr hi s f (fun a k q => by omega) hl⟩
theorem mI.tp (A : aI ((bk, nm, n, ans, tr, se), (k, pa), (L, by8), T, fl, j, im)) (I : mI h ((bk, nm, n, ans, tr, se), (k, pa), (L, by8), T, fl, j, im)) (f : m_fr (fun o k => mKp o k ∧ o ≠ 1 ∧ (o ≠ 0 ∨ (k ≠ 2 ∧ k ≠ 15))) h h') (P' : mTp h' L' (a_sB by8')) (F' : z_I h' 0 15 = fl') : mI h' ((bk, nm, n, ans, tr, se), (k, pa), (L', by8'), T, fl', j, im) := by
  obtain ⟨s, R, S, U, P, X, F, J, M⟩ := I
  have w : ∀ o k, (o = 0 ∧ (k = 24 ∨ k = 31 ∨ k = 44)) ∨ o = 2 ∨ (o = 5 ∧ k < 14) ∨ o = 6 ∨ o = 8 ∨ o = 12 ∨ o = 17 ∨ o = 20 ∨ o = 21 ∨ o = 22 → mKp o k ∧ o ≠ 1 ∧ (o ≠ 0 ∨ (k ≠ 2 ∧ k ≠ 15)) := fun o k q => by unfold mKp; omega
  exact ⟨f.s s, fun k hk => (f.L 6 k (w _ _ (by omega))).trans (R k hk), S.cg A.1 (fun k _ => f.I 2 k (w _ _ (by omega))) (fun k hk => f.L 5 k (w _ _ (by omega))), U.fr f (w _ _ (by omega)) (fun k => w _ _ (by omega)), P', ⟨(f.I 0 31 (w _ _ (by omega))).trans X.1, fun i hi => (f.I 12 i (w _ _ (by omega))).trans (X.2 i hi)⟩, F', J.fr f (w _ _ (by omega)) (fun k => w _ _ (by omega)), fun i hi => (M i hi).fr (A.2.2.2.2 i hi) f (w _ _ (by omega)) (fun k => w _ _ (by omega)) (fun k => w _ _ (by omega))⟩
/-- another text -/
theorem xI.tx (I : xI h ((bk, nm, n, ans, tr, se), (k, pa), (L, by8), T, fl, j, im)) (f : x_fr (fun a k => xWk a ∧ a ≠ 12 ∧ (a ≠ 11 ∨ k ≠ 1)) h h') (X' : xT h' T') : xI h' ((bk, nm, n, ans, tr, se), (k, pa), (L, by8), T', fl, j, im) := by
  obtain ⟨own, bo, s, S, U, P, X, F, J, M⟩ := I
  have h83 := s.1
  have w : ∀ a k, (a < 64 ∨ (79 ≤ a ∧ a ≠ 82)) ∧ a ≠ 12 ∧ a ≠ 11 → xWk a ∧ a ≠ 12 ∧ (a ≠ 11 ∨ k ≠ 1) := fun a k q => by unfold xWk; omega
  have hl : xCL (fun a k => xWk a ∧ a ≠ 12 ∧ (a ≠ 11 ∨ k ≠ 1)) h own := fun r a k h1 _ h3 _ => w _ _ (by omega)
  have K := z_ok_K (xb_0 S.1.2.2.1.1)
  exact ⟨own, bo, f.s s, S.fr (Or.inl rfl) s f (fun a k q => w _ _ (by omega)) (w _ _ (by omega)) (w _ _ (by omega)) hl, U.fr f s S.2.1.b (fun j k _ _ => w _ _ (by omega)) (S.2.1.c K (fun a k _ _ => w _ _ (by omega)) hl), P.fr s f (w _ _ (by omega)) (fun _ => w _ _ (by omega)), X', (f.I 13 8 (by omega) (w _ _ (by omega))).trans F, J.fr s f (w _ _ (by omega)) (w _ _ (by omega)) (w _ _ (by omega)), fun i hi => (M i hi).fr hi s f (fun a k q => w _ _ (by omega)) hl⟩
theorem mI.tx (A : aI ((bk, nm, n, ans, tr, se), (k, pa), (L, by8), T, fl, j, im)) (I : mI h ((bk, nm, n, ans, tr, se), (k, pa), (L, by8), T, fl, j, im)) (f : m_fr (fun o k => mKp o k ∧ mCt o k) h h') (X' : mT h' T') : mI h' ((bk, nm, n, ans, tr, se), (k, pa), (L, by8), T', fl, j, im) := by
  obtain ⟨s, R, S, U, P, X, F, J, M⟩ := I
  have w : ∀ o k, (o = 0 ∧ (k = 2 ∨ k = 15 ∨ k = 24 ∨ k = 44)) ∨ o = 1 ∨ o = 2 ∨ (o = 5 ∧ k < 14) ∨ o = 6 ∨ o = 8 ∨ o = 17 ∨ o = 20 ∨ o = 21 ∨ o = 22 → mKp o k ∧ mCt o k := fun o k q => by unfold mKp mCt; omega
  exact ⟨f.s s, fun k hk => (f.L 6 k (w _ _ (by omega))).trans (R k hk), S.cg A.1 (fun k _ => f.I 2 k (w _ _ (by omega))) (fun k hk => f.L 5 k (w _ _ (by omega))), U.fr f (w _ _ (by omega)) (fun k => w _ _ (by omega)), ⟨(f.I 0 2 (w _ _ (by omega))).trans P.1, fun i hi => (f.I 1 i (w _ _ (by omega))).trans (P.2 i hi)⟩, X', (f.I 0 15 (w _ _ (by omega))).trans F, J.fr f (w _ _ (by omega)) (fun k => w _ _ (by omega)), fun i hi => (M i hi).fr (A.2.2.2.2 i hi) f (w _ _ (by omega)) (fun k => w _ _ (by omega)) (fun k => w _ _ (by omega))⟩
/-- another night, another past -/
theorem xI.nt (s : SX h) (S : xSp h own 14 bo bk nm n ans tr se) (P : xTp h L (a_sB by8)) (X : xT h T) (F : z_I h 13 8 = fl) (J : xJd h j) (M : ∀ i, i < 2 → xIm h own i (im i)) (f : x_fr (fun a k => (a < 15 ∨ 19 ≤ a) ∧ (a < 32 ∨ 64 ≤ a) ∧ (a ≠ 30 ∨ k = 0)) h h') (U' : xU h' bo bk k' pa') (W' : xNow h' bo bk ans' n') : xI h' ((bk, nm, n', ans', tr, se), (k', pa'), (L, by8), T, fl, j, im) := by
  have h83 := s.1
  have hl : xCL (fun a k => (a < 15 ∨ 19 ≤ a) ∧ (a < 32 ∨ 64 ≤ a) ∧ (a ≠ 30 ∨ k = 0)) h own := fun r a k h1 _ h3 _ => by omega
  obtain ⟨N, B, Mn, Tr, Z⟩ := S
  have K := z_ok_K (xb_0 N.2.2.1.1)
  refine ⟨own, bo, W'.1, ⟨W'.2.1, B, Mn.fr N.2.2.1.1 f (B.c K (fun a k _ _ => by omega) hl), ?_, ?_⟩, U', P.fr s f (by omega) (fun _ => by omega), X.fr s f (by omega) (fun _ => by omega), (f.I 13 8 (by omega) (by omega)).trans F, J.fr s f (by omega) (by omega) (by omega), fun i hi => (M i hi).fr hi s f (fun a k q => by omega) hl⟩
  · rw [f.R 14 1 (by omega) (by omega)]; exact Tr.fr f hl
  · rw [f.R 14 2 (by omega) (by omega)]; exact Z.fr f hl
theorem mSp.nt {f f' : Nat → Int32} {g g' : Nat → Int64} (S : mSp f g bk nm n ans tr se) (A : a_ok bk nm n ans tr se) (e1 : ∀ k, k < 36 ∨ 49 ≤ k → f' k = f k) (e2 : ∀ k, k < 14 → g' k = g k) (e3 : f' 36 = nI n') (e4 : ∀ i, i < n' → f' (37 + i) = nI (ans' i)) : mSp f' g' bk nm n' ans' tr se := by
  obtain ⟨⟨S1, S2, S3⟩, ⟨S4, S5⟩, S6, S7⟩ := S
  obtain ⟨b, N, hO, A4, A5⟩ := A
  have b0 := b.1
  have b1 := b.2.1
  refine ⟨⟨fun k hk => (e1 k (by omega)).trans (S1 k hk), e3, e4⟩, ⟨fun t ht => (e2 t (by omega)).trans (S4 t ht), fun d hd => (e2 _ (by omega)).trans (S5 d hd)⟩, ?_, ?_⟩
  · cases tr with
    | none => exact (e1 49 (by omega)).trans S6
    | some nd =>
      obtain ⟨pos, m, q1, q2, q3, q4⟩ := S6
      exact ⟨pos, m, (e1 49 (by omega)).trans q1, q2, q3, q4.cg (fun k hk => e1 _ (by omega))⟩
  · cases se with
    | none => exact (e1 176 (by omega)).trans S7
    | some q =>
      obtain ⟨cf, c⟩ := q
      exact ⟨(e1 176 (by omega)).trans S7.1, fun i hi => (e1 _ (by omega)).trans (S7.2 i hi)⟩
theorem mI.nt (A : aI ((bk, nm, n, ans, tr, se), (k, pa), (L, by8), T, fl, j, im)) (I : mI h ((bk, nm, n, ans, tr, se), (k, pa), (L, by8), T, fl, j, im)) (f : m_fr (fun o j => mKp o j ∧ o ≠ 8 ∧ (o ≠ 0 ∨ j ≠ 24) ∧ (o ≠ 2 ∨ j < 36 ∨ 49 ≤ j)) h h') (U' : mU h' k' pa') (N' : mNi h' bk n' ans') : mI h' ((bk, nm, n', ans', tr, se), (k', pa'), (L, by8), T, fl, j, im) := by
  obtain ⟨s, R, S, U, P, X, F, J, M⟩ := I
  have w : ∀ o j, (o = 0 ∧ (j = 2 ∨ j = 15 ∨ j = 31 ∨ j = 44)) ∨ o = 1 ∨ (o = 2 ∧ (j < 36 ∨ 49 ≤ j)) ∨ (o = 5 ∧ j < 14) ∨ o = 6 ∨ o = 12 ∨ o = 17 ∨ o = 20 ∨ o = 21 ∨ o = 22 → mKp o j ∧ o ≠ 8 ∧ (o ≠ 0 ∨ j ≠ 24) ∧ (o ≠ 2 ∨ j < 36 ∨ 49 ≤ j) := fun o j q => by unfold mKp; omega
  exact ⟨f.s s, fun k hk => (f.L 6 k (w _ _ (by omega))).trans (R k hk), S.nt A.1 (fun k q => f.I 2 k (w _ _ (by omega))) (fun k hk => f.L 5 k (w _ _ (by omega))) N'.2.1 N'.2.2, U', ⟨(f.I 0 2 (w _ _ (by omega))).trans P.1, fun i hi => (f.I 1 i (w _ _ (by omega))).trans (P.2 i hi)⟩, ⟨(f.I 0 31 (w _ _ (by omega))).trans X.1, fun i hi => (f.I 12 i (w _ _ (by omega))).trans (X.2 i hi)⟩, (f.I 0 15 (w _ _ (by omega))).trans F, J.fr f (w _ _ (by omega)) (fun k => w _ _ (by omega)), fun i hi => (M i hi).fr (A.2.2.2.2 i hi) f (w _ _ (by omega)) (fun k => w _ _ (by omega)) (fun k => w _ _ (by omega))⟩
end NT
theorem a_push_ok {bk ans : Nat → Nat} {n k : Nat} {pa : Nat → Nat × (Nat → Nat)} (hO : NOK bk ans n) (hP : ∀ j, j < k → NOK bk (pa j).2 (pa j).1) : ∀ j, j < min (k + 1) 8 → NOK bk (a_push pa (n, ans) j).2 (a_push pa (n, ans) j).1
  | 0, _ => hO
  | j + 1, hj => hP j (by omega)
theorem m_askK2 {h : z_T} {bk ans : Nat → Nat} {n k : Nat} {pa : Nat → Nat × (Nat → Nat)} {Q : Int32 × z_T → Prop} (s : SM h) (b : BOK bk) (hN : mNi h bk n ans) (hO : NOK bk ans n) (hU : mU h k pa) (hk : k ≤ 8) (hpa : ∀ j, j < k → (pa j).1 ≤ 12) (x y : Int32)
    (k0 : ∀ h', m_fr (fun o j => mKp o j ∧ (o ≠ 2 ∨ j ≠ 37 + n ∨ 12 ≤ n)) h h' → ¬ (z_ix x (bk 0) = true ∧ z_ix y 2 = true ∧ n < 12 ∧ 0 < a_all bk (a_u ans n (2 * x.toNatClampNeg + y.toNatClampNeg)) (n + 1)) → Q (m1, h'))
    (k1 : ∀ h', m_fr (fun o j => mKp o j ∧ o ≠ 8 ∧ (o ≠ 0 ∨ j ≠ 24) ∧ (o ≠ 2 ∨ j < 36 ∨ 49 ≤ j)) h h' → (z_ix x (bk 0) = true ∧ z_ix y 2 = true ∧ n < 12 ∧ 0 < a_all bk (a_u ans n (2 * x.toNatClampNeg + y.toNatClampNeg)) (n + 1)) → mU h' (min (k + 1) 8) (a_push pa (n, ans)) → mNi h' bk (n + 1) (a_u ans n (2 * x.toNatClampNeg + y.toNatClampNeg)) → Q (nI (n + 1), h')) : p_W (fX12_ask 0 x y h) Q := by
  have hn := hO.1
  have h0 := b.1
  have s0 : SM (z_sI h 0 0 (nI 0)) := s
  have f0 : m_fr (fun o j => mKp o j ∧ (o ≠ 2 ∨ j ≠ 37 + n ∨ 12 ≤ n)) h (z_sI h 0 0 (nI 0)) := m_fr.t0.w (fun o k c => c.1)
  unfold fX12_ask
  simp (disch := first | assumption | omega) only [p_some, p_gd, p_br, p_bi, p_nm, p_mp, p_Sl, p_Sr, p_bis, p_gdt, q_IL, q_IR, q_LI, q_LR, q_RI, q_RL, q_KI, q_KL, q_KR, q_NI, q_NL, q_NR, q_nI, q_nL, q_nR, q_okI, q_okL, q_okR, q_Ie, q_In, q_Le, q_Ln, SM_I, SM_L, s_c0, s_cg0, s_cl0, s_cge, s_cle, r_le, r_lt, r_eq, r_md, r_2, r_3, r_lit, r_litL, r_m1, nI_add, nI_1, nI_clamp, nI_leI, nI_ltI, nI_eq, pk_sub, q_ix, nI_l, lN_add, lN_mul, r_m1n, r_m1n', r_m1lt, r_m1nlt, r_m1le, r_m1nle, Nat.not_lt_zero, Nat.reduceEqDiff, Nat.reduceLT, Nat.reduceLeDiff, true_and, and_true, true_implies, false_implies, not_true_eq_false, not_false_eq_true, implies_true, and_self, ne_eq, decide_true, decide_false, Bool.not_true, Bool.not_false, if_true, if_false, reduceIte, mk0, mk1, mk2, mk3, mk4, mk5, mk6, mk7, mk8, mk9, mk10, mk11, mk12, mk13, mk14, mk15, mk16, mk17, mk18, mk19, mk20, mk21, mk22, mn1, mn2, mn3, mn4, mn5, mn6, mn7, mn8, mn9, mn10, mn11, mn12, mn13, mn14, mn15, mn16, mn17, mn18, mn19, mn20, mn21, mn22, mr1, mr6, mr7, mr8, mr9, mr10, mr21, mr22, mr23, mr25, mr26, mr29, mr30, mr32, mr33, mr34, mr43, mr47, mr53, mr54, mr55, mr56, m_isTest s0 b hN.t0.1, bI_0, m_isInL, hN.2.1]
  refine ⟨fun c => k0 _ f0 (fun q => c q.1), fun c => ⟨fun c2 => k0 _ f0 (fun q => c2 q.2.1), fun c2 => ⟨fun c3 => k0 _ f0 (fun q => by omega), fun c3 => ?_⟩⟩⟩
  have cx := Classical.not_not.mp c
  have cy := Classical.not_not.mp c2
  obtain ⟨t, ht, rfl⟩ := z_ixn c (by omega)
  obtain ⟨st, hst, rfl⟩ := z_ixn c2 (by omega)
  rw [nI_clamp (by omega), nI_clamp (by omega)] at k0 k1
  have f1 : m_fr (fun o j => mKp o j ∧ (o ≠ 2 ∨ j ≠ 37 + n ∨ 12 ≤ n)) h (z_sI (z_sI h 0 0 (nI 0)) 2 (37 + n) (nI (2 * t + st))) := f0.sI (by omega)
  have hB1 : mB (z_sI (z_sI h 0 0 (nI 0)) 2 (37 + n) (nI (2 * t + st))) bk := fun k hk => (f1.I 2 k (by unfold mKp; omega)).trans (hN.1 k hk)
  have hA1 : mA (z_sI (z_sI h 0 0 (nI 0)) 2 (37 + n) (nI (2 * t + st))) (n + 1) (a_u ans n (2 * t + st)) := fun i hi => by
    unfold a_u
    by_cases e : i = n
    · rw [if_pos e, e]; exact q_Ie rfl rfl
    · rw [if_neg e]; exact (f1.I 2 _ (by unfold mKp; omega)).trans (hN.2.2 i (by omega))
  have ha1 : ∀ i, i < n + 1 → a_u ans n (2 * t + st) i < 2 * bk 0 := fun i hi => by
    unfold a_u
    by_cases e : i = n
    · rw [if_pos e]; omega
    · rw [if_neg e]; exact hO.2.1 i (by omega)
  obtain ⟨b1, b2, b3, b4⟩ := a_up_b b (show n + 1 ≤ 12 by omega) ha1
  simp (disch := first | assumption | omega) only [p_some, p_gd, p_br, p_bi, p_nm, p_mp, p_Sl, p_Sr, p_bis, p_gdt, q_IL, q_IR, q_LI, q_LR, q_RI, q_RL, q_KI, q_KL, q_KR, q_NI, q_NL, q_NR, q_nI, q_nL, q_nR, q_okI, q_okL, q_okR, q_Ie, q_In, q_Le, q_Ln, SM_I, SM_L, s_c0, s_cg0, s_cl0, s_cge, s_cle, r_le, r_lt, r_eq, r_md, r_2, r_3, r_lit, r_litL, r_m1, nI_add, nI_1, nI_clamp, nI_leI, nI_ltI, nI_eq, pk_sub, q_ix, nI_l, lN_add, lN_mul, r_m1n, r_m1n', r_m1lt, r_m1nlt, r_m1le, r_m1nle, Nat.not_lt_zero, Nat.reduceEqDiff, Nat.reduceLT, Nat.reduceLeDiff, true_and, and_true, true_implies, false_implies, not_true_eq_false, not_false_eq_true, implies_true, and_self, ne_eq, decide_true, decide_false, Bool.not_true, Bool.not_false, if_true, if_false, reduceIte, mk0, mk1, mk2, mk3, mk4, mk5, mk6, mk7, mk8, mk9, mk10, mk11, mk12, mk13, mk14, mk15, mk16, mk17, mk18, mk19, mk20, mk21, mk22, mn1, mn2, mn3, mn4, mn5, mn6, mn7, mn8, mn9, mn10, mn11, mn12, mn13, mn14, mn15, mn16, mn17, mn18, mn19, mn20, mn21, mn22, mr1, mr6, mr7, mr8, mr9, mr10, mr21, mr22, mr23, mr25, mr26, mr29, mr30, mr32, mr33, mr34, mr43, mr47, mr53, mr54, mr55, mr56, hN.2.1, pk_mul]
  refine m_likesQ (ans := a_u ans n (2 * t + st)) (m := n + 1) s b hB1 hA1 ha1 (by omega) (fun h2 f2 _ => ?_)
  simp (disch := first | assumption | omega) only [p_some, p_gd, p_br, p_bi, p_nm, p_mp, p_Sl, p_Sr, p_bis, p_gdt, q_IL, q_IR, q_LI, q_LR, q_RI, q_RL, q_KI, q_KL, q_KR, q_NI, q_NL, q_NR, q_nI, q_nL, q_nR, q_okI, q_okL, q_okR, q_Ie, q_In, q_Le, q_Ln, SM_I, SM_L, s_c0, s_cg0, s_cl0, s_cge, s_cle, r_le, r_lt, r_eq, r_md, r_2, r_3, r_lit, r_litL, r_m1, nI_add, nI_1, nI_clamp, nI_leI, nI_ltI, nI_eq, pk_sub, q_ix, nI_l, lN_add, lN_mul, r_m1n, r_m1n', r_m1lt, r_m1nlt, r_m1le, r_m1nle, Nat.not_lt_zero, Nat.reduceEqDiff, Nat.reduceLT, Nat.reduceLeDiff, true_and, and_true, true_implies, false_implies, not_true_eq_false, not_false_eq_true, implies_true, and_self, ne_eq, decide_true, decide_false, Bool.not_true, Bool.not_false, if_true, if_false, reduceIte]
  refine ⟨fun c4 => k0 _ (f1.tr (f2.k7.w (fun o k c => c.1))) (fun q => by omega), fun c4 => ?_⟩
  have s2 : SM h2 := f2.s s
  have hN2 : mNi h2 bk n ans := ⟨mB.fr f2 (fun k => by decide) hB1, (f2.I 2 36 (by decide)).trans ((f1.I 2 36 (by unfold mKp; omega)).trans hN.2.1), fun i hi => (f2.I 2 _ (by decide)).trans ((f1.I 2 _ (by unfold mKp; omega)).trans (hN.2.2 i hi))⟩
  have hU2 : mU h2 k pa := (hU.fr f1 (by unfold mKp; omega) (fun k => by unfold mKp; omega)).fr f2 (by decide) (fun k => by decide)
  simp (disch := first | assumption | omega) only [p_some, p_gd, p_br, p_bi, p_nm, p_mp, p_Sl, p_Sr, p_bis, p_gdt, q_IL, q_IR, q_LI, q_LR, q_RI, q_RL, q_KI, q_KL, q_KR, q_NI, q_NL, q_NR, q_nI, q_nL, q_nR, q_okI, q_okL, q_okR, q_Ie, q_In, q_Le, q_Ln, SM_I, SM_L, s_c0, s_cg0, s_cl0, s_cge, s_cle, r_le, r_lt, r_eq, r_md, r_2, r_3, r_lit, r_litL, r_m1, nI_add, nI_1, nI_clamp, nI_leI, nI_ltI, nI_eq, pk_sub, q_ix, nI_l, lN_add, lN_mul, r_m1n, r_m1n', r_m1lt, r_m1nlt, r_m1le, r_m1nle, Nat.not_lt_zero, Nat.reduceEqDiff, Nat.reduceLT, Nat.reduceLeDiff, true_and, and_true, true_implies, false_implies, not_true_eq_false, not_false_eq_true, implies_true, and_self, ne_eq, decide_true, decide_false, Bool.not_true, Bool.not_false, if_true, if_false, reduceIte, mk0, mk1, mk2, mk3, mk4, mk5, mk6, mk7, mk8, mk9, mk10, mk11, mk12, mk13, mk14, mk15, mk16, mk17, mk18, mk19, mk20, mk21, mk22, mn1, mn2, mn3, mn4, mn5, mn6, mn7, mn8, mn9, mn10, mn11, mn12, mn13, mn14, mn15, mn16, mn17, mn18, mn19, mn20, mn21, mn22, mr1, mr6, mr7, mr8, mr9, mr10, mr21, mr22, mr23, mr25, mr26, mr29, mr30, mr32, mr33, mr34, mr43, mr47, mr53, mr54, mr55, mr56]
  refine m_keep s2 hN2 hn hU2 hk hpa (fun h3 f3 hU3 => ?_)
  have s3 := f3.s s2
  have e36 : z_I h3 2 36 = nI n := (f3.I 2 36 (by omega)).trans hN2.2.1
  simp (disch := first | assumption | omega) only [p_some, p_gd, p_br, p_bi, p_nm, p_mp, p_Sl, p_Sr, p_bis, p_gdt, q_IL, q_IR, q_LI, q_LR, q_RI, q_RL, q_KI, q_KL, q_KR, q_NI, q_NL, q_NR, q_nI, q_nL, q_nR, q_okI, q_okL, q_okR, q_Ie, q_In, q_Le, q_Ln, SM_I, SM_L, s_c0, s_cg0, s_cl0, s_cge, s_cle, r_le, r_lt, r_eq, r_md, r_2, r_3, r_lit, r_litL, r_m1, nI_add, nI_1, nI_clamp, nI_leI, nI_ltI, nI_eq, pk_sub, q_ix, nI_l, lN_add, lN_mul, r_m1n, r_m1n', r_m1lt, r_m1nlt, r_m1le, r_m1nle, Nat.not_lt_zero, Nat.reduceEqDiff, Nat.reduceLT, Nat.reduceLeDiff, true_and, and_true, true_implies, false_implies, not_true_eq_false, not_false_eq_true, implies_true, and_self, ne_eq, decide_true, decide_false, Bool.not_true, Bool.not_false, if_true, if_false, reduceIte, mk0, mk1, mk2, mk3, mk4, mk5, mk6, mk7, mk8, mk9, mk10, mk11, mk12, mk13, mk14, mk15, mk16, mk17, mk18, mk19, mk20, mk21, mk22, mn1, mn2, mn3, mn4, mn5, mn6, mn7, mn8, mn9, mn10, mn11, mn12, mn13, mn14, mn15, mn16, mn17, mn18, mn19, mn20, mn21, mn22, mr1, mr6, mr7, mr8, mr9, mr10, mr21, mr22, mr23, mr25, mr26, mr29, mr30, mr32, mr33, mr34, mr43, mr47, mr53, mr54, mr55, mr56, e36]
  refine k1 _ (((f1.w (fun o k c => ⟨c.1, by omega⟩)).tr (f2.k7.w (fun o k c => c.1))).tr (f3.w (fun o k c => ⟨c.2.1, c.2.2.1⟩)) |>.sI (by omega)) ⟨cx, cy, by omega, by omega⟩ (hU3.fr (C := fun o k => o ≠ 2 ∨ k ≠ 36) (m_fr.rf.sI (by omega)) (by omega) (fun k => by omega)) ⟨fun k hk => ?_, q_Ie rfl rfl, fun i hi => ?_⟩
  · exact (q_In (by omega)).trans ((f3.I 2 k (by omega)).trans (hN2.1 k hk))
  · exact (q_In (by omega)).trans ((f3.I 2 _ (by omega)).trans ((f2.I 2 _ (by decide)).trans (hA1 i hi)))
