/-! operations that only read, on both sides -/
theorem aI.b {p : a_IS} (A : aI p) : BOK p.1.1 := by obtain ⟨⟨bk, nm, n, ans, tr, se⟩, ⟨k, pa⟩, ⟨L, by8⟩, T, fl, j, im⟩ := p; exact A.1.1
theorem aI.N {p : a_IS} (A : aI p) : NMO p.1.1 p.1.2.1 := by obtain ⟨⟨bk, nm, n, ans, tr, se⟩, ⟨k, pa⟩, ⟨L, by8⟩, T, fl, j, im⟩ := p; exact A.1.2.1
theorem aI.hO {p : a_IS} (A : aI p) : NOK p.1.1 p.1.2.2.2.1 p.1.2.2.1 := by obtain ⟨⟨bk, nm, n, ans, tr, se⟩, ⟨k, pa⟩, ⟨L, by8⟩, T, fl, j, im⟩ := p; exact A.1.2.2.1
theorem aI.n {p : a_IS} (A : aI p) : p.1.2.2.1 ≤ 12 := A.hO.1
theorem aI.ha {p : a_IS} (A : aI p) : ∀ i, i < p.1.2.2.1 → p.1.2.2.2.1 i < 2 * p.1.1 0 := A.hO.2.1
theorem aI.tr {p : a_IS} (A : aI p) : ∀ nd, p.1.2.2.2.2.1 = some nd → TOK (p.1.1 0) nd ∧ TPA nd ∧ ∀ q, nd q ≤ 10 := by obtain ⟨⟨bk, nm, n, ans, tr, se⟩, ⟨k, pa⟩, ⟨L, by8⟩, T, fl, j, im⟩ := p; exact A.1.2.2.2.1
theorem aI.T {p : a_IS} (A : aI p) : p.2.2.2.1.length ≤ 400 := by obtain ⟨⟨bk, nm, n, ans, tr, se⟩, ⟨k, pa⟩, ⟨L, by8⟩, T, fl, j, im⟩ := p; exact A.2.2.2.1
theorem xI.s {h : z_T} {p : a_IS} (I : xI h p) : SX h := by obtain ⟨⟨bk, nm, n, ans, tr, se⟩, ⟨k, pa⟩, ⟨L, by8⟩, T, fl, j, im⟩ := p; obtain ⟨own, bo, s, -⟩ := I; exact s
theorem xI.now {h : z_T} {p : a_IS} (I : xI h p) : ∃ bo, xNow h bo p.1.1 p.1.2.2.2.1 p.1.2.2.1 := by
  obtain ⟨⟨bk, nm, n, ans, tr, se⟩, ⟨k, pa⟩, ⟨L, by8⟩, T, fl, j, im⟩ := p
  obtain ⟨own, bo, s, S, -⟩ := I
  exact ⟨bo, s, S.1, S.2.1.b⟩
theorem xI.tr {h : z_T} {p : a_IS} (I : xI h p) : (p.1.2.2.2.2.1 = none → z_R h 14 1 = none) ∧ ∀ nd, p.1.2.2.2.2.1 = some nd → ∃ to cnt, z_R h 14 1 = some to ∧ xTn h to nd cnt := by
  obtain ⟨⟨bk, nm, n, ans, tr, se⟩, ⟨k, pa⟩, ⟨L, by8⟩, T, fl, j, im⟩ := p
  obtain ⟨own, bo, s, S, -⟩ := I
  have T := S.2.2.2.1
  refine ⟨fun e => ?_, fun nd e => ?_⟩
  · have e : tr = none := e
    subst e; exact T
  · have e : tr = some nd := e
    subst e
    obtain ⟨to, cnt, r, t, -⟩ := T
    exact ⟨to, cnt, r, t⟩
theorem xI.T {h : z_T} {p : a_IS} (I : xI h p) : xT h p.2.2.2.1 := by obtain ⟨⟨bk, nm, n, ans, tr, se⟩, ⟨k, pa⟩, ⟨L, by8⟩, T, fl, j, im⟩ := p; obtain ⟨own, bo, s, S, U, P, X, F, J, M⟩ := I; exact X
theorem xI.P {h : z_T} {p : a_IS} (I : xI h p) : xTp h p.2.2.1.1 (a_sB p.2.2.1.2) := by obtain ⟨⟨bk, nm, n, ans, tr, se⟩, ⟨k, pa⟩, ⟨L, by8⟩, T, fl, j, im⟩ := p; obtain ⟨own, bo, s, S, U, P, X, F, J, M⟩ := I; exact P
theorem xI.F {h : z_T} {p : a_IS} (I : xI h p) : z_I h 13 8 = p.2.2.2.2.1 := by obtain ⟨⟨bk, nm, n, ans, tr, se⟩, ⟨k, pa⟩, ⟨L, by8⟩, T, fl, j, im⟩ := p; obtain ⟨own, bo, s, S, U, P, X, F, J, M⟩ := I; exact F
theorem xI.J {h : z_T} {p : a_IS} (I : xI h p) : xJd h p.2.2.2.2.2.1 := by obtain ⟨⟨bk, nm, n, ans, tr, se⟩, ⟨k, pa⟩, ⟨L, by8⟩, T, fl, j, im⟩ := p; obtain ⟨own, bo, s, S, U, P, X, F, J, M⟩ := I; exact J
theorem mI.s {h : z_T} {p : a_IS} (I : mI h p) : SM h := by obtain ⟨⟨bk, nm, n, ans, tr, se⟩, ⟨k, pa⟩, ⟨L, by8⟩, T, fl, j, im⟩ := p; exact I.1
theorem mI.now {h : z_T} {p : a_IS} (I : mI h p) : mNi h p.1.1 p.1.2.2.1 p.1.2.2.2.1 := by obtain ⟨⟨bk, nm, n, ans, tr, se⟩, ⟨k, pa⟩, ⟨L, by8⟩, T, fl, j, im⟩ := p; exact I.2.2.1.1
theorem mI.nm {h : z_T} {p : a_IS} (I : mI h p) : mNm h p.1.1 p.1.2.1 := by obtain ⟨⟨bk, nm, n, ans, tr, se⟩, ⟨k, pa⟩, ⟨L, by8⟩, T, fl, j, im⟩ := p; exact I.2.2.1.2.1
theorem mI.tr {h : z_T} {p : a_IS} (A : aI p) (I : mI h p) : (p.1.2.2.2.2.1 = none → z_I h 2 49 = nI 0) ∧ ∀ nd, p.1.2.2.2.2.1 = some nd → ∃ pos m, mTr h nd pos m := by
  obtain ⟨⟨bk, nm, n, ans, tr, se⟩, ⟨k, pa⟩, ⟨L, by8⟩, T, fl, j, im⟩ := p
  have T := I.2.2.1.2.2.1
  have A := A.1.2.2.2.1
  refine ⟨fun e => ?_, fun nd e => ?_⟩
  · have e : tr = none := e
    subst e; exact T
  · have e : tr = some nd := e
    subst e
    obtain ⟨pos, m, q1, q2, q3, q4⟩ := T
    exact ⟨pos, m, q1, q2, q3, q4, (A nd rfl).2.2⟩
theorem mI.P {h : z_T} {p : a_IS} (I : mI h p) : mTp h p.2.2.1.1 (a_sB p.2.2.1.2) := by obtain ⟨⟨bk, nm, n, ans, tr, se⟩, ⟨k, pa⟩, ⟨L, by8⟩, T, fl, j, im⟩ := p; exact I.2.2.2.2.1
theorem mI.T {h : z_T} {p : a_IS} (I : mI h p) : mT h p.2.2.2.1 := by obtain ⟨⟨bk, nm, n, ans, tr, se⟩, ⟨k, pa⟩, ⟨L, by8⟩, T, fl, j, im⟩ := p; exact I.2.2.2.2.2.1
theorem mI.F {h : z_T} {p : a_IS} (I : mI h p) : z_I h 0 15 = p.2.2.2.2.1 := by obtain ⟨⟨bk, nm, n, ans, tr, se⟩, ⟨k, pa⟩, ⟨L, by8⟩, T, fl, j, im⟩ := p; exact I.2.2.2.2.2.2.1
theorem mI.J {h : z_T} {p : a_IS} (I : mI h p) : mJd h p.2.2.2.2.2.1 := by obtain ⟨⟨bk, nm, n, ans, tr, se⟩, ⟨k, pa⟩, ⟨L, by8⟩, T, fl, j, im⟩ := p; exact I.2.2.2.2.2.2.2.1
theorem ivB {fX : z_T → Option Int32} {fM : z_T → Option (Int32 × z_T)} (f : a_IS → Int32) (gX : ∀ p h, aI p → xI h p → fX h = some (f p)) (gM : ∀ p h, aI p → mI h p → p_W (fM h) (fun w => w.1 = f p ∧ m_fr mKp h w.2)) {hX hM : z_T} (I : Inv hX hM) : ∃ (r : Int32) (hM' : z_T), fX hX = some r ∧ fM hM = some (r, hM') ∧ Inv hX hM' := by
  obtain ⟨p, A, X, M⟩ := I
  obtain ⟨⟨r, hM'⟩, e, e1, f1⟩ := gM p hM A M
  have e1 : r = f p := e1
  subst e1
  exact ⟨_, hM', gX p hX A X, e, p, A, X, M.fr A f1⟩
theorem ivC {fL : z_T → Option (Int32 × z_T)} {fM : z_T → Option (Int64 × z_T)} (f : a_IS → Option Int64) (gX : ∀ p h, aI p → xI h p → p_W (fL h) (fun w => x_fr (fun a _ => xWk a) h w.2 ∧ ((f p = none ∧ w.1 = nI 1) ∨ ∃ v, f p = some v ∧ w.1 = nI 0 ∧ z_L w.2 82 0 = v))) (gM : ∀ p h, aI p → mI h p → p_W (fM h) (fun w => m_fr mKp h w.2 ∧ mTh w.2 (f p) w.1)) {hX hM : z_T} (I : Inv hX hM) : ∃ (k : Int32) (v : Int64) (hX' hM' : z_T), fL hX = some (k, hX') ∧ fM hM = some (v, hM') ∧ fX12_thrown 0 hM' = some k ∧ (k = 0 → z_L hX' 82 0 = v) ∧ Inv hX' hM' := by
  obtain ⟨p, A, X, M⟩ := I
  obtain ⟨⟨v, hM'⟩, e, f1, t1⟩ := gM p hM A M
  obtain ⟨⟨k, hX'⟩, e2, f2, c⟩ := gX p hX A X
  dsimp only at f1 t1 f2 c
  have s' := f1.s M.s
  have th : fX12_thrown 0 hM' = some (z_I hM' 0 0) := by
    refine p_of ?_
    unfold fX12_thrown
    simp (disch := first | assumption | omega) only [p_some, p_gd, p_br, p_bi, p_nm, p_mp, p_Sl, p_Sr, p_bis, p_gdt, Nat.not_lt_zero, Nat.reduceEqDiff, Nat.reduceLT, Nat.reduceLeDiff, true_and, and_true, true_implies, false_implies, not_true_eq_false, not_false_eq_true, implies_true, and_self, ne_eq, decide_true, decide_false, Bool.not_true, Bool.not_false, if_true, if_false, reduceIte, mk0 s']
  refine ⟨k, v, hX', hM', e2, e, ?_, ?_, p, A, X.fr f2, M.fr A f1⟩
  · rw [th]
    rcases c with ⟨c1, c2⟩ | ⟨w, c1, c2, c3⟩
    · rw [c1] at t1
      rw [c2]; exact congrArg some t1
    · rw [c1] at t1
      rw [c2]; exact congrArg some t1.1
  · intro k0
    rcases c with ⟨c1, c2⟩ | ⟨w, c1, c2, c3⟩
    · rw [c2] at k0; exact absurd k0 (by decide)
    · rw [c1] at t1
      rw [c3]; exact t1.2.symm
theorem iv_test {hX hM : z_T} (x : Int32) (y : Int32) (I : Inv hX hM) : ∃ (r : Int32) (hM' : z_T), fX11_test 0 x y hX = some r ∧ fX12_test 0 x y hM = some (r, hM') ∧ Inv hX hM' :=
  ivB (fun p => a_test p.1.1 p.1.2.2.2.1 p.1.2.2.1 x y) (fun p h A I => let ⟨bo, W⟩ := I.now; x_opTest W A.b A.n x y) (fun p h A I => m_test I.s A.b I.now A.n A.ha x y (fun h' f => ⟨rfl, f⟩)) I
theorem iv_dream {hX hM : z_T} (x : Int32) (y : Int32) (I : Inv hX hM) : ∃ (r : Int32) (hM' : z_T), fX11_dream 0 x y hX = some r ∧ fX12_dream 0 x y hM = some (r, hM') ∧ Inv hX hM' :=
  ivB (fun p => a_dream p.1.1 x y) (fun p h A I => let ⟨bo, W⟩ := I.now; x_opDream W A.b x y) (fun p h A I => m_dream I.s A.b I.now x y (fun h' f => ⟨rfl, f⟩)) I
theorem iv_stays {hX hM : z_T} (x : Int32) (y : Int32) (I : Inv hX hM) : ∃ (r : Int32) (hM' : z_T), fX11_stays 0 x y hX = some r ∧ fX12_stays 0 x y hM = some (r, hM') ∧ Inv hX hM' :=
  ivB (fun p => a_stays p.1.1 p.1.2.2.2.1 p.1.2.2.1 x y) (fun p h A I => let ⟨bo, W⟩ := I.now; x_opStays W A.b A.n x y) (fun p h A I => m_stays I.s A.b I.now A.n A.ha x y (fun h' f => ⟨rfl, f⟩)) I
theorem iv_answer {hX hM : z_T} (x : Int32) (I : Inv hX hM) : ∃ (r : Int32) (hM' : z_T), fX11_answer 0 x hX = some r ∧ fX12_answer 0 x hM = some (r, hM') ∧ Inv hX hM' :=
  ivB (fun p => a_answer p.1.2.2.2.1 p.1.2.2.1 x) (fun p h A I => let ⟨bo, W⟩ := I.now; x_opAnswer W A.n x) (fun p h A I => m_answer I.s I.now A.n x (fun h' f => ⟨rfl, f⟩)) I
theorem iv_likely {hX hM : z_T} (I : Inv hX hM) : ∃ (r : Int32) (hM' : z_T), fX11_likely 0  hX = some r ∧ fX12_likely 0  hM = some (r, hM') ∧ Inv hX hM' :=
  ivB (fun p => a_likely p.1.1 p.1.2.2.2.1 p.1.2.2.1) (fun p h A I => let ⟨bo, W⟩ := I.now; x_opLikely W A.b A.hO) (fun p h A I => m_likely I.s A.b I.now A.hO (fun h' f => ⟨rfl, f⟩)) I
theorem iv_fits {hX hM : z_T} (I : Inv hX hM) : ∃ (r : Int32) (hM' : z_T), fX11_fits 0  hX = some r ∧ fX12_fits 0  hM = some (r, hM') ∧ Inv hX hM' :=
  ivB (fun p => nI (a_fits p.1.1 p.1.2.2.2.1 p.1.2.2.1)) (fun p h A I => let ⟨bo, W⟩ := I.now; x_opFits W A.b A.hO) (fun p h A I => m_fits I.s A.b I.now A.hO (fun h' f => ⟨rfl, f⟩)) I
theorem iv_enough {hX hM : z_T} (I : Inv hX hM) : ∃ (r : Int32) (hM' : z_T), fX11_enough 0  hX = some r ∧ fX12_enough 0  hM = some (r, hM') ∧ Inv hX hM' :=
  ivB (fun p => a_enough p.1.1) (fun p h A I => let ⟨bo, W⟩ := I.now; x_opEnough W A.b) (fun p h A I => m_enough I.s A.b I.now (fun h' f => ⟨rfl, f⟩)) I
theorem iv_forger {hX hM : z_T} (I : Inv hX hM) : ∃ (r : Int32) (hM' : z_T), fX11_forger 0  hX = some r ∧ fX12_forger 0  hM = some (r, hM') ∧ Inv hX hM' :=
  ivB (fun p => a_forger p.1.1) (fun p h A I => let ⟨bo, W⟩ := I.now; x_opForger W A.b) (fun p h A I => m_forger I.s A.b I.now (fun h' f => ⟨rfl, f⟩)) I
theorem iv_pair {hX hM : z_T} (I : Inv hX hM) : ∃ (r : Int32) (hM' : z_T), fX11_pair 0  hX = some r ∧ fX12_pair 0  hM = some (r, hM') ∧ Inv hX hM' :=
  ivB (fun p => a_pair p.1.1) (fun p h A I => let ⟨bo, W⟩ := I.now; x_opPair W A.b) (fun p h A I => m_pair I.s A.b I.now (fun h' f => ⟨rfl, f⟩)) I
theorem iv_byteAt {hX hM : z_T} (x : Int32) (I : Inv hX hM) : ∃ (r : Int32) (hM' : z_T), fX11_byteAt 0 x hX = some r ∧ fX12_byteAt 0 x hM = some (r, hM') ∧ Inv hX hM' :=
  ivB (fun p => a_byteAt (a_tx p.2.2.2.1) p.2.2.2.1.length x) (fun p h A I => x_opByteAt I.s I.T A.T x) (fun p h A I => m_byteAt I.s I.T A.T x (fun h' f => ⟨rfl, f⟩)) I
theorem iv_next {hX hM : z_T} (I : Inv hX hM) : ∃ (r : Int32) (hM' : z_T), fX11_next 0  hX = some r ∧ fX12_next 0  hM = some (r, hM') ∧ Inv hX hM' :=
  ivB (fun p => a_next p.1.1 p.1.2.2.2.1 p.1.2.2.1) (fun p h A I => let ⟨bo, W⟩ := I.now; x_opNext W A.b A.hO) (fun p h A I => m_next I.s A.b I.now A.hO (fun h' f => ⟨rfl, f⟩)) I
theorem iv_apart {hX hM : z_T} (x : Int32) (y : Int32) (I : Inv hX hM) : ∃ (r : Int32) (hM' : z_T), fX11_apart 0 x y hX = some r ∧ fX12_apart 0 x y hM = some (r, hM') ∧ Inv hX hM' :=
  ivB (fun p => a_apart p.1.1 x y) (fun p h A I => let ⟨bo, W⟩ := I.now; x_opApart W A.b x y) (fun p h A I => m_apart I.s A.b I.now x y (fun h' f => ⟨rfl, f⟩)) I
theorem iv_judged {hX hM : z_T} (x : Int32) (I : Inv hX hM) : ∃ (r : Int32) (hM' : z_T), fX11_judged 0 x hX = some r ∧ fX12_judged 0 x hM = some (r, hM') ∧ Inv hX hM' :=
  ivB (fun p => a_judged p.2.2.2.2.2.1 x) (fun p h A I => x_opJudged I.s I.J x) (fun p h A I => m_judged I.s I.J x (fun h' f => ⟨rfl, f⟩)) I
theorem iv_fault {hX hM : z_T} (I : Inv hX hM) : ∃ (r : Int32) (hM' : z_T), fX11_fault 0  hX = some r ∧ fX12_fault 0  hM = some (r, hM') ∧ Inv hX hM' :=
  ivB (fun p => p.2.2.2.2.1) (fun p h A I => (x_opFault I.s).trans (congrArg some I.F)) (fun p h A I => m_fault I.s (fun h' f => ⟨I.F, f⟩)) I
theorem iv_count {hX hM : z_T} (x : Int32) (I : Inv hX hM) : ∃ (r : Int32) (hM' : z_T), fX11_count 0 x hX = some r ∧ fX12_count 0 x hM = some (r, hM') ∧ Inv hX hM' :=
  ivB (fun p => a_count p.1.1 p.1.2.2.1 p.2.2.1.1 x) (fun p h A I => let ⟨bo, W⟩ := I.now; x_opCount W I.P x) (fun p h A I => m_count I.s I.now I.P x (fun h' f => ⟨rfl, f⟩)) I
theorem iv_up {hX hM : z_T} (I : Inv hX hM) : ∃ (r : Int32) (hM' : z_T), fX11_up 0 hX = some r ∧ fX12_up 0 hM = some (r, hM') ∧ Inv hX hM' :=
  ivB (fun p => if p.1.1 6 * (a_all p.1.1 p.1.2.2.2.1 p.1.2.2.1 - a_lk p.1.1 p.1.2.2.2.1 0 p.1.2.2.1) ≤ p.1.1 5 * a_lk p.1.1 p.1.2.2.2.1 0 p.1.2.2.1 then nI 1 else nI 0) (fun p h A I => let ⟨bo, W⟩ := I.now; p_of (x_opUp W A.b A.hO (fun q => (if_pos q).symm) (fun q => (if_neg q).symm))) (fun p h A I => m_up I.s A.b I.now A.n A.ha (fun h' f q => ⟨(if_pos q).symm, f⟩) (fun h' f q => ⟨(if_neg q).symm, f⟩)) I
theorem iv_leads {hX hM : z_T} (I : Inv hX hM) : ∃ (r : Int32) (hM' : z_T), fX11_leads 0 hX = some r ∧ fX12_leads 0 hM = some (r, hM') ∧ Inv hX hM' := by
  refine ivB (fun p => (p.1.2.2.2.2.1.map (fun nd => a_leads nd p.1.2.2.2.1 p.1.2.2.1)).getD m1) (fun p h A I => ?_) (fun p h A I => ?_) I
  · obtain ⟨bo, W⟩ := I.now
    cases e : p.1.2.2.2.2.1 with
    | none => exact x_leads0 W (I.tr.1 e)
    | some nd =>
      obtain ⟨to, cnt, r, t⟩ := I.tr.2 nd e
      obtain ⟨K, -, Mb⟩ := A.tr nd e
      exact x_leads W A.b A.n A.ha r t K Mb
  · cases e : p.1.2.2.2.2.1 with
    | none => exact m_leads0 I.s ((I.tr A).1 e) (fun h' f => ⟨rfl, f⟩)
    | some nd =>
      obtain ⟨pos, m, t⟩ := (I.tr A).2 nd e
      exact m_leads I.s A.b I.now A.n A.ha (A.tr nd e).1 t (fun h' f => ⟨rfl, f⟩)
theorem iv_sure {hX hM : z_T} (y : Int32) (I : Inv hX hM) : ∃ (k : Int32) (v : Int64) (hX' hM' : z_T), fL_sure 0 y 82 hX = some (k, hX') ∧ fX12_sure 0 y hM = some (v, hM') ∧ fX12_thrown 0 hM' = some k ∧ (k = 0 → z_L hX' 82 0 = v) ∧ Inv hX' hM' := by
  refine ivC (fun p => a_sure p.1.1 p.1.2.2.2.1 p.1.2.2.1 y) (fun p h A I => ?_) (fun p h A I => m_sure I.s A.b I.now A.hO y (fun v h' f t => ⟨f, t⟩)) I
  obtain ⟨bo, W⟩ := I.now
  have s := I.s
  have e : fX11_sure 0 y h = some (a_sure p.1.1 p.1.2.2.2.1 p.1.2.2.1 y) := x_opSure W A.b A.hO y
  unfold fL_sure
  generalize (a_sure p.1.1 p.1.2.2.2.1 p.1.2.2.1 y) = w at e ⊢
  cases w with
  | none =>
    simp (disch := first | assumption | omega) only [p_some, p_gd, p_br, p_bi, p_nm, p_mp, p_Sl, p_Sr, p_bis, p_gdt, Nat.not_lt_zero, Nat.reduceEqDiff, Nat.reduceLT, Nat.reduceLeDiff, true_and, and_true, true_implies, false_implies, not_true_eq_false, not_false_eq_true, implies_true, and_self, ne_eq, decide_true, decide_false, Bool.not_true, Bool.not_false, if_true, if_false, reduceIte, xk0 s, e, r_lit]
    exact ⟨x_fr.rf, Or.inl trivial⟩
  | some v =>
    simp (disch := first | assumption | omega) only [p_some, p_gd, p_br, p_bi, p_nm, p_mp, p_Sl, p_Sr, p_bis, p_gdt, Nat.not_lt_zero, Nat.reduceEqDiff, Nat.reduceLT, Nat.reduceLeDiff, true_and, and_true, true_implies, false_implies, not_true_eq_false, not_false_eq_true, implies_true, and_self, ne_eq, decide_true, decide_false, Bool.not_true, Bool.not_false, if_true, if_false, reduceIte, xk0 s, e, r_lit, xk82 s, xn82 s, q_ix]
    refine ⟨x_fr.rf.sL (fun _ => by unfold xWk; omega), Or.inr ⟨v, rfl, q_Le rfl rfl⟩⟩
theorem iv_odds {hX hM : z_T} (x : Int32) (y : Int32) (I : Inv hX hM) : ∃ (k : Int32) (v : Int64) (hX' hM' : z_T), fL_odds 0 x y 82 hX = some (k, hX') ∧ fX12_odds 0 x y hM = some (v, hM') ∧ fX12_thrown 0 hM' = some k ∧ (k = 0 → z_L hX' 82 0 = v) ∧ Inv hX' hM' := by
  refine ivC (fun p => a_odds p.1.1 p.1.2.2.2.1 p.1.2.2.1 x y) (fun p h A I => ?_) (fun p h A I => m_odds I.s A.b I.now A.hO x y (fun v h' f t => ⟨f, t⟩)) I
  obtain ⟨bo, W⟩ := I.now
  have s := I.s
  have e : fX11_odds 0 x y h = some (a_odds p.1.1 p.1.2.2.2.1 p.1.2.2.1 x y) := x_opOdds W A.b A.hO x y
  unfold fL_odds
  generalize (a_odds p.1.1 p.1.2.2.2.1 p.1.2.2.1 x y) = w at e ⊢
  cases w with
  | none =>
    simp (disch := first | assumption | omega) only [p_some, p_gd, p_br, p_bi, p_nm, p_mp, p_Sl, p_Sr, p_bis, p_gdt, Nat.not_lt_zero, Nat.reduceEqDiff, Nat.reduceLT, Nat.reduceLeDiff, true_and, and_true, true_implies, false_implies, not_true_eq_false, not_false_eq_true, implies_true, and_self, ne_eq, decide_true, decide_false, Bool.not_true, Bool.not_false, if_true, if_false, reduceIte, xk0 s, e, r_lit]
    exact ⟨x_fr.rf, Or.inl trivial⟩
  | some v =>
    simp (disch := first | assumption | omega) only [p_some, p_gd, p_br, p_bi, p_nm, p_mp, p_Sl, p_Sr, p_bis, p_gdt, Nat.not_lt_zero, Nat.reduceEqDiff, Nat.reduceLT, Nat.reduceLeDiff, true_and, and_true, true_implies, false_implies, not_true_eq_false, not_false_eq_true, implies_true, and_self, ne_eq, decide_true, decide_false, Bool.not_true, Bool.not_false, if_true, if_false, reduceIte, xk0 s, e, r_lit, xk82 s, xn82 s, q_ix]
    refine ⟨x_fr.rf.sL (fun _ => by unfold xWk; omega), Or.inr ⟨v, rfl, q_Le rfl rfl⟩⟩
theorem iv_error {hX hM : z_T} (x : Int32) (y : Int32) (I : Inv hX hM) : ∃ (k : Int32) (v : Int64) (hX' hM' : z_T), fL_error 0 x y 82 hX = some (k, hX') ∧ fX12_error 0 x y hM = some (v, hM') ∧ fX12_thrown 0 hM' = some k ∧ (k = 0 → z_L hX' 82 0 = v) ∧ Inv hX' hM' := by
  refine ivC (fun p => a_error p.1.1 x y) (fun p h A I => ?_) (fun p h A I => m_error I.s A.b I.now x y (fun v h' f t => ⟨f, t⟩)) I
  obtain ⟨bo, W⟩ := I.now
  have s := I.s
  have e : fX11_error 0 x y h = some (a_error p.1.1 x y) := x_opError W A.b x y
  unfold fL_error
  generalize (a_error p.1.1 x y) = w at e ⊢
  cases w with
  | none =>
    simp (disch := first | assumption | omega) only [p_some, p_gd, p_br, p_bi, p_nm, p_mp, p_Sl, p_Sr, p_bis, p_gdt, Nat.not_lt_zero, Nat.reduceEqDiff, Nat.reduceLT, Nat.reduceLeDiff, true_and, and_true, true_implies, false_implies, not_true_eq_false, not_false_eq_true, implies_true, and_self, ne_eq, decide_true, decide_false, Bool.not_true, Bool.not_false, if_true, if_false, reduceIte, xk0 s, e, r_lit]
    exact ⟨x_fr.rf, Or.inl trivial⟩
  | some v =>
    simp (disch := first | assumption | omega) only [p_some, p_gd, p_br, p_bi, p_nm, p_mp, p_Sl, p_Sr, p_bis, p_gdt, Nat.not_lt_zero, Nat.reduceEqDiff, Nat.reduceLT, Nat.reduceLeDiff, true_and, and_true, true_implies, false_implies, not_true_eq_false, not_false_eq_true, implies_true, and_self, ne_eq, decide_true, decide_false, Bool.not_true, Bool.not_false, if_true, if_false, reduceIte, xk0 s, e, r_lit, xk82 s, xn82 s, q_ix]
    refine ⟨x_fr.rf.sL (fun _ => by unfold xWk; omega), Or.inr ⟨v, rfl, q_Le rfl rfl⟩⟩
theorem iv_lot {hX hM : z_T} (y : Int32) (I : Inv hX hM) : ∃ (k : Int32) (v : Int64) (hX' hM' : z_T), fL_lot 0 y 82 hX = some (k, hX') ∧ fX12_lot 0 y hM = some (v, hM') ∧ fX12_thrown 0 hM' = some k ∧ (k = 0 → z_L hX' 82 0 = v) ∧ Inv hX' hM' := by
  refine ivC (fun p => a_lot p.1.1 y) (fun p h A I => ?_) (fun p h A I => m_lot I.s A.b I.now y (fun v h' f t => ⟨f, t⟩)) I
  obtain ⟨bo, W⟩ := I.now
  have s := I.s
  have e : fX11_lot 0 y h = some (a_lot p.1.1 y) := x_opLot W A.b y
  unfold fL_lot
  generalize (a_lot p.1.1 y) = w at e ⊢
  cases w with
  | none =>
    simp (disch := first | assumption | omega) only [p_some, p_gd, p_br, p_bi, p_nm, p_mp, p_Sl, p_Sr, p_bis, p_gdt, Nat.not_lt_zero, Nat.reduceEqDiff, Nat.reduceLT, Nat.reduceLeDiff, true_and, and_true, true_implies, false_implies, not_true_eq_false, not_false_eq_true, implies_true, and_self, ne_eq, decide_true, decide_false, Bool.not_true, Bool.not_false, if_true, if_false, reduceIte, xk0 s, e, r_lit]
    exact ⟨x_fr.rf, Or.inl trivial⟩
  | some v =>
    simp (disch := first | assumption | omega) only [p_some, p_gd, p_br, p_bi, p_nm, p_mp, p_Sl, p_Sr, p_bis, p_gdt, Nat.not_lt_zero, Nat.reduceEqDiff, Nat.reduceLT, Nat.reduceLeDiff, true_and, and_true, true_implies, false_implies, not_true_eq_false, not_false_eq_true, implies_true, and_self, ne_eq, decide_true, decide_false, Bool.not_true, Bool.not_false, if_true, if_false, reduceIte, xk0 s, e, r_lit, xk82 s, xn82 s, q_ix]
    refine ⟨x_fr.rf.sL (fun _ => by unfold xWk; omega), Or.inr ⟨v, rfl, q_Le rfl rfl⟩⟩
theorem iv_share {hX hM : z_T} (x : Int32) (y : Int32) (I : Inv hX hM) : ∃ (k : Int32) (v : Int64) (hX' hM' : z_T), fL_share 0 x y 82 hX = some (k, hX') ∧ fX12_share 0 x y hM = some (v, hM') ∧ fX12_thrown 0 hM' = some k ∧ (k = 0 → z_L hX' 82 0 = v) ∧ Inv hX' hM' := by
  refine ivC (fun p => a_share p.1.1 x y) (fun p h A I => ?_) (fun p h A I => m_share I.s A.b I.now x y (fun v h' f t => ⟨f, t⟩)) I
  obtain ⟨bo, W⟩ := I.now
  have s := I.s
  have e : fX11_share 0 x y h = some (a_share p.1.1 x y) := x_opShare W A.b x y
  unfold fL_share
  generalize (a_share p.1.1 x y) = w at e ⊢
  cases w with
  | none =>
    simp (disch := first | assumption | omega) only [p_some, p_gd, p_br, p_bi, p_nm, p_mp, p_Sl, p_Sr, p_bis, p_gdt, Nat.not_lt_zero, Nat.reduceEqDiff, Nat.reduceLT, Nat.reduceLeDiff, true_and, and_true, true_implies, false_implies, not_true_eq_false, not_false_eq_true, implies_true, and_self, ne_eq, decide_true, decide_false, Bool.not_true, Bool.not_false, if_true, if_false, reduceIte, xk0 s, e, r_lit]
    exact ⟨x_fr.rf, Or.inl trivial⟩
  | some v =>
    simp (disch := first | assumption | omega) only [p_some, p_gd, p_br, p_bi, p_nm, p_mp, p_Sl, p_Sr, p_bis, p_gdt, Nat.not_lt_zero, Nat.reduceEqDiff, Nat.reduceLT, Nat.reduceLeDiff, true_and, and_true, true_implies, false_implies, not_true_eq_false, not_false_eq_true, implies_true, and_self, ne_eq, decide_true, decide_false, Bool.not_true, Bool.not_false, if_true, if_false, reduceIte, xk0 s, e, r_lit, xk82 s, xn82 s, q_ix]
    refine ⟨x_fr.rf.sL (fun _ => by unfold xWk; omega), Or.inr ⟨v, rfl, q_Le rfl rfl⟩⟩
theorem iv_fails {hX hM : z_T} (x : Int32) (y : Int32) (I : Inv hX hM) : ∃ (k : Int32) (v : Int64) (hX' hM' : z_T), fL_fails 0 x y 82 hX = some (k, hX') ∧ fX12_fails 0 x y hM = some (v, hM') ∧ fX12_thrown 0 hM' = some k ∧ (k = 0 → z_L hX' 82 0 = v) ∧ Inv hX' hM' := by
  refine ivC (fun p => a_fails p.1.1 x y) (fun p h A I => ?_) (fun p h A I => m_fails I.s A.b I.now x y (fun v h' f t => ⟨f, t⟩)) I
  obtain ⟨bo, W⟩ := I.now
  have s := I.s
  have e : fX11_fails 0 x y h = some (a_fails p.1.1 x y) := x_opFails W A.b x y
  unfold fL_fails
  generalize (a_fails p.1.1 x y) = w at e ⊢
  cases w with
  | none =>
    simp (disch := first | assumption | omega) only [p_some, p_gd, p_br, p_bi, p_nm, p_mp, p_Sl, p_Sr, p_bis, p_gdt, Nat.not_lt_zero, Nat.reduceEqDiff, Nat.reduceLT, Nat.reduceLeDiff, true_and, and_true, true_implies, false_implies, not_true_eq_false, not_false_eq_true, implies_true, and_self, ne_eq, decide_true, decide_false, Bool.not_true, Bool.not_false, if_true, if_false, reduceIte, xk0 s, e, r_lit]
    exact ⟨x_fr.rf, Or.inl trivial⟩
  | some v =>
    simp (disch := first | assumption | omega) only [p_some, p_gd, p_br, p_bi, p_nm, p_mp, p_Sl, p_Sr, p_bis, p_gdt, Nat.not_lt_zero, Nat.reduceEqDiff, Nat.reduceLT, Nat.reduceLeDiff, true_and, and_true, true_implies, false_implies, not_true_eq_false, not_false_eq_true, implies_true, and_self, ne_eq, decide_true, decide_false, Bool.not_true, Bool.not_false, if_true, if_false, reduceIte, xk0 s, e, r_lit, xk82 s, xn82 s, q_ix]
    refine ⟨x_fr.rf.sL (fun _ => by unfold xWk; omega), Or.inr ⟨v, rfl, q_Le rfl rfl⟩⟩
theorem iv_deep {hX hM : z_T} (x : Int32) (y : Int32) (I : Inv hX hM) : ∃ (k : Int32) (v : Int64) (hX' hM' : z_T), fL_deep 0 x y 82 hX = some (k, hX') ∧ fX12_deep 0 x y hM = some (v, hM') ∧ fX12_thrown 0 hM' = some k ∧ (k = 0 → z_L hX' 82 0 = v) ∧ Inv hX' hM' := by
  refine ivC (fun p => a_deep p.1.1 x y) (fun p h A I => ?_) (fun p h A I => m_deep I.s A.b I.now x y (fun v h' f t => ⟨f, t⟩)) I
  obtain ⟨bo, W⟩ := I.now
  have s := I.s
  have e : fX11_deep 0 x y h = some (a_deep p.1.1 x y) := x_opDeep W A.b x y
  unfold fL_deep
  generalize (a_deep p.1.1 x y) = w at e ⊢
  cases w with
  | none =>
    simp (disch := first | assumption | omega) only [p_some, p_gd, p_br, p_bi, p_nm, p_mp, p_Sl, p_Sr, p_bis, p_gdt, Nat.not_lt_zero, Nat.reduceEqDiff, Nat.reduceLT, Nat.reduceLeDiff, true_and, and_true, true_implies, false_implies, not_true_eq_false, not_false_eq_true, implies_true, and_self, ne_eq, decide_true, decide_false, Bool.not_true, Bool.not_false, if_true, if_false, reduceIte, xk0 s, e, r_lit]
    exact ⟨x_fr.rf, Or.inl trivial⟩
  | some v =>
    simp (disch := first | assumption | omega) only [p_some, p_gd, p_br, p_bi, p_nm, p_mp, p_Sl, p_Sr, p_bis, p_gdt, Nat.not_lt_zero, Nat.reduceEqDiff, Nat.reduceLT, Nat.reduceLeDiff, true_and, and_true, true_implies, false_implies, not_true_eq_false, not_false_eq_true, implies_true, and_self, ne_eq, decide_true, decide_false, Bool.not_true, Bool.not_false, if_true, if_false, reduceIte, xk0 s, e, r_lit, xk82 s, xn82 s, q_ix]
    refine ⟨x_fr.rf.sL (fun _ => by unfold xWk; omega), Or.inr ⟨v, rfl, q_Le rfl rfl⟩⟩
theorem iv_tells {hX hM : z_T} (x : Int32) (y : Int32) (I : Inv hX hM) : ∃ (k : Int32) (v : Int64) (hX' hM' : z_T), fL_tells 0 x y 82 hX = some (k, hX') ∧ fX12_tells 0 x y hM = some (v, hM') ∧ fX12_thrown 0 hM' = some k ∧ (k = 0 → z_L hX' 82 0 = v) ∧ Inv hX' hM' := by
  refine ivC (fun p => a_tells p.1.1 p.1.2.2.2.1 p.1.2.2.1 x y) (fun p h A I => ?_) (fun p h A I => m_tells I.s A.b I.now A.hO x y (fun v h' f t => ⟨f, t⟩)) I
  obtain ⟨bo, W⟩ := I.now
  have s := I.s
  have e : fX11_tells 0 x y h = some (a_tells p.1.1 p.1.2.2.2.1 p.1.2.2.1 x y) := x_opTells W A.b A.hO x y
  unfold fL_tells
  generalize (a_tells p.1.1 p.1.2.2.2.1 p.1.2.2.1 x y) = w at e ⊢
  cases w with
  | none =>
    simp (disch := first | assumption | omega) only [p_some, p_gd, p_br, p_bi, p_nm, p_mp, p_Sl, p_Sr, p_bis, p_gdt, Nat.not_lt_zero, Nat.reduceEqDiff, Nat.reduceLT, Nat.reduceLeDiff, true_and, and_true, true_implies, false_implies, not_true_eq_false, not_false_eq_true, implies_true, and_self, ne_eq, decide_true, decide_false, Bool.not_true, Bool.not_false, if_true, if_false, reduceIte, xk0 s, e, r_lit]
    exact ⟨x_fr.rf, Or.inl trivial⟩
  | some v =>
    simp (disch := first | assumption | omega) only [p_some, p_gd, p_br, p_bi, p_nm, p_mp, p_Sl, p_Sr, p_bis, p_gdt, Nat.not_lt_zero, Nat.reduceEqDiff, Nat.reduceLT, Nat.reduceLeDiff, true_and, and_true, true_implies, false_implies, not_true_eq_false, not_false_eq_true, implies_true, and_self, ne_eq, decide_true, decide_false, Bool.not_true, Bool.not_false, if_true, if_false, reduceIte, xk0 s, e, r_lit, xk82 s, xn82 s, q_ix]
    refine ⟨x_fr.rf.sL (fun _ => by unfold xWk; omega), Or.inr ⟨v, rfl, q_Le rfl rfl⟩⟩
theorem iv_worth {hX hM : z_T} (y : Int32) (I : Inv hX hM) : ∃ (k : Int32) (v : Int64) (hX' hM' : z_T), fL_worth 0 y 82 hX = some (k, hX') ∧ fX12_worth 0 y hM = some (v, hM') ∧ fX12_thrown 0 hM' = some k ∧ (k = 0 → z_L hX' 82 0 = v) ∧ Inv hX' hM' := by
  refine ivC (fun p => p.1.2.2.2.2.1.bind (fun nd => a_worth p.1.1 nd y)) (fun p h A I => ?_) (fun p h A I => ?_) I
  · obtain ⟨bo, W⟩ := I.now
    have s := I.s
    have e : fX11_worth 0 y h = some (p.1.2.2.2.2.1.bind (fun nd => a_worth p.1.1 nd y)) := by
      cases e : p.1.2.2.2.2.1 with
      | none => exact x_worth0 W (I.tr.1 e) y
      | some nd =>
        obtain ⟨to, cnt, r, t⟩ := I.tr.2 nd e
        obtain ⟨K, P, Mb⟩ := A.tr nd e
        exact x_worth W A.b r t K P Mb y
    unfold fL_worth
    generalize (p.1.2.2.2.2.1.bind (fun nd => a_worth p.1.1 nd y)) = w at e ⊢
    cases w with
    | none =>
      simp (disch := first | assumption | omega) only [p_some, p_gd, p_br, p_bi, p_nm, p_mp, p_Sl, p_Sr, p_bis, p_gdt, Nat.not_lt_zero, Nat.reduceEqDiff, Nat.reduceLT, Nat.reduceLeDiff, true_and, and_true, true_implies, false_implies, not_true_eq_false, not_false_eq_true, implies_true, and_self, ne_eq, decide_true, decide_false, Bool.not_true, Bool.not_false, if_true, if_false, reduceIte, xk0 s, e, r_lit]
      exact ⟨x_fr.rf, Or.inl trivial⟩
    | some v =>
      simp (disch := first | assumption | omega) only [p_some, p_gd, p_br, p_bi, p_nm, p_mp, p_Sl, p_Sr, p_bis, p_gdt, Nat.not_lt_zero, Nat.reduceEqDiff, Nat.reduceLT, Nat.reduceLeDiff, true_and, and_true, true_implies, false_implies, not_true_eq_false, not_false_eq_true, implies_true, and_self, ne_eq, decide_true, decide_false, Bool.not_true, Bool.not_false, if_true, if_false, reduceIte, xk0 s, e, r_lit, xk82 s, xn82 s, q_ix]
      refine ⟨x_fr.rf.sL (fun _ => by unfold xWk; omega), Or.inr ⟨v, rfl, q_Le rfl rfl⟩⟩
  · cases e : p.1.2.2.2.2.1 with
    | none => exact m_worth0 I.s ((I.tr A).1 e) y (fun v h' f t => ⟨f, t⟩)
    | some nd =>
      obtain ⟨pos, m, t⟩ := (I.tr A).2 nd e
      exact m_worth I.s A.b I.now t (A.tr nd e).1 (A.tr nd e).2.1 y (fun v h' f t => ⟨f, t⟩)
theorem iv_cost {hX hM : z_T} (x : Int32) (y : Int32) (I : Inv hX hM) : ∃ (k : Int32) (v : Int64) (hX' hM' : z_T), fL_cost 0 x y 82 hX = some (k, hX') ∧ fX12_cost 0 x y hM = some (v, hM') ∧ fX12_thrown 0 hM' = some k ∧ (k = 0 → z_L hX' 82 0 = v) ∧ Inv hX' hM' := by
  refine ivC (fun p => a_cost p.1.1 x y) (fun p h A I => ?_) (fun p h A I => m_cost I.s A.b I.now x y (fun v h' f t => ⟨f, t⟩)) I
  obtain ⟨bo, W⟩ := I.now
  have s := I.s
  unfold fL_cost
  simp (disch := first | assumption | omega) only [p_some, p_gd, p_br, p_bi, p_nm, p_mp, p_Sl, p_Sr, p_bis, p_gdt, Nat.not_lt_zero, Nat.reduceEqDiff, Nat.reduceLT, Nat.reduceLeDiff, true_and, and_true, true_implies, false_implies, not_true_eq_false, not_false_eq_true, implies_true, and_self, ne_eq, decide_true, decide_false, Bool.not_true, Bool.not_false, if_true, if_false, reduceIte, xk0 s]
  refine x_opCost W A.b x y (fun h1 f1 => ?_)
  have s1 := f1.s s
  have g1 : x_fr (fun a _ => xWk a) h h1 := f1.w (fun o k _ c => by unfold xWk at c; omega)
  generalize (a_cost p.1.1 x y) = w
  cases w with
  | none =>
    simp (disch := first | assumption | omega) only [p_some, p_gd, p_br, p_bi, p_nm, p_mp, p_Sl, p_Sr, p_bis, p_gdt, Nat.not_lt_zero, Nat.reduceEqDiff, Nat.reduceLT, Nat.reduceLeDiff, true_and, and_true, true_implies, false_implies, not_true_eq_false, not_false_eq_true, implies_true, and_self, ne_eq, decide_true, decide_false, Bool.not_true, Bool.not_false, if_true, if_false, reduceIte, r_lit]
    exact ⟨g1, Or.inl trivial⟩
  | some v =>
    simp (disch := first | assumption | omega) only [p_some, p_gd, p_br, p_bi, p_nm, p_mp, p_Sl, p_Sr, p_bis, p_gdt, Nat.not_lt_zero, Nat.reduceEqDiff, Nat.reduceLT, Nat.reduceLeDiff, true_and, and_true, true_implies, false_implies, not_true_eq_false, not_false_eq_true, implies_true, and_self, ne_eq, decide_true, decide_false, Bool.not_true, Bool.not_false, if_true, if_false, reduceIte, r_lit, xk82 s1, xn82 s1, q_ix]
    refine ⟨g1.sL (fun _ => by unfold xWk; omega), Or.inr ⟨v, rfl, q_Le rfl rfl⟩⟩
theorem iv_after {hX hM : z_T} (x : Int32) (y : Int32) (I : Inv hX hM) : ∃ (k : Int32) (v : Int64) (hX' hM' : z_T), fL_after 0 x y 82 hX = some (k, hX') ∧ fX12_after 0 x y hM = some (v, hM') ∧ fX12_thrown 0 hM' = some k ∧ (k = 0 → z_L hX' 82 0 = v) ∧ Inv hX' hM' := by
  refine ivC (fun p => a_after p.1.1 p.1.2.2.2.1 p.1.2.2.1 x y) (fun p h A I => ?_) (fun p h A I => m_after I.s A.b I.now A.hO x y (fun v h' f t => ⟨f, t⟩)) I
  obtain ⟨bo, W⟩ := I.now
  have s := I.s
  unfold fL_after
  simp (disch := first | assumption | omega) only [p_some, p_gd, p_br, p_bi, p_nm, p_mp, p_Sl, p_Sr, p_bis, p_gdt, Nat.not_lt_zero, Nat.reduceEqDiff, Nat.reduceLT, Nat.reduceLeDiff, true_and, and_true, true_implies, false_implies, not_true_eq_false, not_false_eq_true, implies_true, and_self, ne_eq, decide_true, decide_false, Bool.not_true, Bool.not_false, if_true, if_false, reduceIte, xk0 s]
  refine x_opAfter W A.b A.hO x y (fun h1 f1 => ?_)
  have s1 := f1.s s
  have g1 : x_fr (fun a _ => xWk a) h h1 := f1.w (fun o k _ c => by unfold xWk at c; omega)
  generalize (a_after p.1.1 p.1.2.2.2.1 p.1.2.2.1 x y) = w
  cases w with
  | none =>
    simp (disch := first | assumption | omega) only [p_some, p_gd, p_br, p_bi, p_nm, p_mp, p_Sl, p_Sr, p_bis, p_gdt, Nat.not_lt_zero, Nat.reduceEqDiff, Nat.reduceLT, Nat.reduceLeDiff, true_and, and_true, true_implies, false_implies, not_true_eq_false, not_false_eq_true, implies_true, and_self, ne_eq, decide_true, decide_false, Bool.not_true, Bool.not_false, if_true, if_false, reduceIte, r_lit]
    exact ⟨g1, Or.inl trivial⟩
  | some v =>
    simp (disch := first | assumption | omega) only [p_some, p_gd, p_br, p_bi, p_nm, p_mp, p_Sl, p_Sr, p_bis, p_gdt, Nat.not_lt_zero, Nat.reduceEqDiff, Nat.reduceLT, Nat.reduceLeDiff, true_and, and_true, true_implies, false_implies, not_true_eq_false, not_false_eq_true, implies_true, and_self, ne_eq, decide_true, decide_false, Bool.not_true, Bool.not_false, if_true, if_false, reduceIte, r_lit, xk82 s1, xn82 s1, q_ix]
    refine ⟨g1.sL (fun _ => by unfold xWk; omega), Or.inr ⟨v, rfl, q_Le rfl rfl⟩⟩
