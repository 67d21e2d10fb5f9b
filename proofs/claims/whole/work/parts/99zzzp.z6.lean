/-! said, both sides -/
def a_sV (bk ans cf : Nat → Nat) (n c : Nat) : Nat := a_bs (fun t => a_ev (a_lfv bk ans n t) cf c 0) (bk 0)
def a_said (bk ans cf : Nat → Nat) (n c : Nat) (x : Int32) : Int32 := if m1 ≤ x then (if x = m1 then nI (a_pc (a_sV bk ans cf n c)) else a_sd (a_sV bk ans cf n c).testBit x 8 0) else m1
section SAID
variable {h : z_T} {bk ans cf : Nat → Nat} {n c : Nat}
theorem m_said0 {x : Int32} {Q : Int32 × z_T → Prop} (s : SM h) (S : z_I h 2 176 = nI 0) (k : ∀ h', m_fr (fun o k => o ≠ 19 ∧ (o ≠ 0 ∨ k ≠ 0)) h h' → Q (m1, h')) : p_W (fX12_said 0 x h) Q := by
  have s0 : SM (z_sI h 0 0 (nI 0)) := s
  unfold fX12_said
  simp (disch := first | assumption | omega) only [p_some, p_gd, p_br, p_bi, p_nm, p_mp, p_Sl, p_Sr, p_bis, p_gdt, q_IL, q_IR, q_LI, q_LR, q_RI, q_RL, q_KI, q_KL, q_KR, q_NI, q_NL, q_NR, q_nI, q_nL, q_nR, q_okI, q_okL, q_okR, q_Ie, q_In, q_Le, q_Ln, SM_I, SM_L, s_c0, s_cg0, s_cl0, s_cge, s_cle, r_le, r_lt, r_eq, r_md, r_2, r_3, r_lit, r_litL, r_m1, nI_add, nI_1, nI_clamp, nI_leI, nI_ltI, nI_eq, pk_sub, q_ix, nI_l, lN_add, lN_mul, r_m1n, r_m1n', r_m1lt, r_m1nlt, r_m1le, r_m1nle, Nat.not_lt_zero, Nat.reduceEqDiff, Nat.reduceLT, Nat.reduceLeDiff, true_and, and_true, true_implies, false_implies, not_true_eq_false, not_false_eq_true, implies_true, and_self, ne_eq, decide_true, decide_false, Bool.not_true, Bool.not_false, if_true, if_false, reduceIte, mk0, mk1, mk2, mk3, mk4, mk5, mk6, mk7, mk8, mk9, mk10, mk11, mk12, mk13, mk14, mk15, mk16, mk17, mk18, mk19, mk20, mk21, mk22, mn1, mn2, mn3, mn4, mn5, mn6, mn7, mn8, mn9, mn10, mn11, mn12, mn13, mn14, mn15, mn16, mn17, mn18, mn19, mn20, mn21, mn22, mr1, mr6, mr7, mr8, mr9, mr10, mr21, mr22, mr23, mr25, mr26, mr29, mr30, mr32, mr33, mr34, mr43, mr47, mr53, mr54, mr55, mr56, S]
  exact k _ (m_fr.rf.sI (by omega))
theorem m_said {x : Int32} {Q : Int32 × z_T → Prop} (s : SM h) (b : BOK bk) (hN : mNi h bk n ans) (hO : NOK bk ans n) (S : mSe h cf c) (W : WFC (bk 1) cf c) (h1 : a_ht cf c = 1) (hc : c ≤ 39)
    (k : ∀ h', m_fr (fun o k => o ≠ 19 ∧ (o ≠ 0 ∨ k ≠ 0)) h h' → Q (a_said bk ans cf n c x, h')) : p_W (fX12_said 0 x h) Q := by
  have h8 := b.1
  have c1 : c ≠ 0 := fun e => by rw [e] at h1; exact absurd h1 (show ¬ (0 = 1) by decide)
  have f0 : m_fr (fun o k => o ≠ 0 ∨ k ≠ 0) h (z_sI h 0 0 (nI 0)) := m_fr.rf.sI (by omega)
  have s0 := f0.s s
  have N0 := hN.fr f0 (fun _ => by omega)
  have S0 : mSe (z_sI h 0 0 (nI 0)) cf c := ⟨(f0.I 2 176 (by omega)).trans S.1, fun i hi => (f0.I 2 _ (by omega)).trans (S.2 i hi)⟩
  unfold fX12_said fX12_said_b27
  simp (disch := first | assumption | omega) only [p_some, p_gd, p_br, p_bi, p_nm, p_mp, p_Sl, p_Sr, p_bis, p_gdt, Nat.not_lt_zero, Nat.reduceEqDiff, Nat.reduceLT, Nat.reduceLeDiff, true_and, and_true, true_implies, false_implies, not_true_eq_false, not_false_eq_true, implies_true, and_self, ne_eq, decide_true, decide_false, Bool.not_true, Bool.not_false, if_true, if_false, reduceIte, mk0 s, r_lit]
  generalize z_sI h 0 0 (nI 0) = h0 at *
  simp (disch := first | assumption | omega) only [p_some, p_gd, p_br, p_bi, p_nm, p_mp, p_Sl, p_Sr, p_bis, p_gdt, q_IL, q_IR, q_LI, q_LR, q_RI, q_RL, q_KI, q_KL, q_KR, q_NI, q_NL, q_NR, q_nI, q_nL, q_nR, q_okI, q_okL, q_okR, q_Ie, q_In, q_Le, q_Ln, SM_I, SM_L, s_c0, s_cg0, s_cl0, s_cge, s_cle, r_le, r_lt, r_eq, r_md, r_2, r_3, r_lit, r_litL, r_m1, nI_add, nI_1, nI_clamp, nI_leI, nI_ltI, nI_eq, pk_sub, q_ix, nI_l, lN_add, lN_mul, r_m1n, r_m1n', r_m1lt, r_m1nlt, r_m1le, r_m1nle, Nat.not_lt_zero, Nat.reduceEqDiff, Nat.reduceLT, Nat.reduceLeDiff, true_and, and_true, true_implies, false_implies, not_true_eq_false, not_false_eq_true, implies_true, and_self, ne_eq, decide_true, decide_false, Bool.not_true, Bool.not_false, if_true, if_false, reduceIte, mk0, mk1, mk2, mk3, mk4, mk5, mk6, mk7, mk8, mk9, mk10, mk11, mk12, mk13, mk14, mk15, mk16, mk17, mk18, mk19, mk20, mk21, mk22, mn1, mn2, mn3, mn4, mn5, mn6, mn7, mn8, mn9, mn10, mn11, mn12, mn13, mn14, mn15, mn16, mn17, mn18, mn19, mn20, mn21, mn22, mr1, mr6, mr7, mr8, mr9, mr10, mr21, mr22, mr23, mr25, mr26, mr29, mr30, mr32, mr33, mr34, mr43, mr47, mr53, mr54, mr55, mr56, S0.1, c1]
  unfold a_said at k
  refine p_br.mpr ⟨fun cx => ?_, fun cx => ?_⟩
  rotate_left
  · rw [if_neg cx] at k
    exact p_some.mpr (k h0 (f0.w (fun o k c => c.2)))
  have e := a_sd_eq (p := (a_sV bk ans cf n c).testBit) (x := x) h8 (fun t ht => by
    show (a_bs _ (bk 0)).testBit t = false
    rw [a_bs_tb, decide_eq_false (by omega), Bool.false_and])
  rw [a_cn_pc] at e
  rw [if_pos cx, ← e] at k
  refine p_mono (m_saidLoop (p := (a_sV bk ans cf n c).testBit) (n := bk 0) (x := x) (I := fun h' => m_fr (fun o _ => o ≠ 19) h0 h') h8 (fun h' f => ⟨f.s s0, (f.I 2 0 (by omega)).trans (N0.1 0 (by decide))⟩) (fun h' t f ht => ?_) (bk 0) h0 0 (by omega) m_fr.rf) (fun w ⟨e1, f1⟩ => ?_)
  · have tb : (a_sV bk ans cf n c).testBit t = a_ev (a_lfv bk ans n t) cf c 0 := by
      show (a_bs _ (bk 0)).testBit t = _
      rw [a_bs_tb, decide_eq_true ht, Bool.true_and]
    rw [tb]
    refine p_mono (m_isSaid (f.s s0) b (N0.fr f (fun _ => by omega)) hO ⟨(f.I 2 176 (by omega)).trans S0.1, fun i hi => (f.I 2 _ (by omega)).trans (S0.2 i hi)⟩ W h1 hc ht) (fun w ⟨e1, f1⟩ => ⟨e1, f.tr f1⟩)
  · obtain ⟨r, h2⟩ := w
    dsimp only at e1 f1
    rw [e1]
    exact k h2 ((f0.w (fun o k c => c.2)).tr (f1.w (fun o k c => c.1)))
/-! the class -/
theorem a_cse_tb {w s x t : Nat} (h8 : bk 0 ≤ 8) (ht : t < bk 0) (hw : w = 0 ∨ w = 2 ∨ (3 ≤ w ∧ w ≤ 5)) : (a_cse bk w s x).testBit t = a_lfv bk ans n t w s x := by
  unfold a_cse a_lfv
  rcases hw with rfl | rfl | hw
  · rfl
  · rfl
  · rw [if_neg (by omega), if_neg (by omega), if_pos hw, if_neg (by omega), if_neg (by omega), if_neg (by omega), a_bs_tb, decide_eq_true ht, Bool.true_and]
theorem x_testsOf {o bo so c1 : Nat} (s : SX h) (b : BOK bk) (N : xNi h o bo bk ans n) (ho : isN o) (hb : bo = 1 ∨ 83 ≤ bo) (hn : n ≤ 12) (hs : 83 ≤ so) (hbs : bo + 8 ≤ so ∨ so + 4 ≤ bo) (S : xSn h so bk cf c c1) (W : WFC (bk 1) cf c) (h1 : a_ht cf c = 1) (hc : c ≤ 39) : p_W (fX7_testsOf so o h) (fun w => w.1 = nI (a_sV bk ans cf n c) ∧ x_fr (fun o _ => o ≠ so + 3) h w.2) := by
  have h8 := b.1
  have ho83 : o < 83 := by unfold isN at ho; omega
  unfold fX7_testsOf fX7_testsOf_b4
  refine p_for c (fun i w => w.1 = nI (a_ht cf i) ∧ w.2.1 = nI i ∧ x_fr (fun o _ => o ≠ so + 3) h w.2.2 ∧ ∀ j t, j < a_ht cf i → t < bk 0 → bt (z_I w.2.2 (so + 3) j) t = a_ev (a_lfv bk ans n t) cf i j) ?_ ?_ 0 (by omega) ⟨rfl, rfl, x_fr.rf, fun j t hj => absurd hj (Nat.not_lt_zero _)⟩
  · rintro i ⟨x, y, h2⟩ hi ⟨e1, e2, f, g⟩
    dsimp only at e1 e2 f g
    subst e1 e2
    have S2 := S.fr hs f (fun k => by omega) (fun k => by omega) (by omega) (by omega)
    have N2 := N.fr f ho hb (fun j k hj => by unfold isN at ho; omega) (fun j k hj => by omega)
    obtain ⟨t1, t2, t3, t4, t5, t6, t7, t8, t9, t10⟩ := S2.1
    obtain ⟨v1, v2, v3⟩ := S2.2
    obtain ⟨w0, w1⟩ := v3 i hi
    have hl := a_ht_le (cf := cf) i
    have b0 := W.2 (3 * i) (by omega)
    have ok := W.1 i hi
    have es : a_ht cf (i + 1) = if cf (3 * i) < 20 then a_ht cf i + 1 else if cf (3 * i) = 20 then a_ht cf i else a_ht cf i - 1 := rfl
    have ee : ∀ t, a_ev (a_lfv bk ans n t) cf (i + 1) = if cf (3 * i) = 20 then a_ub1 (a_ev (a_lfv bk ans n t) cf i) (a_ht cf i - 1) (!(a_ev (a_lfv bk ans n t) cf i (a_ht cf i - 1)))
      else if cf (3 * i) = 21 then a_ub1 (a_ev (a_lfv bk ans n t) cf i) (a_ht cf i - 2) (a_ev (a_lfv bk ans n t) cf i (a_ht cf i - 2) && a_ev (a_lfv bk ans n t) cf i (a_ht cf i - 1))
      else if cf (3 * i) = 22 then a_ub1 (a_ev (a_lfv bk ans n t) cf i) (a_ht cf i - 2) (a_ev (a_lfv bk ans n t) cf i (a_ht cf i - 2) || a_ev (a_lfv bk ans n t) cf i (a_ht cf i - 1))
      else a_ub1 (a_ev (a_lfv bk ans n t) cf i) (a_ht cf i) (a_lfv bk ans n t (cf (3 * i)) (cf (3 * i + 1)) (cf (3 * i + 2))) := fun _ => rfl
    unfold a_cok at ok
    have put : ∀ (j H' : Nat) (X : Int32) (v : Nat → Bool), j < H' → H' ≤ 40 → a_ht cf (i + 1) = H' → (∀ q, q < H' → q ≠ j → q < a_ht cf i) → (∀ t, t < bk 0 → a_ev (a_lfv bk ans n t) cf (i + 1) = a_ub1 (a_ev (a_lfv bk ans n t) cf i) j (v t) ∧ bt X t = v t) →
        H' = a_ht cf (i + 1) ∧ x_fr (fun o _ => o ≠ so + 3) h (z_sI h2 (so + 3) j X) ∧ ∀ q t, q < a_ht cf (i + 1) → t < bk 0 → bt (z_I (z_sI h2 (so + 3) j X) (so + 3) q) t = a_ev (a_lfv bk ans n t) cf (i + 1) q := fun j H' X v hj hH eH hq ev => by
      refine ⟨eH.symm, f.sI (fun _ => by omega), fun q t hq2 ht => ?_⟩
      rw [(ev t ht).1]
      by_cases e : q = j
      · rw [q_Ie rfl e, e, a_ub1_e]
        exact (ev t ht).2
      · rw [q_In (by omega), a_ub1_n e]
        exact g q t (hq q (by omega) e) ht
    generalize cf (3 * i) = w at *
    generalize cf (3 * i + 1) = sg at *
    generalize cf (3 * i + 2) = x at *
    unfold fX7_testsOf_b4_i
    by_cases c20 : w = 20
    · subst c20
      have hp : 1 ≤ a_ht cf i := by omega
      rw [if_neg (by omega), if_pos rfl] at es
      have pt := put (a_ht cf i - 1) (a_ht cf i) (z_I h2 (so + 3) (a_ht cf i - 1) ^^^ m1) (fun t => !(a_ev (a_lfv bk ans n t) cf i (a_ht cf i - 1))) (by omega) (by omega) es (fun q h1 h2 => h1) (fun t ht => ⟨(ee t).trans (if_pos rfl), by
        have gt := g (a_ht cf i - 1) t (by omega) ht
        have e1 : bt m1 t = true := b_m1 t (by omega)
        rw [b_xor, gt, e1, Bool.xor_true]⟩)
      have w0' : z_I h2 (so + 1) i = nI 2 := w0
      obtain ⟨H, hH⟩ : ∃ H, a_ht cf i = H := ⟨_, rfl⟩
      rw [hH] at pt hp hl ⊢
      unfold fX7_testsOf_b182
      simp (disch := first | assumption | omega) only [p_some, p_gd, p_br, p_bi, p_nm, p_mp, p_Sl, p_Sr, p_bis, p_gdt, Nat.not_lt_zero, Nat.reduceEqDiff, Nat.reduceLT, Nat.reduceLeDiff, true_and, and_true, true_implies, false_implies, not_true_eq_false, not_false_eq_true, implies_true, and_self, ne_eq, decide_true, decide_false, Bool.not_true, Bool.not_false, if_true, if_false, reduceIte, t1, t2, t4, t5, t6, t9, t10, r_lit, r_m1, v1, nI_leI, nI_ltI, nI_eq, nI_clamp, w0', q_ix, pk_sub, nI_add, show ¬ c ≤ i by omega, show ¬ 40 ≤ i by omega, show ¬ H < 1 by omega]
      exact pt
    · by_cases c2122 : w = 21 ∨ w = 22
      · have hp : 2 ≤ a_ht cf i := by omega
        rw [if_neg (by omega), if_neg (by omega)] at es
        have em := s_addm (H := a_ht cf i) (by omega)
        have e2 : a_ht cf i - 1 - 1 = a_ht cf i - 2 := by omega
        rcases c2122 with rfl | rfl
        · have pt := put (a_ht cf i - 2) (a_ht cf i - 1) (z_I h2 (so + 3) (a_ht cf i - 2) &&& z_I h2 (so + 3) (a_ht cf i - 1)) (fun t => a_ev (a_lfv bk ans n t) cf i (a_ht cf i - 2) && a_ev (a_lfv bk ans n t) cf i (a_ht cf i - 1)) (by omega) (by omega) es (fun q h1 h2 => by omega) (fun t ht => ⟨(ee t).trans (by rw [if_neg (by omega), if_pos rfl]), by
            rw [b_and, g (a_ht cf i - 1) t (by omega) ht, g (a_ht cf i - 2) t (by omega) ht]⟩)
          have w0' : z_I h2 (so + 1) i = nI 3 := w0
          obtain ⟨H, hH⟩ : ∃ H, a_ht cf i = H := ⟨_, rfl⟩
          rw [hH] at pt hp hl em e2 ⊢
          unfold fX7_testsOf_b181 fX7_testsOf_b182
          simp (disch := first | assumption | omega) only [p_some, p_gd, p_br, p_bi, p_nm, p_mp, p_Sl, p_Sr, p_bis, p_gdt, Nat.not_lt_zero, Nat.reduceEqDiff, Nat.reduceLT, Nat.reduceLeDiff, true_and, and_true, true_implies, false_implies, not_true_eq_false, not_false_eq_true, implies_true, and_self, ne_eq, decide_true, decide_false, Bool.not_true, Bool.not_false, if_true, if_false, reduceIte, t1, t2, t4, t5, t6, t9, t10, r_lit, r_m1, em, e2, v1, nI_leI, nI_ltI, nI_eq, nI_clamp, w0', q_ix, pk_sub, nI_add, show ¬ c ≤ i by omega, show ¬ 40 ≤ i by omega, show ¬ H < 2 by omega]
          exact pt
        · have pt := put (a_ht cf i - 2) (a_ht cf i - 1) (z_I h2 (so + 3) (a_ht cf i - 2) ||| z_I h2 (so + 3) (a_ht cf i - 1)) (fun t => a_ev (a_lfv bk ans n t) cf i (a_ht cf i - 2) || a_ev (a_lfv bk ans n t) cf i (a_ht cf i - 1)) (by omega) (by omega) es (fun q h1 h2 => by omega) (fun t ht => ⟨(ee t).trans (by rw [if_neg (by omega), if_neg (by omega), if_pos rfl]), by
            rw [b_or, g (a_ht cf i - 1) t (by omega) ht, g (a_ht cf i - 2) t (by omega) ht]⟩)
          have w0' : z_I h2 (so + 1) i = nI 4 := w0
          obtain ⟨H, hH⟩ : ∃ H, a_ht cf i = H := ⟨_, rfl⟩
          rw [hH] at pt hp hl em e2 ⊢
          unfold fX7_testsOf_b181 fX7_testsOf_b182
          simp (disch := first | assumption | omega) only [p_some, p_gd, p_br, p_bi, p_nm, p_mp, p_Sl, p_Sr, p_bis, p_gdt, Nat.not_lt_zero, Nat.reduceEqDiff, Nat.reduceLT, Nat.reduceLeDiff, true_and, and_true, true_implies, false_implies, not_true_eq_false, not_false_eq_true, implies_true, and_self, ne_eq, decide_true, decide_false, Bool.not_true, Bool.not_false, if_true, if_false, reduceIte, t1, t2, t4, t5, t6, t9, t10, r_lit, r_m1, em, e2, v1, nI_leI, nI_ltI, nI_eq, nI_clamp, w0', q_ix, pk_sub, nI_add, show ¬ c ≤ i by omega, show ¬ 40 ≤ i by omega, show ¬ H < 2 by omega]
          exact pt
      · rw [if_pos (by omega)] at es
        have ee' : ∀ t, a_ev (a_lfv bk ans n t) cf (i + 1) = a_ub1 (a_ev (a_lfv bk ans n t) cf i) (a_ht cf i) (a_lfv bk ans n t w sg x) := fun t => (ee t).trans (by rw [if_neg c20, if_neg (by omega), if_neg (by omega)])
        by_cases c1 : w = 1
        · subst c1
          have pt := put (a_ht cf i) (a_ht cf i + 1) (nI (a_ai ans n)) (fun t => a_lfv bk ans n t 1 sg x) (by omega) (by omega) es (fun q h1 h2 => by omega) (fun t ht => ⟨ee' t, by
            rw [bt_nI (by omega)]
            show (a_bs (fun t => decide (0 < a_tm ans t n)) 8).testBit t = _
            rw [a_bs_tb, decide_eq_true (by omega), Bool.true_and]
            rfl⟩)
          have w0' : z_I h2 (so + 1) i = nI 1 := w0
          have ai := x_askedIn N2 hn
          obtain ⟨H, hH⟩ : ∃ H, a_ht cf i = H := ⟨_, rfl⟩
          rw [hH] at pt hl ⊢
          unfold fX7_testsOf_b40 fX7_testsOf_b76 fX7_testsOf_b182
          simp (disch := first | assumption | omega) only [p_some, p_gd, p_br, p_bi, p_nm, p_mp, p_Sl, p_Sr, p_bis, p_gdt, Nat.not_lt_zero, Nat.reduceEqDiff, Nat.reduceLT, Nat.reduceLeDiff, true_and, and_true, true_implies, false_implies, not_true_eq_false, not_false_eq_true, implies_true, and_self, ne_eq, decide_true, decide_false, Bool.not_true, Bool.not_false, if_true, if_false, reduceIte, t1, t2, t3, t4, t5, t6, t7, t8, t9, t10, xo_0 N2.1, ai, r_lit, v1, nI_leI, nI_eq, nI_clamp, w0', q_ix, nI_add, show ¬ c ≤ i by omega, show ¬ 40 ≤ i by omega, show ¬ 40 ≤ H by omega]
          exact pt
        · have cst : a_cst w = 0 := by
            unfold a_cst
            rw [if_neg c1, if_neg c20, if_neg (by omega), if_neg (by omega)]
          have pt := put (a_ht cf i) (a_ht cf i + 1) (nI (a_cse bk w sg x)) (fun t => a_lfv bk ans n t w sg x) (by omega) (by omega) es (fun q h1 h2 => by omega) (fun t ht => ⟨ee' t, by
            rw [bt_nI (by omega)]
            exact a_cse_tb h8 ht (by omega)⟩)
          rw [cst] at w0
          obtain ⟨H, hH⟩ : ∃ H, a_ht cf i = H := ⟨_, rfl⟩
          rw [hH] at pt hl ⊢
          unfold fX7_testsOf_b40 fX7_testsOf_b76 fX7_testsOf_b182
          simp (disch := first | assumption | omega) only [p_some, p_gd, p_br, p_bi, p_nm, p_mp, p_Sl, p_Sr, p_bis, p_gdt, Nat.not_lt_zero, Nat.reduceEqDiff, Nat.reduceLT, Nat.reduceLeDiff, true_and, and_true, true_implies, false_implies, not_true_eq_false, not_false_eq_true, implies_true, and_self, ne_eq, decide_true, decide_false, Bool.not_true, Bool.not_false, if_true, if_false, reduceIte, t1, t2, t3, t4, t5, t6, t7, t8, t9, t10, r_lit, v1, nI_leI, nI_eq, nI_clamp, w0, w1, q_ix, nI_add, show ¬ c ≤ i by omega, show ¬ 40 ≤ i by omega, show ¬ 40 ≤ H by omega]
          exact pt
  · rintro ⟨x, y, h2⟩ ⟨e1, e2, f, g⟩
    dsimp only at e1 e2 f g
    subst e1 e2
    have S2 := S.fr hs f (fun k => by omega) (fun k => by omega) (by omega) (by omega)
    have N2 := N.fr f ho hb (fun j k hj => by unfold isN at ho; omega) (fun j k hj => by omega)
    obtain ⟨t1, t2, t3, t4, t5, t6, t7, t8, t9, t10⟩ := S2.1
    obtain ⟨v1, v2, v3⟩ := S2.2
    have p1 : 1 ≤ 2 ^ bk 0 := Nat.two_pow_pos _
    have p2 : 2 ^ bk 0 ≤ 256 := Nat.le_trans (Nat.pow_le_pow_right (by decide) h8) (by decide)
    unfold fX7_testsOf_b4_i fX7_testsOf_b188
    simp (disch := first | assumption | omega) only [p_some, p_gd, p_br, p_bi, p_nm, p_mp, p_Sl, p_Sr, p_bis, p_gdt, Nat.not_lt_zero, Nat.reduceEqDiff, Nat.reduceLT, Nat.reduceLeDiff, true_and, and_true, true_implies, false_implies, not_true_eq_false, not_false_eq_true, implies_true, and_self, ne_eq, decide_true, decide_false, Bool.not_true, Bool.not_false, if_true, if_false, reduceIte, t1, t2, t4, t9, t10, xo_0 N2.1, N2.2.1, xb_0 N2.2.2.1.1, N2.2.2.1.2.1, r_lit, v1, nI_leI, nI_clamp, q_ix, r_shl, pk_sub, Nat.le_refl]
    refine ⟨?_, f⟩
    refine b_ext (fun t ht => ?_)
    rw [b_and, bt_nI ht, bt_nI ht, Nat.testBit_two_pow_sub_one]
    show _ = (a_bs _ (bk 0)).testBit t
    rw [a_bs_tb]
    by_cases c : t < bk 0
    · rw [decide_eq_true c, Bool.and_true, Bool.true_and]
      exact g 0 t (by omega) c
    · rw [decide_eq_false c, Bool.and_false, Bool.false_and]
theorem x_opSaid0 {x : Int32} {Q : Int32 × z_T → Prop} (s : SX h) (S : z_R h 14 2 = none) (k : Q (m1, h)) : p_W (fX11_said 0 x h) Q := by
  unfold fX11_said
  simp (disch := first | assumption | omega) only [p_some, p_gd, p_br, p_bi, p_nm, p_mp, p_Sl, p_Sr, p_bis, p_gdt, Nat.not_lt_zero, Nat.reduceEqDiff, Nat.reduceLT, Nat.reduceLeDiff, true_and, and_true, true_implies, false_implies, not_true_eq_false, not_false_eq_true, implies_true, and_self, ne_eq, decide_true, decide_false, Bool.not_true, Bool.not_false, if_true, if_false, reduceIte, xk0 s, xr0_3 s, xk14 s, S, p_op, r_lit, r_m1]
  exact ⟨k, fun y e => absurd e (by simp)⟩
theorem x_opSaid {x : Int32} {bo so c1 : Nat} {Q : Int32 × z_T → Prop} (X : xNow h bo bk ans n) (b : BOK bk) (hO : NOK bk ans n) (hs : 83 ≤ so) (hbs : bo + 8 ≤ so ∨ so + 4 ≤ bo) (S0 : z_R h 14 2 = some so) (S : xSn h so bk cf c c1) (W : WFC (bk 1) cf c) (h1 : a_ht cf c = 1) (hc : c ≤ 39)
    (k : ∀ h', x_fr (fun o _ => o ≠ so + 3) h h' → Q (a_said bk ans cf n c x, h')) : p_W (fX11_said 0 x h) Q := by
  obtain ⟨s, N, hb⟩ := X
  have h8 := b.1
  have V8 : a_sV bk ans cf n c < 256 := a_bs_256 h8
  unfold fX11_said
  unfold a_said at k
  simp (disch := first | assumption | omega) only [p_some, p_gd, p_br, p_bi, p_nm, p_mp, p_Sl, p_Sr, p_bis, p_gdt, Nat.not_lt_zero, Nat.reduceEqDiff, Nat.reduceLT, Nat.reduceLeDiff, true_and, and_true, true_implies, false_implies, not_true_eq_false, not_false_eq_true, implies_true, and_self, ne_eq, decide_true, decide_false, Bool.not_true, Bool.not_false, if_true, if_false, reduceIte, xk0 s, xr0_3 s, xk14 s, S0, p_op, r_lit, r_m1]
  refine ⟨fun e => absurd e (by simp), fun y e => ?_⟩
  obtain rfl := Option.some.inj e
  refine p_br.mpr ⟨fun cx => ?_, fun cx => ?_⟩
  rotate_left
  · rw [if_neg cx] at k
    exact p_some.mpr (k h x_fr.rf)
  rw [if_pos cx] at k
  simp (disch := first | assumption | omega) only [p_some, p_gd, p_br, p_bi, p_nm, p_mp, p_Sl, p_Sr, p_bis, p_gdt, Nat.not_lt_zero, Nat.reduceEqDiff, Nat.reduceLT, Nat.reduceLeDiff, true_and, and_true, true_implies, false_implies, not_true_eq_false, not_false_eq_true, implies_true, and_self, ne_eq, decide_true, decide_false, Bool.not_true, Bool.not_false, if_true, if_false, reduceIte, xr14_0 s, S.1.1]
  refine p_mono (x_testsOf s b N (Or.inl rfl) hb hO.1 hs hbs S W h1 hc) (fun w ⟨e1, f1⟩ => ?_)
  obtain ⟨r, h2⟩ := w
  dsimp only at e1 f1 ⊢
  subst e1
  have k' := k h2 f1
  refine p_br.mpr ⟨fun c1 => ?_, fun c1 => ?_⟩
  · rw [if_pos c1] at k'
    simp (disch := first | assumption | omega) only [p_some, p_gd, p_br, p_bi, p_nm, p_mp, p_Sl, p_Sr, p_bis, p_gdt, Nat.not_lt_zero, Nat.reduceEqDiff, Nat.reduceLT, Nat.reduceLeDiff, true_and, and_true, true_implies, false_implies, not_true_eq_false, not_false_eq_true, implies_true, and_self, ne_eq, decide_true, decide_false, Bool.not_true, Bool.not_false, if_true, if_false, reduceIte, x_bits _ V8]
    exact k'
  · rw [if_neg c1] at k'
    simp (disch := first | assumption | omega) only [p_some, p_gd, p_br, p_bi, p_nm, p_mp, p_Sl, p_Sr, p_bis, p_gdt, Nat.not_lt_zero, Nat.reduceEqDiff, Nat.reduceLT, Nat.reduceLeDiff, true_and, and_true, true_implies, false_implies, not_true_eq_false, not_false_eq_true, implies_true, and_self, ne_eq, decide_true, decide_false, Bool.not_true, Bool.not_false, if_true, if_false, reduceIte, x_nthOf c1]
    exact k'
end SAID
