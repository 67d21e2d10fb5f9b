/-! what the steps of a sentence say of a test; the reference -/
def a_lfv (bk ans : Nat → Nat) (n k w s x : Nat) : Bool := if w = 0 then (a_goods bk).testBit k else if w = 1 then decide (0 < a_tm ans k n) else if w = 2 then (bk (30 + x)).testBit k else a_cmp s (a_cvl bk w k) x
def a_ub1 (f : Nat → Bool) (k : Nat) (v : Bool) : Nat → Bool := fun i => if i = k then v else f i
theorem a_ub1_e {f : Nat → Bool} {k : Nat} {v : Bool} : a_ub1 f k v k = v := if_pos rfl
theorem a_ub1_n {f : Nat → Bool} {k i : Nat} {v : Bool} (h : i ≠ k) : a_ub1 f k v i = f i := if_neg h
def a_ev (lv : Nat → Nat → Nat → Bool) (cf : Nat → Nat) : Nat → Nat → Bool
  | 0 => fun _ => false
  | i + 1 => if cf (3 * i) = 20 then a_ub1 (a_ev lv cf i) (a_ht cf i - 1) (!(a_ev lv cf i (a_ht cf i - 1)))
    else if cf (3 * i) = 21 then a_ub1 (a_ev lv cf i) (a_ht cf i - 2) (a_ev lv cf i (a_ht cf i - 2) && a_ev lv cf i (a_ht cf i - 1))
    else if cf (3 * i) = 22 then a_ub1 (a_ev lv cf i) (a_ht cf i - 2) (a_ev lv cf i (a_ht cf i - 2) || a_ev lv cf i (a_ht cf i - 1))
    else a_ub1 (a_ev lv cf i) (a_ht cf i) (lv (cf (3 * i)) (cf (3 * i + 1)) (cf (3 * i + 2)))
theorem s_narb {p : Prop} [Decidable p] : vp_nar .boolean (bI p) = bI p := by
  by_cases c : p
  · rw [bI_t c]; decide
  · rw [bI_f c]; decide
theorem s_addm {H : Nat} (h : 0 < H) : nI H + m1 = nI (H - 1) := by
  obtain ⟨k, rfl⟩ : ∃ k, H = k + 1 := ⟨H - 1, by omega⟩
  rw [← nI_add, Nat.add_sub_cancel, Int32.add_assoc]
  show nI k + (1 + -1) = nI k
  rw [show (1 : Int32) + -1 = 0 by decide, Int32.add_zero]
section MSAID
variable {h : z_T} {bk ans cf : Nat → Nat} {n k c : Nat}
theorem m_leafCmp {s x v : Nat} (hs : 60 ≤ s ∧ s ≤ 62) (hx : x ≤ 99) (hv : v ≤ 99) : fX12_isLeaf_b94 (nI s) (nI x) (nI v) h = some (bI (a_cmp s v x = true)) := by
  have d : a_cmp s v x = true ↔ (if s = 60 then v < x else if s = 61 then v = x else x < v) := by unfold a_cmp; exact decide_eq_true_iff
  refine p_of ?_
  unfold fX12_isLeaf_b94
  have e3' : s = 60 ∨ s = 61 ∨ s = 62 := by omega
  rcases e3' with rfl | rfl | rfl
  · rw [if_pos rfl] at d
    simp (disch := first | assumption | omega) only [p_some, p_gd, p_br, p_bi, p_nm, p_mp, p_Sl, p_Sr, p_bis, p_gdt, Nat.not_lt_zero, Nat.reduceEqDiff, Nat.reduceLT, Nat.reduceLeDiff, true_and, and_true, true_implies, false_implies, not_true_eq_false, not_false_eq_true, implies_true, and_self, ne_eq, decide_true, decide_false, Bool.not_true, Bool.not_false, if_true, if_false, reduceIte, r_lit, nI_leI]
    exact ⟨fun c => (bI_f (fun q => by have := d.mp q; omega)).symm, fun c => (bI_t (d.mpr (by omega))).symm⟩
  · rw [if_neg (by omega), if_pos rfl] at d
    simp (disch := first | assumption | omega) only [p_some, p_gd, p_br, p_bi, p_nm, p_mp, p_Sl, p_Sr, p_bis, p_gdt, Nat.not_lt_zero, Nat.reduceEqDiff, Nat.reduceLT, Nat.reduceLeDiff, true_and, and_true, true_implies, false_implies, not_true_eq_false, not_false_eq_true, implies_true, and_self, ne_eq, decide_true, decide_false, Bool.not_true, Bool.not_false, if_true, if_false, reduceIte, r_lit, nI_eq]
    exact ⟨fun c => (bI_t (d.mpr c)).symm, fun c => (bI_f (fun q => c (d.mp q))).symm⟩
  · rw [if_neg (by omega), if_neg (by omega)] at d
    simp (disch := first | assumption | omega) only [p_some, p_gd, p_br, p_bi, p_nm, p_mp, p_Sl, p_Sr, p_bis, p_gdt, Nat.not_lt_zero, Nat.reduceEqDiff, Nat.reduceLT, Nat.reduceLeDiff, true_and, and_true, true_implies, false_implies, not_true_eq_false, not_false_eq_true, implies_true, and_self, ne_eq, decide_true, decide_false, Bool.not_true, Bool.not_false, if_true, if_false, reduceIte, r_lit, nI_leI, nI_eq]
    exact ⟨fun c => (bI_f (fun q => by have := d.mp q; omega)).symm, fun c => (bI_t (d.mpr (by omega))).symm⟩
theorem m_isLeaf (s : SM h) (b : BOK bk) (hN : mNi h bk n ans) (hO : NOK bk ans n) (hk : k < bk 0) {w sg x : Nat} (hw : w ≤ 1 ∨ (w = 2 ∧ x < bk 1) ∨ (3 ≤ w ∧ w ≤ 5 ∧ 60 ≤ sg ∧ sg ≤ 62 ∧ x ≤ 99)) : fX12_isLeaf 0 (nI k) (nI w) (nI sg) (nI x) h = some (bI (a_lfv bk ans n k w sg x = true)) := by
  have h8 := b.1
  have h6 := b.2.1
  have hB := hN.1
  refine p_of ?_
  unfold fX12_isLeaf a_lfv
  by_cases c0 : w = 0
  · subst c0
    have g8 := a_bs_lt (fun t => decide (bk (8 + t) = 9 ∧ bk (16 + t) = 0)) (bk 0)
    have g256 : a_goods bk < 256 := a_bs_256 h8
    have g := m_goods s b hB
    have bo := m_bitOf (n := a_goods bk) (j := k) (by omega) (by omega)
    simp (disch := first | assumption | omega) only [p_some, p_gd, p_br, p_bi, p_nm, p_mp, p_Sl, p_Sr, p_bis, p_gdt, q_IL, q_IR, q_LI, q_LR, q_RI, q_RL, q_KI, q_KL, q_KR, q_NI, q_NL, q_NR, q_nI, q_nL, q_nR, q_okI, q_okL, q_okR, q_Ie, q_In, q_Le, q_Ln, SM_I, SM_L, s_c0, s_cg0, s_cl0, s_cge, s_cle, r_le, r_lt, r_eq, r_md, r_2, r_3, r_lit, r_litL, r_m1, nI_add, nI_1, nI_clamp, nI_leI, nI_ltI, nI_eq, pk_sub, q_ix, nI_l, lN_add, lN_mul, r_m1n, r_m1n', r_m1lt, r_m1nlt, r_m1le, r_m1nle, Nat.not_lt_zero, Nat.reduceEqDiff, Nat.reduceLT, Nat.reduceLeDiff, true_and, and_true, true_implies, false_implies, not_true_eq_false, not_false_eq_true, implies_true, and_self, ne_eq, decide_true, decide_false, Bool.not_true, Bool.not_false, if_true, if_false, reduceIte, mk0, mk1, mk2, mk3, mk4, mk5, mk6, mk7, mk8, mk9, mk10, mk11, mk12, mk13, mk14, mk15, mk16, mk17, mk18, mk19, mk20, mk21, mk22, mn1, mn2, mn3, mn4, mn5, mn6, mn7, mn8, mn9, mn10, mn11, mn12, mn13, mn14, mn15, mn16, mn17, mn18, mn19, mn20, mn21, mn22, mr1, mr6, mr7, mr8, mr9, mr10, mr21, mr22, mr23, mr25, mr26, mr29, mr30, mr32, mr33, mr34, mr43, mr47, mr53, mr54, mr55, mr56, g, bo, bI_y]
  · by_cases c1 : w = 1
    · subst c1
      have h36 := hN.2.1
      have hn := hO.1
      have tm := m_timesOf (t := k) s hN.2.2 (by omega) (by omega) (fun i hi => by have := hO.2.1 i hi; omega)
      have tl := a_tm_le ans k n
      simp (disch := first | assumption | omega) only [p_some, p_gd, p_br, p_bi, p_nm, p_mp, p_Sl, p_Sr, p_bis, p_gdt, q_IL, q_IR, q_LI, q_LR, q_RI, q_RL, q_KI, q_KL, q_KR, q_NI, q_NL, q_NR, q_nI, q_nL, q_nR, q_okI, q_okL, q_okR, q_Ie, q_In, q_Le, q_Ln, SM_I, SM_L, s_c0, s_cg0, s_cl0, s_cge, s_cle, r_le, r_lt, r_eq, r_md, r_2, r_3, r_lit, r_litL, r_m1, nI_add, nI_1, nI_clamp, nI_leI, nI_ltI, nI_eq, pk_sub, q_ix, nI_l, lN_add, lN_mul, r_m1n, r_m1n', r_m1lt, r_m1nlt, r_m1le, r_m1nle, Nat.not_lt_zero, Nat.reduceEqDiff, Nat.reduceLT, Nat.reduceLeDiff, true_and, and_true, true_implies, false_implies, not_true_eq_false, not_false_eq_true, implies_true, and_self, ne_eq, decide_true, decide_false, Bool.not_true, Bool.not_false, if_true, if_false, reduceIte, mk0, mk1, mk2, mk3, mk4, mk5, mk6, mk7, mk8, mk9, mk10, mk11, mk12, mk13, mk14, mk15, mk16, mk17, mk18, mk19, mk20, mk21, mk22, mn1, mn2, mn3, mn4, mn5, mn6, mn7, mn8, mn9, mn10, mn11, mn12, mn13, mn14, mn15, mn16, mn17, mn18, mn19, mn20, mn21, mn22, mr1, mr6, mr7, mr8, mr9, mr10, mr21, mr22, mr23, mr25, mr26, mr29, mr30, mr32, mr33, mr34, mr43, mr47, mr53, mr54, mr55, mr56, h36, tm]
      refine ⟨fun q => ?_, fun q => ?_⟩
      · rw [bI_f (fun z => by have := of_decide_eq_true z; omega)]
      · rw [bI_t (decide_eq_true (by omega))]
    · by_cases c2 : w = 2
      · subst c2
        have x6 : x < bk 1 := by omega
        have kp := b.kp (d := x) (by omega)
        have bo := m_bitOf (n := bk (30 + x)) (j := k) (by omega) (by omega)
        have e := hB (30 + x) (by omega)
        simp (disch := first | assumption | omega) only [p_some, p_gd, p_br, p_bi, p_nm, p_mp, p_Sl, p_Sr, p_bis, p_gdt, q_IL, q_IR, q_LI, q_LR, q_RI, q_RL, q_KI, q_KL, q_KR, q_NI, q_NL, q_NR, q_nI, q_nL, q_nR, q_okI, q_okL, q_okR, q_Ie, q_In, q_Le, q_Ln, SM_I, SM_L, s_c0, s_cg0, s_cl0, s_cge, s_cle, r_le, r_lt, r_eq, r_md, r_2, r_3, r_lit, r_litL, r_m1, nI_add, nI_1, nI_clamp, nI_leI, nI_ltI, nI_eq, pk_sub, q_ix, nI_l, lN_add, lN_mul, r_m1n, r_m1n', r_m1lt, r_m1nlt, r_m1le, r_m1nle, Nat.not_lt_zero, Nat.reduceEqDiff, Nat.reduceLT, Nat.reduceLeDiff, true_and, and_true, true_implies, false_implies, not_true_eq_false, not_false_eq_true, implies_true, and_self, ne_eq, decide_true, decide_false, Bool.not_true, Bool.not_false, if_true, if_false, reduceIte, mk0, mk1, mk2, mk3, mk4, mk5, mk6, mk7, mk8, mk9, mk10, mk11, mk12, mk13, mk14, mk15, mk16, mk17, mk18, mk19, mk20, mk21, mk22, mn1, mn2, mn3, mn4, mn5, mn6, mn7, mn8, mn9, mn10, mn11, mn12, mn13, mn14, mn15, mn16, mn17, mn18, mn19, mn20, mn21, mn22, mr1, mr6, mr7, mr8, mr9, mr10, mr21, mr22, mr23, mr25, mr26, mr29, mr30, mr32, mr33, mr34, mr43, mr47, mr53, mr54, mr55, mr56, e, bo, bI_y]
      · have hr := b.2.2.2.2.2.2.2.2.1 k (by omega)
        have e8 := hB (8 + k) (by omega)
        have e16 := hB (16 + k) (by omega)
        by_cases c3 : w = 3
        · subst c3
          have lc := m_leafCmp (h := h) (s := sg) (x := x) (v := bk (8 + k)) (by omega) (by omega) (by omega)
          simp (disch := first | assumption | omega) only [p_some, p_gd, p_br, p_bi, p_nm, p_mp, p_Sl, p_Sr, p_bis, p_gdt, q_IL, q_IR, q_LI, q_LR, q_RI, q_RL, q_KI, q_KL, q_KR, q_NI, q_NL, q_NR, q_nI, q_nL, q_nR, q_okI, q_okL, q_okR, q_Ie, q_In, q_Le, q_Ln, SM_I, SM_L, s_c0, s_cg0, s_cl0, s_cge, s_cle, r_le, r_lt, r_eq, r_md, r_2, r_3, r_lit, r_litL, r_m1, nI_add, nI_1, nI_clamp, nI_leI, nI_ltI, nI_eq, pk_sub, q_ix, nI_l, lN_add, lN_mul, r_m1n, r_m1n', r_m1lt, r_m1nlt, r_m1le, r_m1nle, Nat.not_lt_zero, Nat.reduceEqDiff, Nat.reduceLT, Nat.reduceLeDiff, true_and, and_true, true_implies, false_implies, not_true_eq_false, not_false_eq_true, implies_true, and_self, ne_eq, decide_true, decide_false, Bool.not_true, Bool.not_false, if_true, if_false, reduceIte, mk0, mk1, mk2, mk3, mk4, mk5, mk6, mk7, mk8, mk9, mk10, mk11, mk12, mk13, mk14, mk15, mk16, mk17, mk18, mk19, mk20, mk21, mk22, mn1, mn2, mn3, mn4, mn5, mn6, mn7, mn8, mn9, mn10, mn11, mn12, mn13, mn14, mn15, mn16, mn17, mn18, mn19, mn20, mn21, mn22, mr1, mr6, mr7, mr8, mr9, mr10, mr21, mr22, mr23, mr25, mr26, mr29, mr30, mr32, mr33, mr34, mr43, mr47, mr53, mr54, mr55, mr56, e8, lc]
          rfl
        · by_cases c4 : w = 4
          · subst c4
            have lc := m_leafCmp (h := h) (s := sg) (x := x) (v := bk (16 + k)) (by omega) (by omega) (by omega)
            simp (disch := first | assumption | omega) only [p_some, p_gd, p_br, p_bi, p_nm, p_mp, p_Sl, p_Sr, p_bis, p_gdt, q_IL, q_IR, q_LI, q_LR, q_RI, q_RL, q_KI, q_KL, q_KR, q_NI, q_NL, q_NR, q_nI, q_nL, q_nR, q_okI, q_okL, q_okR, q_Ie, q_In, q_Le, q_Ln, SM_I, SM_L, s_c0, s_cg0, s_cl0, s_cge, s_cle, r_le, r_lt, r_eq, r_md, r_2, r_3, r_lit, r_litL, r_m1, nI_add, nI_1, nI_clamp, nI_leI, nI_ltI, nI_eq, pk_sub, q_ix, nI_l, lN_add, lN_mul, r_m1n, r_m1n', r_m1lt, r_m1nlt, r_m1le, r_m1nle, Nat.not_lt_zero, Nat.reduceEqDiff, Nat.reduceLT, Nat.reduceLeDiff, true_and, and_true, true_implies, false_implies, not_true_eq_false, not_false_eq_true, implies_true, and_self, ne_eq, decide_true, decide_false, Bool.not_true, Bool.not_false, if_true, if_false, reduceIte, mk0, mk1, mk2, mk3, mk4, mk5, mk6, mk7, mk8, mk9, mk10, mk11, mk12, mk13, mk14, mk15, mk16, mk17, mk18, mk19, mk20, mk21, mk22, mn1, mn2, mn3, mn4, mn5, mn6, mn7, mn8, mn9, mn10, mn11, mn12, mn13, mn14, mn15, mn16, mn17, mn18, mn19, mn20, mn21, mn22, mr1, mr6, mr7, mr8, mr9, mr10, mr21, mr22, mr23, mr25, mr26, mr29, mr30, mr32, mr33, mr34, mr43, mr47, mr53, mr54, mr55, mr56, e16, lc]
            rfl
          · have c5 : w = 5 := by omega
            subst c5
            have lc := m_leafCmp (h := h) (s := sg) (x := x) (v := k) (by omega) (by omega) (by omega)
            simp (disch := first | assumption | omega) only [p_some, p_gd, p_br, p_bi, p_nm, p_mp, p_Sl, p_Sr, p_bis, p_gdt, q_IL, q_IR, q_LI, q_LR, q_RI, q_RL, q_KI, q_KL, q_KR, q_NI, q_NL, q_NR, q_nI, q_nL, q_nR, q_okI, q_okL, q_okR, q_Ie, q_In, q_Le, q_Ln, SM_I, SM_L, s_c0, s_cg0, s_cl0, s_cge, s_cle, r_le, r_lt, r_eq, r_md, r_2, r_3, r_lit, r_litL, r_m1, nI_add, nI_1, nI_clamp, nI_leI, nI_ltI, nI_eq, pk_sub, q_ix, nI_l, lN_add, lN_mul, r_m1n, r_m1n', r_m1lt, r_m1nlt, r_m1le, r_m1nle, Nat.not_lt_zero, Nat.reduceEqDiff, Nat.reduceLT, Nat.reduceLeDiff, true_and, and_true, true_implies, false_implies, not_true_eq_false, not_false_eq_true, implies_true, and_self, ne_eq, decide_true, decide_false, Bool.not_true, Bool.not_false, if_true, if_false, reduceIte, mk0, mk1, mk2, mk3, mk4, mk5, mk6, mk7, mk8, mk9, mk10, mk11, mk12, mk13, mk14, mk15, mk16, mk17, mk18, mk19, mk20, mk21, mk22, mn1, mn2, mn3, mn4, mn5, mn6, mn7, mn8, mn9, mn10, mn11, mn12, mn13, mn14, mn15, mn16, mn17, mn18, mn19, mn20, mn21, mn22, mr1, mr6, mr7, mr8, mr9, mr10, mr21, mr22, mr23, mr25, mr26, mr29, mr30, mr32, mr33, mr34, mr43, mr47, mr53, mr54, mr55, mr56, lc]
            rfl
theorem m_isSaid (s : SM h) (b : BOK bk) (hN : mNi h bk n ans) (hO : NOK bk ans n) (S : mSe h cf c) (W : WFC (bk 1) cf c) (h1 : a_ht cf c = 1) (hc : c ≤ 39) (hk : k < bk 0) : p_W (fX12_isSaid 0 (nI k) h) (fun w => w.1 = bI (a_ev (a_lfv bk ans n k) cf c 0 = true) ∧ m_fr (fun o _ => o ≠ 19) h w.2) := by
  obtain ⟨S1, S2⟩ := S
  unfold fX12_isSaid fX12_isSaid_b4
  refine p_for c (fun i w => w.1 = nI (a_ht cf i) ∧ w.2.1 = nI i ∧ m_fr (fun o _ => o ≠ 19) h w.2.2 ∧ ∀ j, j < a_ht cf i → z_I w.2.2 19 j = bI (a_ev (a_lfv bk ans n k) cf i j = true)) ?_ ?_ 0 (by omega) ⟨rfl, rfl, m_fr.rf, fun j hj => absurd hj (Nat.not_lt_zero _)⟩
  · rintro i ⟨x, y, h2⟩ hi ⟨e1, e2, f, g⟩
    dsimp only at e1 e2 f g
    subst e1 e2
    have s2 := f.s s
    have a1 := (f.I 2 176 (by omega)).trans S1
    have w0 := (f.I 2 _ (by omega)).trans (S2 (3 * i) (by omega))
    have w1 := (f.I 2 _ (by omega)).trans (S2 (3 * i + 1) (by omega))
    have w2 := (f.I 2 _ (by omega)).trans (S2 (3 * i + 2) (by omega))
    have hl := a_ht_le (cf := cf) i
    have b0 := W.2 (3 * i) (by omega)
    have b1 := W.2 (3 * i + 1) (by omega)
    have b2 := W.2 (3 * i + 2) (by omega)
    have ok := W.1 i hi
    have es : a_ht cf (i + 1) = if cf (3 * i) < 20 then a_ht cf i + 1 else if cf (3 * i) = 20 then a_ht cf i else a_ht cf i - 1 := rfl
    have ee : a_ev (a_lfv bk ans n k) cf (i + 1) = if cf (3 * i) = 20 then a_ub1 (a_ev (a_lfv bk ans n k) cf i) (a_ht cf i - 1) (!(a_ev (a_lfv bk ans n k) cf i (a_ht cf i - 1)))
      else if cf (3 * i) = 21 then a_ub1 (a_ev (a_lfv bk ans n k) cf i) (a_ht cf i - 2) (a_ev (a_lfv bk ans n k) cf i (a_ht cf i - 2) && a_ev (a_lfv bk ans n k) cf i (a_ht cf i - 1))
      else if cf (3 * i) = 22 then a_ub1 (a_ev (a_lfv bk ans n k) cf i) (a_ht cf i - 2) (a_ev (a_lfv bk ans n k) cf i (a_ht cf i - 2) || a_ev (a_lfv bk ans n k) cf i (a_ht cf i - 1))
      else a_ub1 (a_ev (a_lfv bk ans n k) cf i) (a_ht cf i) (a_lfv bk ans n k (cf (3 * i)) (cf (3 * i + 1)) (cf (3 * i + 2))) := rfl
    rw [show 177 + (3 * i + 1) = 177 + 3 * i + 1 by omega] at w1
    rw [show 177 + (3 * i + 2) = 177 + 3 * i + 2 by omega] at w2
    unfold a_cok at ok
    -- one place of the stack is written
    have put : ∀ (j H' : Nat) (v : Bool), j < H' → H' ≤ 40 → a_ht cf (i + 1) = H' → (∀ q, q < H' → q ≠ j → q < a_ht cf i) → a_ev (a_lfv bk ans n k) cf (i + 1) = a_ub1 (a_ev (a_lfv bk ans n k) cf i) j v →
        H' = a_ht cf (i + 1) ∧ m_fr (fun o _ => o ≠ 19) h (z_sI h2 19 j (bI (v = true))) ∧ ∀ q, q < a_ht cf (i + 1) → z_I (z_sI h2 19 j (bI (v = true))) 19 q = bI (a_ev (a_lfv bk ans n k) cf (i + 1) q = true) := fun j H' v hj hH eH hq ev => by
      refine ⟨eH.symm, f.sI (by omega), fun q hq2 => ?_⟩
      rw [ev]
      by_cases e : q = j
      · rw [q_Ie rfl e, e, a_ub1_e]
      · rw [q_In (by omega), a_ub1_n e]
        exact g q (hq q (by omega) e)
    generalize cf (3 * i) = w at *
    generalize cf (3 * i + 1) = sg at *
    generalize cf (3 * i + 2) = x at *
    unfold fX12_isSaid_b4_i
    by_cases c20 : w = 20
    · subst c20
      have hp : 1 ≤ a_ht cf i := by omega
      rw [if_neg (by omega), if_pos rfl] at es
      rw [if_pos rfl] at ee
      have gt := g (a_ht cf i - 1) (by omega)
      have pt := put (a_ht cf i - 1) (a_ht cf i) _ (by omega) (by omega) es (fun q h1 h2 => h1) ee
      obtain ⟨H, hH⟩ : ∃ H, a_ht cf i = H := ⟨_, rfl⟩
      rw [hH] at gt pt hp hl ⊢
      unfold fX12_isSaid_b60 fX12_isSaid_b206
      generalize a_ev (a_lfv bk ans n k) cf i (H - 1) = V at *
      simp (disch := first | assumption | omega) only [p_some, p_gd, p_br, p_bi, p_nm, p_mp, p_Sl, p_Sr, p_bis, p_gdt, Nat.not_lt_zero, Nat.reduceEqDiff, Nat.reduceLT, Nat.reduceLeDiff, true_and, and_true, true_implies, false_implies, not_true_eq_false, not_false_eq_true, implies_true, and_self, ne_eq, decide_true, decide_false, Bool.not_true, Bool.not_false, if_true, if_false, reduceIte, mk0 s2, mr6 s2, mk2 s2, mn2 s2, r_lit, a1, nI_leI, show ¬ c ≤ i by omega, pk_mul, nI_add, w0, q_ix, nI_clamp]
      cases V with
      | true =>
        rw [show (bI (true = true)) = nI 1 from rfl] at gt
        simp (disch := first | assumption | omega) only [p_some, p_gd, p_br, p_bi, p_nm, p_mp, p_Sl, p_Sr, p_bis, p_gdt, q_IL, q_IR, q_LI, q_LR, q_RI, q_RL, q_KI, q_KL, q_KR, q_NI, q_NL, q_NR, q_nI, q_nL, q_nR, q_okI, q_okL, q_okR, q_Ie, q_In, q_Le, q_Ln, SM_I, SM_L, s_c0, s_cg0, s_cl0, s_cge, s_cle, r_le, r_lt, r_eq, r_md, r_2, r_3, r_lit, r_litL, r_m1, nI_add, nI_1, nI_clamp, nI_leI, nI_ltI, nI_eq, pk_sub, q_ix, nI_l, lN_add, lN_mul, r_m1n, r_m1n', r_m1lt, r_m1nlt, r_m1le, r_m1nle, Nat.not_lt_zero, Nat.reduceEqDiff, Nat.reduceLT, Nat.reduceLeDiff, true_and, and_true, true_implies, false_implies, not_true_eq_false, not_false_eq_true, implies_true, and_self, ne_eq, decide_true, decide_false, Bool.not_true, Bool.not_false, if_true, if_false, reduceIte, mk0, mk1, mk2, mk3, mk4, mk5, mk6, mk7, mk8, mk9, mk10, mk11, mk12, mk13, mk14, mk15, mk16, mk17, mk18, mk19, mk20, mk21, mk22, mn1, mn2, mn3, mn4, mn5, mn6, mn7, mn8, mn9, mn10, mn11, mn12, mn13, mn14, mn15, mn16, mn17, mn18, mn19, mn20, mn21, mn22, mr1, mr6, mr7, mr8, mr9, mr10, mr21, mr22, mr23, mr25, mr26, mr29, mr30, mr32, mr33, mr34, mr43, mr47, mr53, mr54, mr55, mr56, gt, s_10, s_nar0]
        exact pt
      | false =>
        rw [show (bI (false = true)) = nI 0 from rfl] at gt
        simp (disch := first | assumption | omega) only [p_some, p_gd, p_br, p_bi, p_nm, p_mp, p_Sl, p_Sr, p_bis, p_gdt, q_IL, q_IR, q_LI, q_LR, q_RI, q_RL, q_KI, q_KL, q_KR, q_NI, q_NL, q_NR, q_nI, q_nL, q_nR, q_okI, q_okL, q_okR, q_Ie, q_In, q_Le, q_Ln, SM_I, SM_L, s_c0, s_cg0, s_cl0, s_cge, s_cle, r_le, r_lt, r_eq, r_md, r_2, r_3, r_lit, r_litL, r_m1, nI_add, nI_1, nI_clamp, nI_leI, nI_ltI, nI_eq, pk_sub, q_ix, nI_l, lN_add, lN_mul, r_m1n, r_m1n', r_m1lt, r_m1nlt, r_m1le, r_m1nle, Nat.not_lt_zero, Nat.reduceEqDiff, Nat.reduceLT, Nat.reduceLeDiff, true_and, and_true, true_implies, false_implies, not_true_eq_false, not_false_eq_true, implies_true, and_self, ne_eq, decide_true, decide_false, Bool.not_true, Bool.not_false, if_true, if_false, reduceIte, mk0, mk1, mk2, mk3, mk4, mk5, mk6, mk7, mk8, mk9, mk10, mk11, mk12, mk13, mk14, mk15, mk16, mk17, mk18, mk19, mk20, mk21, mk22, mn1, mn2, mn3, mn4, mn5, mn6, mn7, mn8, mn9, mn10, mn11, mn12, mn13, mn14, mn15, mn16, mn17, mn18, mn19, mn20, mn21, mn22, mr1, mr6, mr7, mr8, mr9, mr10, mr21, mr22, mr23, mr25, mr26, mr29, mr30, mr32, mr33, mr34, mr43, mr47, mr53, mr54, mr55, mr56, gt, s_nar1]
        exact pt
    · by_cases c21 : w = 21
      · subst c21
        have hp : 2 ≤ a_ht cf i := by omega
        rw [if_neg (by omega), if_neg (by omega)] at es
        rw [if_neg (by omega), if_pos rfl] at ee
        have g1 := g (a_ht cf i - 1) (by omega)
        have g2 := g (a_ht cf i - 2) (by omega)
        have pt := put (a_ht cf i - 2) (a_ht cf i - 1) _ (by omega) (by omega) es (fun q h1 h2 => by omega) ee
        obtain ⟨H, hH⟩ : ∃ H, a_ht cf i = H := ⟨_, rfl⟩
        rw [hH] at g1 g2 pt hp hl ⊢
        unfold fX12_isSaid_b88 fX12_isSaid_b134 fX12_isSaid_b163 fX12_isSaid_b206
        generalize a_ev (a_lfv bk ans n k) cf i (H - 1) = V1 at *
        generalize a_ev (a_lfv bk ans n k) cf i (H - 2) = V2 at *
        have em := s_addm (H := H) (by omega)
        simp (disch := first | assumption | omega) only [p_some, p_gd, p_br, p_bi, p_nm, p_mp, p_Sl, p_Sr, p_bis, p_gdt, Nat.not_lt_zero, Nat.reduceEqDiff, Nat.reduceLT, Nat.reduceLeDiff, true_and, and_true, true_implies, false_implies, not_true_eq_false, not_false_eq_true, implies_true, and_self, ne_eq, decide_true, decide_false, Bool.not_true, Bool.not_false, if_true, if_false, reduceIte, mk0 s2, mr6 s2, mk2 s2, mn2 s2, r_lit, r_m1, em, a1, nI_leI, show ¬ c ≤ i by omega, pk_mul, nI_add, w0, q_ix, nI_clamp]
        have e2 : H - 1 - 1 = H - 2 := by omega
        cases V2 with
        | true =>
          rw [show (bI (true = true)) = nI 1 from rfl] at g2
          cases V1 with
          | true =>
            rw [show (bI (true = true)) = nI 1 from rfl] at g1
            simp (disch := first | assumption | omega) only [p_some, p_gd, p_br, p_bi, p_nm, p_mp, p_Sl, p_Sr, p_bis, p_gdt, q_IL, q_IR, q_LI, q_LR, q_RI, q_RL, q_KI, q_KL, q_KR, q_NI, q_NL, q_NR, q_nI, q_nL, q_nR, q_okI, q_okL, q_okR, q_Ie, q_In, q_Le, q_Ln, SM_I, SM_L, s_c0, s_cg0, s_cl0, s_cge, s_cle, r_le, r_lt, r_eq, r_md, r_2, r_3, r_lit, r_litL, r_m1, nI_add, nI_1, nI_clamp, nI_leI, nI_ltI, nI_eq, pk_sub, q_ix, nI_l, lN_add, lN_mul, r_m1n, r_m1n', r_m1lt, r_m1nlt, r_m1le, r_m1nle, Nat.not_lt_zero, Nat.reduceEqDiff, Nat.reduceLT, Nat.reduceLeDiff, true_and, and_true, true_implies, false_implies, not_true_eq_false, not_false_eq_true, implies_true, and_self, ne_eq, decide_true, decide_false, Bool.not_true, Bool.not_false, if_true, if_false, reduceIte, mk0, mk1, mk2, mk3, mk4, mk5, mk6, mk7, mk8, mk9, mk10, mk11, mk12, mk13, mk14, mk15, mk16, mk17, mk18, mk19, mk20, mk21, mk22, mn1, mn2, mn3, mn4, mn5, mn6, mn7, mn8, mn9, mn10, mn11, mn12, mn13, mn14, mn15, mn16, mn17, mn18, mn19, mn20, mn21, mn22, mr1, mr6, mr7, mr8, mr9, mr10, mr21, mr22, mr23, mr25, mr26, mr29, mr30, mr32, mr33, mr34, mr43, mr47, mr53, mr54, mr55, mr56, e2, g1, g2, s_10, s_nar1]
            exact pt
          | false =>
            rw [show (bI (false = true)) = nI 0 from rfl] at g1
            simp (disch := first | assumption | omega) only [p_some, p_gd, p_br, p_bi, p_nm, p_mp, p_Sl, p_Sr, p_bis, p_gdt, q_IL, q_IR, q_LI, q_LR, q_RI, q_RL, q_KI, q_KL, q_KR, q_NI, q_NL, q_NR, q_nI, q_nL, q_nR, q_okI, q_okL, q_okR, q_Ie, q_In, q_Le, q_Ln, SM_I, SM_L, s_c0, s_cg0, s_cl0, s_cge, s_cle, r_le, r_lt, r_eq, r_md, r_2, r_3, r_lit, r_litL, r_m1, nI_add, nI_1, nI_clamp, nI_leI, nI_ltI, nI_eq, pk_sub, q_ix, nI_l, lN_add, lN_mul, r_m1n, r_m1n', r_m1lt, r_m1nlt, r_m1le, r_m1nle, Nat.not_lt_zero, Nat.reduceEqDiff, Nat.reduceLT, Nat.reduceLeDiff, true_and, and_true, true_implies, false_implies, not_true_eq_false, not_false_eq_true, implies_true, and_self, ne_eq, decide_true, decide_false, Bool.not_true, Bool.not_false, if_true, if_false, reduceIte, mk0, mk1, mk2, mk3, mk4, mk5, mk6, mk7, mk8, mk9, mk10, mk11, mk12, mk13, mk14, mk15, mk16, mk17, mk18, mk19, mk20, mk21, mk22, mn1, mn2, mn3, mn4, mn5, mn6, mn7, mn8, mn9, mn10, mn11, mn12, mn13, mn14, mn15, mn16, mn17, mn18, mn19, mn20, mn21, mn22, mr1, mr6, mr7, mr8, mr9, mr10, mr21, mr22, mr23, mr25, mr26, mr29, mr30, mr32, mr33, mr34, mr43, mr47, mr53, mr54, mr55, mr56, e2, g1, g2, s_10, s_nar0]
            exact pt
        | false =>
          rw [show (bI (false = true)) = nI 0 from rfl] at g2
          simp (disch := first | assumption | omega) only [p_some, p_gd, p_br, p_bi, p_nm, p_mp, p_Sl, p_Sr, p_bis, p_gdt, q_IL, q_IR, q_LI, q_LR, q_RI, q_RL, q_KI, q_KL, q_KR, q_NI, q_NL, q_NR, q_nI, q_nL, q_nR, q_okI, q_okL, q_okR, q_Ie, q_In, q_Le, q_Ln, SM_I, SM_L, s_c0, s_cg0, s_cl0, s_cge, s_cle, r_le, r_lt, r_eq, r_md, r_2, r_3, r_lit, r_litL, r_m1, nI_add, nI_1, nI_clamp, nI_leI, nI_ltI, nI_eq, pk_sub, q_ix, nI_l, lN_add, lN_mul, r_m1n, r_m1n', r_m1lt, r_m1nlt, r_m1le, r_m1nle, Nat.not_lt_zero, Nat.reduceEqDiff, Nat.reduceLT, Nat.reduceLeDiff, true_and, and_true, true_implies, false_implies, not_true_eq_false, not_false_eq_true, implies_true, and_self, ne_eq, decide_true, decide_false, Bool.not_true, Bool.not_false, if_true, if_false, reduceIte, mk0, mk1, mk2, mk3, mk4, mk5, mk6, mk7, mk8, mk9, mk10, mk11, mk12, mk13, mk14, mk15, mk16, mk17, mk18, mk19, mk20, mk21, mk22, mn1, mn2, mn3, mn4, mn5, mn6, mn7, mn8, mn9, mn10, mn11, mn12, mn13, mn14, mn15, mn16, mn17, mn18, mn19, mn20, mn21, mn22, mr1, mr6, mr7, mr8, mr9, mr10, mr21, mr22, mr23, mr25, mr26, mr29, mr30, mr32, mr33, mr34, mr43, mr47, mr53, mr54, mr55, mr56, e2, g2, s_nar0]
          rw [Bool.false_and] at pt
          exact pt
      · by_cases c22 : w = 22
        · subst c22
          have hp : 2 ≤ a_ht cf i := by omega
          rw [if_neg (by omega), if_neg (by omega)] at es
          rw [if_neg (by omega), if_neg (by omega), if_pos rfl] at ee
          have g1 := g (a_ht cf i - 1) (by omega)
          have g2 := g (a_ht cf i - 2) (by omega)
          have pt := put (a_ht cf i - 2) (a_ht cf i - 1) _ (by omega) (by omega) es (fun q h1 h2 => by omega) ee
          obtain ⟨H, hH⟩ : ∃ H, a_ht cf i = H := ⟨_, rfl⟩
          rw [hH] at g1 g2 pt hp hl ⊢
          unfold fX12_isSaid_b88 fX12_isSaid_b158 fX12_isSaid_b163 fX12_isSaid_b206
          generalize a_ev (a_lfv bk ans n k) cf i (H - 1) = V1 at *
          generalize a_ev (a_lfv bk ans n k) cf i (H - 2) = V2 at *
          have em := s_addm (H := H) (by omega)
          simp (disch := first | assumption | omega) only [p_some, p_gd, p_br, p_bi, p_nm, p_mp, p_Sl, p_Sr, p_bis, p_gdt, Nat.not_lt_zero, Nat.reduceEqDiff, Nat.reduceLT, Nat.reduceLeDiff, true_and, and_true, true_implies, false_implies, not_true_eq_false, not_false_eq_true, implies_true, and_self, ne_eq, decide_true, decide_false, Bool.not_true, Bool.not_false, if_true, if_false, reduceIte, mk0 s2, mr6 s2, mk2 s2, mn2 s2, r_lit, r_m1, em, a1, nI_leI, show ¬ c ≤ i by omega, pk_mul, nI_add, w0, q_ix, nI_clamp]
          have e2 : H - 1 - 1 = H - 2 := by omega
          cases V2 with
          | true =>
            rw [show (bI (true = true)) = nI 1 from rfl] at g2
            simp (disch := first | assumption | omega) only [p_some, p_gd, p_br, p_bi, p_nm, p_mp, p_Sl, p_Sr, p_bis, p_gdt, q_IL, q_IR, q_LI, q_LR, q_RI, q_RL, q_KI, q_KL, q_KR, q_NI, q_NL, q_NR, q_nI, q_nL, q_nR, q_okI, q_okL, q_okR, q_Ie, q_In, q_Le, q_Ln, SM_I, SM_L, s_c0, s_cg0, s_cl0, s_cge, s_cle, r_le, r_lt, r_eq, r_md, r_2, r_3, r_lit, r_litL, r_m1, nI_add, nI_1, nI_clamp, nI_leI, nI_ltI, nI_eq, pk_sub, q_ix, nI_l, lN_add, lN_mul, r_m1n, r_m1n', r_m1lt, r_m1nlt, r_m1le, r_m1nle, Nat.not_lt_zero, Nat.reduceEqDiff, Nat.reduceLT, Nat.reduceLeDiff, true_and, and_true, true_implies, false_implies, not_true_eq_false, not_false_eq_true, implies_true, and_self, ne_eq, decide_true, decide_false, Bool.not_true, Bool.not_false, if_true, if_false, reduceIte, mk0, mk1, mk2, mk3, mk4, mk5, mk6, mk7, mk8, mk9, mk10, mk11, mk12, mk13, mk14, mk15, mk16, mk17, mk18, mk19, mk20, mk21, mk22, mn1, mn2, mn3, mn4, mn5, mn6, mn7, mn8, mn9, mn10, mn11, mn12, mn13, mn14, mn15, mn16, mn17, mn18, mn19, mn20, mn21, mn22, mr1, mr6, mr7, mr8, mr9, mr10, mr21, mr22, mr23, mr25, mr26, mr29, mr30, mr32, mr33, mr34, mr43, mr47, mr53, mr54, mr55, mr56, e2, g2, s_10, s_nar1]
            rw [Bool.true_or] at pt
            exact pt
          | false =>
            rw [show (bI (false = true)) = nI 0 from rfl] at g2
            cases V1 with
            | true =>
              rw [show (bI (true = true)) = nI 1 from rfl] at g1
              simp (disch := first | assumption | omega) only [p_some, p_gd, p_br, p_bi, p_nm, p_mp, p_Sl, p_Sr, p_bis, p_gdt, q_IL, q_IR, q_LI, q_LR, q_RI, q_RL, q_KI, q_KL, q_KR, q_NI, q_NL, q_NR, q_nI, q_nL, q_nR, q_okI, q_okL, q_okR, q_Ie, q_In, q_Le, q_Ln, SM_I, SM_L, s_c0, s_cg0, s_cl0, s_cge, s_cle, r_le, r_lt, r_eq, r_md, r_2, r_3, r_lit, r_litL, r_m1, nI_add, nI_1, nI_clamp, nI_leI, nI_ltI, nI_eq, pk_sub, q_ix, nI_l, lN_add, lN_mul, r_m1n, r_m1n', r_m1lt, r_m1nlt, r_m1le, r_m1nle, Nat.not_lt_zero, Nat.reduceEqDiff, Nat.reduceLT, Nat.reduceLeDiff, true_and, and_true, true_implies, false_implies, not_true_eq_false, not_false_eq_true, implies_true, and_self, ne_eq, decide_true, decide_false, Bool.not_true, Bool.not_false, if_true, if_false, reduceIte, mk0, mk1, mk2, mk3, mk4, mk5, mk6, mk7, mk8, mk9, mk10, mk11, mk12, mk13, mk14, mk15, mk16, mk17, mk18, mk19, mk20, mk21, mk22, mn1, mn2, mn3, mn4, mn5, mn6, mn7, mn8, mn9, mn10, mn11, mn12, mn13, mn14, mn15, mn16, mn17, mn18, mn19, mn20, mn21, mn22, mr1, mr6, mr7, mr8, mr9, mr10, mr21, mr22, mr23, mr25, mr26, mr29, mr30, mr32, mr33, mr34, mr43, mr47, mr53, mr54, mr55, mr56, e2, g1, g2, s_10, s_nar1]
              exact pt
            | false =>
              rw [show (bI (false = true)) = nI 0 from rfl] at g1
              simp (disch := first | assumption | omega) only [p_some, p_gd, p_br, p_bi, p_nm, p_mp, p_Sl, p_Sr, p_bis, p_gdt, q_IL, q_IR, q_LI, q_LR, q_RI, q_RL, q_KI, q_KL, q_KR, q_NI, q_NL, q_NR, q_nI, q_nL, q_nR, q_okI, q_okL, q_okR, q_Ie, q_In, q_Le, q_Ln, SM_I, SM_L, s_c0, s_cg0, s_cl0, s_cge, s_cle, r_le, r_lt, r_eq, r_md, r_2, r_3, r_lit, r_litL, r_m1, nI_add, nI_1, nI_clamp, nI_leI, nI_ltI, nI_eq, pk_sub, q_ix, nI_l, lN_add, lN_mul, r_m1n, r_m1n', r_m1lt, r_m1nlt, r_m1le, r_m1nle, Nat.not_lt_zero, Nat.reduceEqDiff, Nat.reduceLT, Nat.reduceLeDiff, true_and, and_true, true_implies, false_implies, not_true_eq_false, not_false_eq_true, implies_true, and_self, ne_eq, decide_true, decide_false, Bool.not_true, Bool.not_false, if_true, if_false, reduceIte, mk0, mk1, mk2, mk3, mk4, mk5, mk6, mk7, mk8, mk9, mk10, mk11, mk12, mk13, mk14, mk15, mk16, mk17, mk18, mk19, mk20, mk21, mk22, mn1, mn2, mn3, mn4, mn5, mn6, mn7, mn8, mn9, mn10, mn11, mn12, mn13, mn14, mn15, mn16, mn17, mn18, mn19, mn20, mn21, mn22, mr1, mr6, mr7, mr8, mr9, mr10, mr21, mr22, mr23, mr25, mr26, mr29, mr30, mr32, mr33, mr34, mr43, mr47, mr53, mr54, mr55, mr56, e2, g1, g2, s_nar0]
              exact pt
        · have lf := m_isLeaf (w := w) (sg := sg) (x := x) s2 b (hN.fr f (fun _ => by omega)) hO hk (by omega)
          rw [if_pos (by omega)] at es
          rw [if_neg c20, if_neg c21, if_neg c22] at ee
          have pt := put (a_ht cf i) (a_ht cf i + 1) _ (by omega) (by omega) es (fun q h1 h2 => by omega) ee
          obtain ⟨H, hH⟩ : ∃ H, a_ht cf i = H := ⟨_, rfl⟩
          rw [hH] at pt hl ⊢
          generalize a_lfv bk ans n k w sg x = V at *
          unfold fX12_isSaid_b206
          simp (disch := first | assumption | omega) only [p_some, p_gd, p_br, p_bi, p_nm, p_mp, p_Sl, p_Sr, p_bis, p_gdt, Nat.not_lt_zero, Nat.reduceEqDiff, Nat.reduceLT, Nat.reduceLeDiff, true_and, and_true, true_implies, false_implies, not_true_eq_false, not_false_eq_true, implies_true, and_self, ne_eq, decide_true, decide_false, Bool.not_true, Bool.not_false, if_true, if_false, reduceIte, mk0 s2, mr6 s2, mr53 s2, mk2 s2, mn2 s2, r_lit, a1, nI_leI, nI_eq, c20, c21, c22, show ¬ c ≤ i by omega, pk_mul, nI_add, w0, w1, w2, q_ix, nI_clamp, lf]
          simp (disch := first | assumption | omega) only [p_some, p_gd, p_br, p_bi, p_nm, p_mp, p_Sl, p_Sr, p_bis, p_gdt, q_IL, q_IR, q_LI, q_LR, q_RI, q_RL, q_KI, q_KL, q_KR, q_NI, q_NL, q_NR, q_nI, q_nL, q_nR, q_okI, q_okL, q_okR, q_Ie, q_In, q_Le, q_Ln, SM_I, SM_L, s_c0, s_cg0, s_cl0, s_cge, s_cle, r_le, r_lt, r_eq, r_md, r_2, r_3, r_lit, r_litL, r_m1, nI_add, nI_1, nI_clamp, nI_leI, nI_ltI, nI_eq, pk_sub, q_ix, nI_l, lN_add, lN_mul, r_m1n, r_m1n', r_m1lt, r_m1nlt, r_m1le, r_m1nle, Nat.not_lt_zero, Nat.reduceEqDiff, Nat.reduceLT, Nat.reduceLeDiff, true_and, and_true, true_implies, false_implies, not_true_eq_false, not_false_eq_true, implies_true, and_self, ne_eq, decide_true, decide_false, Bool.not_true, Bool.not_false, if_true, if_false, reduceIte, mk0, mk1, mk2, mk3, mk4, mk5, mk6, mk7, mk8, mk9, mk10, mk11, mk12, mk13, mk14, mk15, mk16, mk17, mk18, mk19, mk20, mk21, mk22, mn1, mn2, mn3, mn4, mn5, mn6, mn7, mn8, mn9, mn10, mn11, mn12, mn13, mn14, mn15, mn16, mn17, mn18, mn19, mn20, mn21, mn22, mr1, mr6, mr7, mr8, mr9, mr10, mr21, mr22, mr23, mr25, mr26, mr29, mr30, mr32, mr33, mr34, mr43, mr47, mr53, mr54, mr55, mr56, s_narb]
          exact pt
  · rintro ⟨x, y, h2⟩ ⟨e1, e2, f, g⟩
    dsimp only at e1 e2 f g
    subst e1 e2
    have s2 := f.s s
    have a1 := (f.I 2 176 (by omega)).trans S1
    have g0 := g 0 (by omega)
    unfold fX12_isSaid_b4_i
    simp (disch := first | assumption | omega) only [p_some, p_gd, p_br, p_bi, p_nm, p_mp, p_Sl, p_Sr, p_bis, p_gdt, q_IL, q_IR, q_LI, q_LR, q_RI, q_RL, q_KI, q_KL, q_KR, q_NI, q_NL, q_NR, q_nI, q_nL, q_nR, q_okI, q_okL, q_okR, q_Ie, q_In, q_Le, q_Ln, SM_I, SM_L, s_c0, s_cg0, s_cl0, s_cge, s_cle, r_le, r_lt, r_eq, r_md, r_2, r_3, r_lit, r_litL, r_m1, nI_add, nI_1, nI_clamp, nI_leI, nI_ltI, nI_eq, pk_sub, q_ix, nI_l, lN_add, lN_mul, r_m1n, r_m1n', r_m1lt, r_m1nlt, r_m1le, r_m1nle, Nat.not_lt_zero, Nat.reduceEqDiff, Nat.reduceLT, Nat.reduceLeDiff, true_and, and_true, true_implies, false_implies, not_true_eq_false, not_false_eq_true, implies_true, and_self, ne_eq, decide_true, decide_false, Bool.not_true, Bool.not_false, if_true, if_false, reduceIte, mk0, mk1, mk2, mk3, mk4, mk5, mk6, mk7, mk8, mk9, mk10, mk11, mk12, mk13, mk14, mk15, mk16, mk17, mk18, mk19, mk20, mk21, mk22, mn1, mn2, mn3, mn4, mn5, mn6, mn7, mn8, mn9, mn10, mn11, mn12, mn13, mn14, mn15, mn16, mn17, mn18, mn19, mn20, mn21, mn22, mr1, mr6, mr7, mr8, mr9, mr10, mr21, mr22, mr23, mr25, mr26, mr29, mr30, mr32, mr33, mr34, mr43, mr47, mr53, mr54, mr55, mr56, a1, Nat.le_refl, g0, bI_y]
    exact f
end MSAID
