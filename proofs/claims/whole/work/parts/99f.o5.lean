/-! how sure one was, the next test, nights judged by draws -/
theorem s_a1 {a : Nat} : nI a &&& nI 1 = nI (a % 2) := fa_mask a 1
theorem s_h1 {a : Nat} (h : a < 2 ^ 31) : nI a >>> (nI 1 &&& nI 31) = nI (a / 2) := pk_shrN h (nI 1 &&& nI 31) 1 (s_l 1 (by decide))
theorem x_opAfter {h : z_T} {bo n : Nat} {bk ans : Nat → Nat} {Q : Option Int64 × z_T → Prop} (W : xNow h bo bk ans n) (b : BOK bk) (hO : NOK bk ans n) (x y : Int32)
    (k : ∀ h', x_fr (fun a _ => a < 64 ∨ 68 ≤ a) h h' → Q (a_after bk ans n x y, h')) : p_W (fX11_after 0 x y h) Q := by
  obtain ⟨s, N, hb⟩ := W
  have h8 := b.1
  have hn := hO.1
  have hix := r_isinL (x := x) (m := n) (by omega)
  unfold fX11_after fX11_after_b27
  simp (disch := first | assumption | omega) only [p_some, p_gd, p_br, p_bi, p_nm, p_mp, p_Sl, p_Sr, p_bis, p_gdt, q_IL, q_IR, q_LI, q_LR, q_RI, q_RL, q_KI, q_KL, q_KR, q_NI, q_NL, q_NR, q_nI, q_nL, q_nR, q_okI, q_okL, q_okR, q_Ie, q_In, q_Le, q_Ln, SM_I, SM_L, s_c0, s_cg0, s_cl0, s_cge, s_cle, r_le, r_lt, r_eq, r_md, r_2, r_3, r_lit, r_litL, r_m1, nI_add, nI_1, nI_clamp, nI_leI, nI_ltI, nI_eq, pk_sub, q_ix, nI_l, lN_add, lN_mul, r_m1n, r_m1n', r_m1lt, r_m1nlt, r_m1le, r_m1nle, Nat.not_lt_zero, Nat.reduceEqDiff, Nat.reduceLT, Nat.reduceLeDiff, true_and, and_true, true_implies, false_implies, not_true_eq_false, not_false_eq_true, implies_true, and_self, ne_eq, decide_true, decide_false, Bool.not_true, Bool.not_false, if_true, if_false, reduceIte, xb_0, xb_1, xb_2, xb_3, xb_4, xb_5, xb_6, xb_7, xb_8, xb_9, xb_10, xb_11, xb_12, xb_13, xb_14, xb_15, xb_16, xb_17, xb_18, xb_19, xb_20, xb_21, xo_0, xo_1, xo_2, xo_3, xo_4, xo_5, xo_6, xo_7, xo_8, xo_9, x_isSide, bI_0, xk0 s, xr0_3 s, xk14 s, xr14_0 s, xo_0 N.1, N.2.1, N.2.2.2.1, xr0_6 s, xk64 s]
  unfold a_after at k
  refine ⟨fun c => ?_, fun c => ⟨fun c1 => ?_, fun c1 => ⟨fun c2 => ?_, fun c2 => ?_⟩⟩⟩
  · rw [if_neg (fun q => (hix.mpr q.1).1 c)] at k
    exact k _ x_fr.rf
  · rw [if_neg (fun q => (hix.mpr q.1).2 c1)] at k
    exact k _ x_fr.rf
  · rw [if_neg (fun q => c2 q.2)] at k
    exact k _ x_fr.rf
  · have cx : z_ix x (n + 1) = true := hix.mp ⟨c, c1⟩
    rw [if_pos ⟨cx, Classical.not_not.mp c2⟩] at k
    obtain ⟨i, hi, rfl⟩ := (z_ix_e (by omega)).mp cx
    obtain ⟨w, hw, rfl⟩ := z_ixn c2 (by omega)
    unfold a_side at k
    rw [nI_clamp (by omega), nI_clamp (by omega)] at k
    have ho : isN 64 := by unfold isN; omega
    have hOi := hO.pre (i := i) (by omega)
    refine x_begin (ans := ans) b (xns64 s) N.2.2.1 ho hb (fun h1 f1 N1 => ?_)
    have g1 : x_fr (fun a _ => a < 64 ∨ 68 ≤ a) h h1 := f1.w (fun a k _ c => by unfold nC; omega)
    unfold fX11_after_b49
    refine p_for i (fun j w => w.1 = nI j ∧ x_fr (fun a _ => a < 64 ∨ 68 ≤ a) h w.2 ∧ ∃ an, xNi w.2 64 bo bk an j ∧ ∀ l, l < j → an l = ans l) ?_ ?_ 0 (by omega) ⟨rfl, g1, ans, N1, fun _ _ => rfl⟩
    · rintro j ⟨x2, h2⟩ hj ⟨e1, f2, an, N2, ha2⟩
      dsimp only at e1 f2 N2
      subst e1
      have s2 := f2.s s
      have M2 := N.fr f2 (Or.inl rfl) hb (fun a k ha => by omega) (fun a k ha => by omega)
      have haj := hO.2.1 j (by omega)
      have ej : fX2_answerAt 15 (nI j) h2 = some (nI (ans j)) := by
        rw [x_answerAt M2 hn]
        unfold a_answer
        rw [if_pos (q_ix (by omega) (by omega)), nI_clamp (by omega)]
      unfold fX11_after_b49_i
      simp (disch := first | assumption | omega) only [p_some, p_gd, p_br, p_bi, p_nm, p_mp, p_Sl, p_Sr, p_bis, p_gdt, q_IL, q_IR, q_LI, q_LR, q_RI, q_RL, q_KI, q_KL, q_KR, q_NI, q_NL, q_NR, q_nI, q_nL, q_nR, q_okI, q_okL, q_okR, q_Ie, q_In, q_Le, q_Ln, SM_I, SM_L, s_c0, s_cg0, s_cl0, s_cge, s_cle, r_le, r_lt, r_eq, r_md, r_2, r_3, r_lit, r_litL, r_m1, nI_add, nI_1, nI_clamp, nI_leI, nI_ltI, nI_eq, pk_sub, q_ix, nI_l, lN_add, lN_mul, r_m1n, r_m1n', r_m1lt, r_m1nlt, r_m1le, r_m1nle, Nat.not_lt_zero, Nat.reduceEqDiff, Nat.reduceLT, Nat.reduceLeDiff, true_and, and_true, true_implies, false_implies, not_true_eq_false, not_false_eq_true, implies_true, and_self, ne_eq, decide_true, decide_false, Bool.not_true, Bool.not_false, if_true, if_false, reduceIte, xb_0, xb_1, xb_2, xb_3, xb_4, xb_5, xb_6, xb_7, xb_8, xb_9, xb_10, xb_11, xb_12, xb_13, xb_14, xb_15, xb_16, xb_17, xb_18, xb_19, xb_20, xb_21, xo_0, xo_1, xo_2, xo_3, xo_4, xo_5, xo_6, xo_7, xo_8, xo_9, xo_0 M2.1, ej, xk0 s2, xr0_6 s2, xk64 s2, s_a1, s_h1, show ¬ i ≤ j by omega]
      refine x_add b N2 (by omega) (show ans j / 2 < bk 0 by omega) (Nat.mod_lt _ (by decide)) ho hb (fun h3 f3 _ N3 => ?_)
      refine ⟨f2.tr (f3.w (fun a k _ c => by unfold nC; omega)), _, N3, fun l hl => ?_⟩
      unfold a_u
      by_cases e : l = j
      · rw [if_pos e, e]; omega
      · rw [if_neg e]; exact ha2 l (by omega)
    · rintro ⟨x2, h2⟩ ⟨e1, f2, an, N2, ha2⟩
      dsimp only at e1 f2 N2
      subst e1
      have s2 := f2.s s
      obtain ⟨b1, b2, b3, b4⟩ := a_up_b b hOi.1 hOi.2.1
      have hp := hOi.2.2
      have e3 : a_lk bk an 0 i = a_lk bk ans 0 i := a_lk_congr ha2
      have e4 : a_all bk an i = a_all bk ans i := a_all_congr ha2
      have r1 := x_ofRoom N2
      have r2 := x_ofAll b N2
      rw [e3] at r1
      rw [e4] at r2
      unfold fX11_after_b49_i
      simp (disch := first | assumption | omega) only [p_some, p_gd, p_br, p_bi, p_nm, p_mp, p_Sl, p_Sr, p_bis, p_gdt, q_IL, q_IR, q_LI, q_LR, q_RI, q_RL, q_KI, q_KL, q_KR, q_NI, q_NL, q_NR, q_nI, q_nL, q_nR, q_okI, q_okL, q_okR, q_Ie, q_In, q_Le, q_Ln, SM_I, SM_L, s_c0, s_cg0, s_cl0, s_cge, s_cle, r_le, r_lt, r_eq, r_md, r_2, r_3, r_lit, r_litL, r_m1, nI_add, nI_1, nI_clamp, nI_leI, nI_ltI, nI_eq, pk_sub, q_ix, nI_l, lN_add, lN_mul, r_m1n, r_m1n', r_m1lt, r_m1nlt, r_m1le, r_m1nle, Nat.not_lt_zero, Nat.reduceEqDiff, Nat.reduceLT, Nat.reduceLeDiff, true_and, and_true, true_implies, false_implies, not_true_eq_false, not_false_eq_true, implies_true, and_self, ne_eq, decide_true, decide_false, Bool.not_true, Bool.not_false, if_true, if_false, reduceIte, xb_0, xb_1, xb_2, xb_3, xb_4, xb_5, xb_6, xb_7, xb_8, xb_9, xb_10, xb_11, xb_12, xb_13, xb_14, xb_15, xb_16, xb_17, xb_18, xb_19, xb_20, xb_21, xo_0, xo_1, xo_2, xo_3, xo_4, xo_5, xo_6, xo_7, xo_8, xo_9, Nat.le_refl, xk0 s2, xr0_6 s2, xk64 s2, r1, r2, x_fraction]
      exact k h2 f2
/-! the next test -/
def a_g (bk ans : Nat → Nat) (n t st q : Nat) : Nat := a_lk bk ans q n * a_fa (a_od bk ans n q t) st
def a_dm (bk ans : Nat → Nat) (n t st m : Nat) : Nat := sumN (fun q => a_g bk ans n t st (q + 1)) m
def a_kb (bk ans : Nat → Nat) (n t st : Nat) : Nat := if a_g bk ans n t st 0 ≤ a_dm bk ans n t st 6 then a_dm bk ans n t st 6 else a_g bk ans n t st 0
def a_kn (bk ans : Nat → Nat) (n t : Nat) : Nat := a_kb bk ans n t 0 + a_kb bk ans n t 1
theorem a_g_le {bk ans : Nat → Nat} {n t st q : Nat} (b : BOK bk) (ht : t < 8) : a_g bk ans n t st q ≤ a_lk bk ans q n * 9 := Nat.mul_le_mul_left _ (a_fa_le (b.od ht))
theorem a_dm_le {bk ans : Nat → Nat} {n t st m : Nat} (b : BOK bk) (ht : t < 8) (hm : m ≤ 6) : a_dm bk ans n t st m + a_g bk ans n t st 0 ≤ a_all bk ans n * 9 := by
  have h1 : a_dm bk ans n t st m ≤ sumN (fun q => a_lk bk ans (q + 1) n * 9) m := sumN_mono (fun i _ => a_g_le b ht)
  rw [sumN_mul (f := fun q => a_lk bk ans (q + 1) n)] at h1
  have h2 : sumN (fun q => a_lk bk ans (q + 1) n) m + a_lk bk ans 0 n ≤ a_all bk ans n := by
    rw [← a_all_split b, Nat.add_comm]
    have : sumN (fun q => a_lk bk ans (q + 1) n) m ≤ sumN (fun q => a_lk bk ans (q + 1) n) 6 := by
      have : ∀ j, m ≤ j → sumN (fun q => a_lk bk ans (q + 1) n) m ≤ sumN (fun q => a_lk bk ans (q + 1) n) j := by
        intro j hj
        induction j with
        | zero => rw [show m = 0 by omega]; exact Nat.le_refl _
        | succ j ih =>
          by_cases e : m = j + 1
          · rw [e]; exact Nat.le_refl _
          · have := ih (by omega)
            rw [sumN]
            omega
      exact this 6 hm
    omega
  have h3 := a_g_le (ans := ans) (n := n) (st := st) (q := 0) b ht
  have h4 : (sumN (fun q => a_lk bk ans (q + 1) n) m + a_lk bk ans 0 n) * 9 ≤ a_all bk ans n * 9 := Nat.mul_le_mul_right _ h2
  rw [Nat.add_mul] at h4
  omega
theorem a_kb_le {bk ans : Nat → Nat} {n t st : Nat} (b : BOK bk) (hO : NOK bk ans n) (ht : t < 8) : a_kb bk ans n t st ≤ 39540135107340 * 9 := by
  have h1 := a_dm_le (ans := ans) (n := n) (st := st) b ht (Nat.le_refl 6)
  obtain ⟨b1, b2, b3, b4⟩ := a_up_b b hO.1 hO.2.1
  unfold a_kb
  split <;> omega
theorem x_knownBehind {h : z_T} {o bo n t : Nat} {bk ans : Nat → Nat} (b : BOK bk) (N : xNi h o bo bk ans n) (hO : NOK bk ans n) (ht : t < 8) : fX2_knownBehind o (nI t) h = some (lN (a_kn bk ans n t)) := by
  have hn := hO.1
  obtain ⟨b1, b2, b3, b4⟩ := a_up_b b hO.1 hO.2.1
  refine p_of ?_
  unfold fX2_knownBehind fX2_knownBehind_b5
  refine p_for 2 (fun st w => w = (lN (sumN (a_kb bk ans n t) st), nI st)) ?_ ?_ 0 (by omega) rfl
  · rintro st w hst rfl
    have hf0 := a_fa_le (s := st) (b.od (ans := ans) (n := n) (q := 0) ht)
    have hd := a_dm_le (ans := ans) (n := n) (st := st) b ht (Nat.le_refl 6)
    unfold fX2_knownBehind_b5_i
    simp (disch := first | assumption | omega) only [p_some, p_gd, p_br, p_bi, p_nm, p_mp, p_Sl, p_Sr, p_bis, p_gdt, q_IL, q_IR, q_LI, q_LR, q_RI, q_RL, q_KI, q_KL, q_KR, q_NI, q_NL, q_NR, q_nI, q_nL, q_nR, q_okI, q_okL, q_okR, q_Ie, q_In, q_Le, q_Ln, SM_I, SM_L, s_c0, s_cg0, s_cl0, s_cge, s_cle, r_le, r_lt, r_eq, r_md, r_2, r_3, r_lit, r_litL, r_m1, nI_add, nI_1, nI_clamp, nI_leI, nI_ltI, nI_eq, pk_sub, q_ix, nI_l, lN_add, lN_mul, r_m1n, r_m1n', r_m1lt, r_m1nlt, r_m1le, r_m1nle, Nat.not_lt_zero, Nat.reduceEqDiff, Nat.reduceLT, Nat.reduceLeDiff, true_and, and_true, true_implies, false_implies, not_true_eq_false, not_false_eq_true, implies_true, and_self, ne_eq, decide_true, decide_false, Bool.not_true, Bool.not_false, if_true, if_false, reduceIte, xb_0, xb_1, xb_2, xb_3, xb_4, xb_5, xb_6, xb_7, xb_8, xb_9, xb_10, xb_11, xb_12, xb_13, xb_14, xb_15, xb_16, xb_17, xb_18, xb_19, xb_20, xb_21, xo_0, xo_1, xo_2, xo_3, xo_4, xo_5, xo_6, xo_7, xo_8, xo_9, xo_0 N.1, x_ofRoom N, x_chanceOf b N, show ¬ 1 < st by omega]
    unfold fX2_knownBehind_b33
    refine p_for 6 (fun j w => w = (lN (a_dm bk ans n t st j), nI (j + 1))) ?_ ?_ 0 (by omega) rfl
    · rintro j w hj rfl
      have hf := a_fa_le (s := st) (b.od (ans := ans) (n := n) (q := j + 1) ht)
      unfold fX2_knownBehind_b33_i
      simp (disch := first | assumption | omega) only [p_some, p_gd, p_br, p_bi, p_nm, p_mp, p_Sl, p_Sr, p_bis, p_gdt, q_IL, q_IR, q_LI, q_LR, q_RI, q_RL, q_KI, q_KL, q_KR, q_NI, q_NL, q_NR, q_nI, q_nL, q_nR, q_okI, q_okL, q_okR, q_Ie, q_In, q_Le, q_Ln, SM_I, SM_L, s_c0, s_cg0, s_cl0, s_cge, s_cle, r_le, r_lt, r_eq, r_md, r_2, r_3, r_lit, r_litL, r_m1, nI_add, nI_1, nI_clamp, nI_leI, nI_ltI, nI_eq, pk_sub, q_ix, nI_l, lN_add, lN_mul, r_m1n, r_m1n', r_m1lt, r_m1nlt, r_m1le, r_m1nle, Nat.not_lt_zero, Nat.reduceEqDiff, Nat.reduceLT, Nat.reduceLeDiff, true_and, and_true, true_implies, false_implies, not_true_eq_false, not_false_eq_true, implies_true, and_self, ne_eq, decide_true, decide_false, Bool.not_true, Bool.not_false, if_true, if_false, reduceIte, xb_0, xb_1, xb_2, xb_3, xb_4, xb_5, xb_6, xb_7, xb_8, xb_9, xb_10, xb_11, xb_12, xb_13, xb_14, xb_15, xb_16, xb_17, xb_18, xb_19, xb_20, xb_21, xo_0, xo_1, xo_2, xo_3, xo_4, xo_5, xo_6, xo_7, xo_8, xo_9, xo_0 N.1, x_ofPlace N, x_chanceOf b N, show ¬ 7 ≤ j + 1 by omega]
      unfold a_dm a_g
      rw [sumN]
    · rintro w rfl
      have e0 : a_lk bk ans 0 n * a_fa (a_od bk ans n 0 t) st = a_g bk ans n t st 0 := rfl
      unfold fX2_knownBehind_b33_i
      rw [e0]
      have em : (if lN (a_dm bk ans n t st 6) < lN (a_g bk ans n t st 0) then lN (a_g bk ans n t st 0) else lN (a_dm bk ans n t st 6)) = lN (a_kb bk ans n t st) := by
        unfold a_kb
        by_cases c : a_g bk ans n t st 0 ≤ a_dm bk ans n t st 6
        · rw [if_neg (by rw [r_lt (by omega) (by omega)]; omega), if_pos c]
        · rw [if_pos (by rw [r_lt (by omega) (by omega)]; omega), if_neg c]
      simp (disch := first | assumption | omega) only [p_mp, p_nm, p_some, p_Sr, p_Sl, em, lN_add, nI_1]
      rw [p_brT (show (7 : Int32) ≤ nI (6 + 1) by decide)]
      simp (disch := first | assumption | omega) only [p_mp, p_nm, p_some, p_Sr, p_Sl, em, lN_add, nI_1]
      rw [sumN]
  · rintro w rfl
    unfold fX2_knownBehind_b5_i
    simp (disch := first | assumption | omega) only [p_some, p_gd, p_br, p_bi, p_nm, p_mp, p_Sl, p_Sr, p_bis, p_gdt, q_IL, q_IR, q_LI, q_LR, q_RI, q_RL, q_KI, q_KL, q_KR, q_NI, q_NL, q_NR, q_nI, q_nL, q_nR, q_okI, q_okL, q_okR, q_Ie, q_In, q_Le, q_Ln, SM_I, SM_L, s_c0, s_cg0, s_cl0, s_cge, s_cle, r_le, r_lt, r_eq, r_md, r_2, r_3, r_lit, r_litL, r_m1, nI_add, nI_1, nI_clamp, nI_leI, nI_ltI, nI_eq, pk_sub, q_ix, nI_l, lN_add, lN_mul, r_m1n, r_m1n', r_m1lt, r_m1nlt, r_m1le, r_m1nle, Nat.not_lt_zero, Nat.reduceEqDiff, Nat.reduceLT, Nat.reduceLeDiff, true_and, and_true, true_implies, false_implies, not_true_eq_false, not_false_eq_true, implies_true, and_self, ne_eq, decide_true, decide_false, Bool.not_true, Bool.not_false, if_true, if_false, reduceIte, xb_0, xb_1, xb_2, xb_3, xb_4, xb_5, xb_6, xb_7, xb_8, xb_9, xb_10, xb_11, xb_12, xb_13, xb_14, xb_15, xb_16, xb_17, xb_18, xb_19, xb_20, xb_21, xo_0, xo_1, xo_2, xo_3, xo_4, xo_5, xo_6, xo_7, xo_8, xo_9]
    show lN (0 + a_kb bk ans n t 0 + a_kb bk ans n t 1) = _
    rw [Nat.zero_add]
    rfl
def a_ns (f : Nat → Nat) (j : Nat) : Int32 × Int64 := match j with
  | 0 => (m1, lN 0)
  | j + 1 => (nI (a_bst f j), lN (f (a_bst f j)))
def a_next (bk ans : Nat → Nat) (n : Nat) : Int32 := if n = 12 then m1 else (a_ns (a_kn bk ans n) (bk 0)).1
theorem a_ns_1 (f : Nat → Nat) (j : Nat) : a_ns f (j + 1) = (nI (a_bst f j), lN (f (a_bst f j))) := rfl
theorem a_ns_t {f : Nat → Nat} {j : Nat} (h : f (a_bst f j) < f (j + 1)) : a_ns f (j + 1 + 1) = (nI (j + 1), lN (f (j + 1))) := by rw [a_ns_1, a_bst, if_pos h]
theorem a_ns_f {f : Nat → Nat} {j : Nat} (h : ¬ f (a_bst f j) < f (j + 1)) : a_ns f (j + 1 + 1) = (nI (a_bst f j), lN (f (a_bst f j))) := by rw [a_ns_1, a_bst, if_neg h]
theorem x_opNext {h : z_T} {bo n : Nat} {bk ans : Nat → Nat} (W : xNow h bo bk ans n) (b : BOK bk) (hO : NOK bk ans n) : fX11_next 0 h = some (a_next bk ans n) := by
  obtain ⟨s, N, -⟩ := W
  have h8 := b.1
  have hn := hO.1
  have hk : ∀ t, t < 8 → a_kn bk ans n t ≤ 2 * (39540135107340 * 9) := fun t ht => by
    have h1 := a_kb_le (st := 0) b hO ht
    have h2 := a_kb_le (st := 1) b hO ht
    unfold a_kn
    omega
  refine p_of ?_
  unfold fX11_next a_next
  simp (disch := first | assumption | omega) only [p_some, p_gd, p_br, p_bi, p_nm, p_mp, p_Sl, p_Sr, p_bis, p_gdt, q_IL, q_IR, q_LI, q_LR, q_RI, q_RL, q_KI, q_KL, q_KR, q_NI, q_NL, q_NR, q_nI, q_nL, q_nR, q_okI, q_okL, q_okR, q_Ie, q_In, q_Le, q_Ln, SM_I, SM_L, s_c0, s_cg0, s_cl0, s_cge, s_cle, r_le, r_lt, r_eq, r_md, r_2, r_3, r_lit, r_litL, r_m1, nI_add, nI_1, nI_clamp, nI_leI, nI_ltI, nI_eq, pk_sub, q_ix, nI_l, lN_add, lN_mul, r_m1n, r_m1n', r_m1lt, r_m1nlt, r_m1le, r_m1nle, Nat.not_lt_zero, Nat.reduceEqDiff, Nat.reduceLT, Nat.reduceLeDiff, true_and, and_true, true_implies, false_implies, not_true_eq_false, not_false_eq_true, implies_true, and_self, ne_eq, decide_true, decide_false, Bool.not_true, Bool.not_false, if_true, if_false, reduceIte, xb_0, xb_1, xb_2, xb_3, xb_4, xb_5, xb_6, xb_7, xb_8, xb_9, xb_10, xb_11, xb_12, xb_13, xb_14, xb_15, xb_16, xb_17, xb_18, xb_19, xb_20, xb_21, xo_0, xo_1, xo_2, xo_3, xo_4, xo_5, xo_6, xo_7, xo_8, xo_9, xk0 s, xr0_3 s, xk14 s, xr14_0 s, xo_0 N.1, x_isFull N, bI_0]
  refine ⟨fun c => ?_, fun c => by rw [if_pos (by omega)]⟩
  rw [if_neg (by omega)]
  unfold fX11_next_b24
  refine p_for (bk 0) (fun j w => w = ((a_ns (a_kn bk ans n) j).1, (a_ns (a_kn bk ans n) j).2, nI j)) ?_ ?_ 0 (by omega) rfl
  · rintro j w hj rfl
    have l0 := hk j (by omega)
    cases j with
    | zero =>
      unfold fX11_next_b24_i fX11_next_b56 fX11_next_b62
      rw [show (a_ns (a_kn bk ans n) 0).1 = m1 from rfl]
      simp (disch := first | assumption | omega) only [p_some, p_gd, p_br, p_bi, p_nm, p_mp, p_Sl, p_Sr, p_bis, p_gdt, q_IL, q_IR, q_LI, q_LR, q_RI, q_RL, q_KI, q_KL, q_KR, q_NI, q_NL, q_NR, q_nI, q_nL, q_nR, q_okI, q_okL, q_okR, q_Ie, q_In, q_Le, q_Ln, SM_I, SM_L, s_c0, s_cg0, s_cl0, s_cge, s_cle, r_le, r_lt, r_eq, r_md, r_2, r_3, r_lit, r_litL, r_m1, nI_add, nI_1, nI_clamp, nI_leI, nI_ltI, nI_eq, pk_sub, q_ix, nI_l, lN_add, lN_mul, r_m1n, r_m1n', r_m1lt, r_m1nlt, r_m1le, r_m1nle, Nat.not_lt_zero, Nat.reduceEqDiff, Nat.reduceLT, Nat.reduceLeDiff, true_and, and_true, true_implies, false_implies, not_true_eq_false, not_false_eq_true, implies_true, and_self, ne_eq, decide_true, decide_false, Bool.not_true, Bool.not_false, if_true, if_false, reduceIte, xb_0, xb_1, xb_2, xb_3, xb_4, xb_5, xb_6, xb_7, xb_8, xb_9, xb_10, xb_11, xb_12, xb_13, xb_14, xb_15, xb_16, xb_17, xb_18, xb_19, xb_20, xb_21, xo_0, xo_1, xo_2, xo_3, xo_4, xo_5, xo_6, xo_7, xo_8, xo_9, xo_0 N.1, N.2.1, xb_0 N.2.2.1.1, N.2.2.1.2.1, x_knownBehind b N hO, show ¬ bk 0 ≤ 0 by omega]
      rfl
    | succ j =>
      have hle := a_bst_le (a_kn bk ans n) j
      have l1 := hk (a_bst (a_kn bk ans n) j) (by omega)
      unfold fX11_next_b24_i fX11_next_b56 fX11_next_b62
      rw [a_ns_1]
      simp (disch := first | assumption | omega) only [p_some, p_gd, p_br, p_bi, p_nm, p_mp, p_Sl, p_Sr, p_bis, p_gdt, q_IL, q_IR, q_LI, q_LR, q_RI, q_RL, q_KI, q_KL, q_KR, q_NI, q_NL, q_NR, q_nI, q_nL, q_nR, q_okI, q_okL, q_okR, q_Ie, q_In, q_Le, q_Ln, SM_I, SM_L, s_c0, s_cg0, s_cl0, s_cge, s_cle, r_le, r_lt, r_eq, r_md, r_2, r_3, r_lit, r_litL, r_m1, nI_add, nI_1, nI_clamp, nI_leI, nI_ltI, nI_eq, pk_sub, q_ix, nI_l, lN_add, lN_mul, r_m1n, r_m1n', r_m1lt, r_m1nlt, r_m1le, r_m1nle, Nat.not_lt_zero, Nat.reduceEqDiff, Nat.reduceLT, Nat.reduceLeDiff, true_and, and_true, true_implies, false_implies, not_true_eq_false, not_false_eq_true, implies_true, and_self, ne_eq, decide_true, decide_false, Bool.not_true, Bool.not_false, if_true, if_false, reduceIte, xb_0, xb_1, xb_2, xb_3, xb_4, xb_5, xb_6, xb_7, xb_8, xb_9, xb_10, xb_11, xb_12, xb_13, xb_14, xb_15, xb_16, xb_17, xb_18, xb_19, xb_20, xb_21, xo_0, xo_1, xo_2, xo_3, xo_4, xo_5, xo_6, xo_7, xo_8, xo_9, xo_0 N.1, N.2.1, xb_0 N.2.2.1.1, N.2.2.1.2.1, x_knownBehind b N hO, show ¬ bk 0 ≤ j + 1 by omega]
      refine ⟨fun c => ?_, fun c => ?_⟩
      · rw [a_ns_f (by omega)]
      · rw [a_ns_t (by omega)]
  · rintro w rfl
    unfold fX11_next_b24_i
    simp (disch := first | assumption | omega) only [p_some, p_gd, p_br, p_bi, p_nm, p_mp, p_Sl, p_Sr, p_bis, p_gdt, q_IL, q_IR, q_LI, q_LR, q_RI, q_RL, q_KI, q_KL, q_KR, q_NI, q_NL, q_NR, q_nI, q_nL, q_nR, q_okI, q_okL, q_okR, q_Ie, q_In, q_Le, q_Ln, SM_I, SM_L, s_c0, s_cg0, s_cl0, s_cge, s_cle, r_le, r_lt, r_eq, r_md, r_2, r_3, r_lit, r_litL, r_m1, nI_add, nI_1, nI_clamp, nI_leI, nI_ltI, nI_eq, pk_sub, q_ix, nI_l, lN_add, lN_mul, r_m1n, r_m1n', r_m1lt, r_m1nlt, r_m1le, r_m1nle, Nat.not_lt_zero, Nat.reduceEqDiff, Nat.reduceLT, Nat.reduceLeDiff, true_and, and_true, true_implies, false_implies, not_true_eq_false, not_false_eq_true, implies_true, and_self, ne_eq, decide_true, decide_false, Bool.not_true, Bool.not_false, if_true, if_false, reduceIte, xb_0, xb_1, xb_2, xb_3, xb_4, xb_5, xb_6, xb_7, xb_8, xb_9, xb_10, xb_11, xb_12, xb_13, xb_14, xb_15, xb_16, xb_17, xb_18, xb_19, xb_20, xb_21, xo_0, xo_1, xo_2, xo_3, xo_4, xo_5, xo_6, xo_7, xo_8, xo_9, xo_0 N.1, N.2.1, xb_0 N.2.2.1.1, N.2.2.1.2.1, Nat.le_refl]
theorem m_nextStep {h : z_T} {bk ans : Nat → Nat} {n t st j D G L O : Nat} {x1 : Int32} {l2 l5 : Int64} {Q : (Int64 × Int64 × Int32) ⊕ ((Int64 × Int32) ⊕ ((Int32 × Int64 × Int32) ⊕ (Int32 × z_T))) → Prop} (s : SM h) (b : BOK bk) (hN : mNi h bk n ans) (hn : n ≤ 12) (ht : t < 8) (hst : st < 2) (hj : j ≤ bk 1)
    (hod : fX12_oddsOf 0 (nI j) (nI t) (nI n) h = some (nI O)) (e1 : z_L h 7 j = lN L) (hO : O ≤ 9) (hG : j = 0 → G = 0)
    (k : ∀ V, V = L * (if st = 1 then O else 9 - O) → Q (.inl (if j = 0 then lN D else lN (D + V), if j = 0 then lN V else lN G, nI (j + 1)))) :
    p_W (fX12_next_b70_i 0 x1 l2 (nI t) l5 (nI st) h (lN D) (lN G) (nI j)) Q := by
  have h6 := b.2.1
  unfold fX12_next_b70_i fX12_next_b119
  by_cases c1 : st = 1
  · have kk := k _ rfl
    rw [if_pos c1] at kk
    clear k
    generalize hV : L * O = V at kk
    simp (disch := first | assumption | omega) only [p_some, p_gd, p_br, p_bi, p_nm, p_mp, p_Sl, p_Sr, p_bis, p_gdt, q_IL, q_IR, q_LI, q_LR, q_RI, q_RL, q_KI, q_KL, q_KR, q_NI, q_NL, q_NR, q_nI, q_nL, q_nR, q_okI, q_okL, q_okR, q_Ie, q_In, q_Le, q_Ln, SM_I, SM_L, s_c0, s_cg0, s_cl0, s_cge, s_cle, r_le, r_lt, r_eq, r_md, r_2, r_3, r_lit, r_litL, r_m1, nI_add, nI_1, nI_clamp, nI_leI, nI_ltI, nI_eq, pk_sub, q_ix, nI_l, lN_add, lN_mul, r_m1n, r_m1n', r_m1lt, r_m1nlt, r_m1le, r_m1nle, Nat.not_lt_zero, Nat.reduceEqDiff, Nat.reduceLT, Nat.reduceLeDiff, true_and, and_true, true_implies, false_implies, not_true_eq_false, not_false_eq_true, implies_true, and_self, ne_eq, decide_true, decide_false, Bool.not_true, Bool.not_false, if_true, if_false, reduceIte, mk0, mk1, mk2, mk3, mk4, mk5, mk6, mk7, mk8, mk9, mk10, mk11, mk12, mk13, mk14, mk15, mk16, mk17, mk18, mk19, mk20, mk21, mk22, mn1, mn2, mn3, mn4, mn5, mn6, mn7, mn8, mn9, mn10, mn11, mn12, mn13, mn14, mn15, mn16, mn17, mn18, mn19, mn20, mn21, mn22, mr1, mr6, mr7, mr8, mr9, mr10, mr21, mr22, mr23, mr25, mr26, mr29, mr30, mr32, mr33, mr34, mr43, mr47, mr53, mr54, mr55, mr56, m_places s hN.1, hN.2.1, hod, e1, c1, hV, show ¬ bk 1 + 1 ≤ j by omega]
    unfold fX12_next_b136 fX12_next_b152
    refine ⟨fun c => ?_, fun c => ?_⟩
    · rw [if_pos c, if_pos c] at kk
      subst c
      simp (disch := first | assumption | omega) only [p_some, p_gd, p_br, p_bi, p_nm, p_mp, p_Sl, p_Sr, p_bis, p_gdt, Nat.not_lt_zero, Nat.reduceEqDiff, Nat.reduceLT, Nat.reduceLeDiff, true_and, and_true, true_implies, false_implies, not_true_eq_false, not_false_eq_true, implies_true, and_self, ne_eq, decide_true, decide_false, Bool.not_true, Bool.not_false, if_true, if_false, reduceIte, r_lit, r_litL, nI_leI, Nat.le_refl, nI_add, nI_1, lN_add]
      rw [hG rfl, Nat.add_zero, Nat.zero_add]
      exact kk
    · rw [if_neg c, if_neg c] at kk
      simp (disch := first | assumption | omega) only [p_some, p_gd, p_br, p_bi, p_nm, p_mp, p_Sl, p_Sr, p_bis, p_gdt, Nat.not_lt_zero, Nat.reduceEqDiff, Nat.reduceLT, Nat.reduceLeDiff, true_and, and_true, true_implies, false_implies, not_true_eq_false, not_false_eq_true, implies_true, and_self, ne_eq, decide_true, decide_false, Bool.not_true, Bool.not_false, if_true, if_false, reduceIte, r_lit, r_litL, nI_leI, show ¬ j ≤ 0 by omega, nI_add, nI_1, lN_add]
      rw [Nat.add_zero]
      exact kk
  · have kk := k _ rfl
    rw [if_neg c1] at kk
    clear k
    generalize hV : L * (9 - O) = V at kk
    simp (disch := first | assumption | omega) only [p_some, p_gd, p_br, p_bi, p_nm, p_mp, p_Sl, p_Sr, p_bis, p_gdt, q_IL, q_IR, q_LI, q_LR, q_RI, q_RL, q_KI, q_KL, q_KR, q_NI, q_NL, q_NR, q_nI, q_nL, q_nR, q_okI, q_okL, q_okR, q_Ie, q_In, q_Le, q_Ln, SM_I, SM_L, s_c0, s_cg0, s_cl0, s_cge, s_cle, r_le, r_lt, r_eq, r_md, r_2, r_3, r_lit, r_litL, r_m1, nI_add, nI_1, nI_clamp, nI_leI, nI_ltI, nI_eq, pk_sub, q_ix, nI_l, lN_add, lN_mul, r_m1n, r_m1n', r_m1lt, r_m1nlt, r_m1le, r_m1nle, Nat.not_lt_zero, Nat.reduceEqDiff, Nat.reduceLT, Nat.reduceLeDiff, true_and, and_true, true_implies, false_implies, not_true_eq_false, not_false_eq_true, implies_true, and_self, ne_eq, decide_true, decide_false, Bool.not_true, Bool.not_false, if_true, if_false, reduceIte, mk0, mk1, mk2, mk3, mk4, mk5, mk6, mk7, mk8, mk9, mk10, mk11, mk12, mk13, mk14, mk15, mk16, mk17, mk18, mk19, mk20, mk21, mk22, mn1, mn2, mn3, mn4, mn5, mn6, mn7, mn8, mn9, mn10, mn11, mn12, mn13, mn14, mn15, mn16, mn17, mn18, mn19, mn20, mn21, mn22, mr1, mr6, mr7, mr8, mr9, mr10, mr21, mr22, mr23, mr25, mr26, mr29, mr30, mr32, mr33, mr34, mr43, mr47, mr53, mr54, mr55, mr56, m_places s hN.1, hN.2.1, hod, e1, c1, hV, show ¬ bk 1 + 1 ≤ j by omega]
    unfold fX12_next_b136 fX12_next_b152
    refine ⟨fun c => ?_, fun c => ?_⟩
    · rw [if_pos c, if_pos c] at kk
      subst c
      simp (disch := first | assumption | omega) only [p_some, p_gd, p_br, p_bi, p_nm, p_mp, p_Sl, p_Sr, p_bis, p_gdt, Nat.not_lt_zero, Nat.reduceEqDiff, Nat.reduceLT, Nat.reduceLeDiff, true_and, and_true, true_implies, false_implies, not_true_eq_false, not_false_eq_true, implies_true, and_self, ne_eq, decide_true, decide_false, Bool.not_true, Bool.not_false, if_true, if_false, reduceIte, r_lit, r_litL, nI_leI, Nat.le_refl, nI_add, nI_1, lN_add]
      rw [hG rfl, Nat.add_zero, Nat.zero_add]
      exact kk
    · rw [if_neg c, if_neg c] at kk
      simp (disch := first | assumption | omega) only [p_some, p_gd, p_br, p_bi, p_nm, p_mp, p_Sl, p_Sr, p_bis, p_gdt, Nat.not_lt_zero, Nat.reduceEqDiff, Nat.reduceLT, Nat.reduceLeDiff, true_and, and_true, true_implies, false_implies, not_true_eq_false, not_false_eq_true, implies_true, and_self, ne_eq, decide_true, decide_false, Bool.not_true, Bool.not_false, if_true, if_false, reduceIte, r_lit, r_litL, nI_leI, show ¬ j ≤ 0 by omega, nI_add, nI_1, lN_add]
      rw [Nat.add_zero]
      exact kk
theorem m_nextIn {h : z_T} {bk ans : Nat → Nat} {n t st : Nat} {x1 : Int32} {l2 l5 : Int64} {Q : (Int64 × Int32) ⊕ ((Int32 × Int64 × Int32) ⊕ (Int32 × z_T)) → Prop} (s : SM h) (b : BOK bk) (hN : mNi h bk n ans) (hO : NOK bk ans n) (hj : ∀ q, q ≤ bk 1 → z_L h 7 q = lN (a_lk bk ans q n)) (ht : t < bk 0) (hst : st < 2)
    (k : Q (.inl (l5 + lN (a_kb bk ans n t st), nI (st + 1)))) : p_W (fX12_next_b70 0 x1 l2 (nI t) l5 (nI st) (lN 0) (lN 0) (nI 0) h) Q := by
  have h8 := b.1
  have h6 := b.2.1
  have hn := hO.1
  have ha := hO.2.1
  obtain ⟨b1, b2, b3, b4⟩ := a_up_b b hO.1 hO.2.1
  have ed : a_dm bk ans n t st (bk 1) = a_dm bk ans n t st 6 := (sumN_ext (by omega) (fun i h1 h2 => by unfold a_g; rw [b.lk0 (by omega) (by omega), Nat.zero_mul])).symm
  unfold fX12_next_b70
  refine p_for (bk 1 + 1) (fun j w => w = (lN (a_dm bk ans n t st (j - 1)), lN (if j = 0 then 0 else a_g bk ans n t st 0), nI j)) ?_ ?_ 0 (by omega) (by rw [if_pos rfl]; rfl)
  · rintro j w hj2 rfl
    have hf := b.od (ans := ans) (n := n) (q := j) (t := t) (by omega)
    have hod := m_oddsOf (q := j) (t := t) s b hN.1 hN.2.2 (fun i hi => by have := ha i hi; omega) (by omega) (by omega) (by omega)
    refine m_nextStep s b hN (by omega) (by omega) hst (by omega) hod (hj j (by omega)) hf (fun c => if_pos c) (fun V hV => ?_)
    have e3 : a_g bk ans n t st j = V := hV.symm
    show _ = _
    by_cases c0 : j = 0
    · subst c0
      rw [if_pos rfl, if_pos rfl, if_neg (show ¬ 0 + 1 = 0 by omega), e3]
    · rw [if_neg c0, if_neg c0, if_neg (show ¬ j + 1 = 0 by omega), if_neg c0, show j + 1 - 1 = (j - 1) + 1 by omega]
      have eg : a_dm bk ans n t st (j - 1 + 1) = a_dm bk ans n t st (j - 1) + a_g bk ans n t st j := by
        unfold a_dm
        rw [sumN, show j - 1 + 1 = j by omega]
      rw [eg, e3]
  · rintro w rfl
    have hd := a_dm_le (ans := ans) (n := n) (st := st) b (show t < 8 by omega) (Nat.le_refl 6)
    unfold a_kb at k
    unfold fX12_next_b70_i fX12_next_b178
    rw [if_neg (show ¬ bk 1 + 1 = 0 by omega), Nat.add_sub_cancel, ed]
    simp (disch := first | assumption | omega) only [p_some, p_gd, p_br, p_bi, p_nm, p_mp, p_Sl, p_Sr, p_bis, p_gdt, q_IL, q_IR, q_LI, q_LR, q_RI, q_RL, q_KI, q_KL, q_KR, q_NI, q_NL, q_NR, q_nI, q_nL, q_nR, q_okI, q_okL, q_okR, q_Ie, q_In, q_Le, q_Ln, SM_I, SM_L, s_c0, s_cg0, s_cl0, s_cge, s_cle, r_le, r_lt, r_eq, r_md, r_2, r_3, r_lit, r_litL, r_m1, nI_add, nI_1, nI_clamp, nI_leI, nI_ltI, nI_eq, pk_sub, q_ix, nI_l, lN_add, lN_mul, r_m1n, r_m1n', r_m1lt, r_m1nlt, r_m1le, r_m1nle, Nat.not_lt_zero, Nat.reduceEqDiff, Nat.reduceLT, Nat.reduceLeDiff, true_and, and_true, true_implies, false_implies, not_true_eq_false, not_false_eq_true, implies_true, and_self, ne_eq, decide_true, decide_false, Bool.not_true, Bool.not_false, if_true, if_false, reduceIte, mk0, mk1, mk2, mk3, mk4, mk5, mk6, mk7, mk8, mk9, mk10, mk11, mk12, mk13, mk14, mk15, mk16, mk17, mk18, mk19, mk20, mk21, mk22, mn1, mn2, mn3, mn4, mn5, mn6, mn7, mn8, mn9, mn10, mn11, mn12, mn13, mn14, mn15, mn16, mn17, mn18, mn19, mn20, mn21, mn22, mr1, mr6, mr7, mr8, mr9, mr10, mr21, mr22, mr23, mr25, mr26, mr29, mr30, mr32, mr33, mr34, mr43, mr47, mr53, mr54, mr55, mr56, m_places s hN.1, Nat.le_refl]
    refine ⟨fun c => ?_, fun c => ?_⟩
    · rw [if_pos c] at k; exact k
    · rw [if_neg c] at k; exact k
theorem m_next {h : z_T} {bk ans : Nat → Nat} {n : Nat} {Q : Int32 × z_T → Prop} (s : SM h) (b : BOK bk) (hN : mNi h bk n ans) (hO : NOK bk ans n) (k : ∀ h', m_fr mKp h h' → Q (a_next bk ans n, h')) : p_W (fX12_next 0 h) Q := by
  have h8 := b.1
  have hn := hO.1
  have s0 : SM (z_sI h 0 0 (nI 0)) := s
  have hk : ∀ t, t < 8 → a_kn bk ans n t ≤ 2 * (39540135107340 * 9) := fun t ht => by
    have h1 := a_kb_le (st := 0) b hO ht
    have h2 := a_kb_le (st := 1) b hO ht
    unfold a_kn
    omega
  unfold a_next at k
  unfold fX12_next
  simp (disch := first | assumption | omega) only [p_some, p_gd, p_br, p_bi, p_nm, p_mp, p_Sl, p_Sr, p_bis, p_gdt, q_IL, q_IR, q_LI, q_LR, q_RI, q_RL, q_KI, q_KL, q_KR, q_NI, q_NL, q_NR, q_nI, q_nL, q_nR, q_okI, q_okL, q_okR, q_Ie, q_In, q_Le, q_Ln, SM_I, SM_L, s_c0, s_cg0, s_cl0, s_cge, s_cle, r_le, r_lt, r_eq, r_md, r_2, r_3, r_lit, r_litL, r_m1, nI_add, nI_1, nI_clamp, nI_leI, nI_ltI, nI_eq, pk_sub, q_ix, nI_l, lN_add, lN_mul, r_m1n, r_m1n', r_m1lt, r_m1nlt, r_m1le, r_m1nle, Nat.not_lt_zero, Nat.reduceEqDiff, Nat.reduceLT, Nat.reduceLeDiff, true_and, and_true, true_implies, false_implies, not_true_eq_false, not_false_eq_true, implies_true, and_self, ne_eq, decide_true, decide_false, Bool.not_true, Bool.not_false, if_true, if_false, reduceIte, mk0, mk1, mk2, mk3, mk4, mk5, mk6, mk7, mk8, mk9, mk10, mk11, mk12, mk13, mk14, mk15, mk16, mk17, mk18, mk19, mk20, mk21, mk22, mn1, mn2, mn3, mn4, mn5, mn6, mn7, mn8, mn9, mn10, mn11, mn12, mn13, mn14, mn15, mn16, mn17, mn18, mn19, mn20, mn21, mn22, mr1, mr6, mr7, mr8, mr9, mr10, mr21, mr22, mr23, mr25, mr26, mr29, mr30, mr32, mr33, mr34, mr43, mr47, mr53, mr54, mr55, mr56, hN.2.1]
  refine ⟨fun c => ?_, fun c => ?_⟩
  · rw [if_pos c] at k
    exact k _ m_fr.t0
  rw [if_neg c] at k
  refine m_likesQ s0 b hN.t0.1 hN.t0.2.2 hO.2.1 (by omega) (fun h1 f hj => ?_)
  have s1 := f.s s0
  have N1 := (hN.t0 (v := nI 0)).fr f (fun k => by decide)
  unfold fX12_next_b38
  refine p_for (bk 0) (fun j w => w = ((a_ns (a_kn bk ans n) j).1, (a_ns (a_kn bk ans n) j).2, nI j)) ?_ ?_ 0 (by omega) rfl
  · rintro j w hj2 rfl
    have l0 := hk j (by omega)
    unfold fX12_next_b38_i
    simp (disch := first | assumption | omega) only [p_some, p_gd, p_br, p_bi, p_nm, p_mp, p_Sl, p_Sr, p_bis, p_gdt, q_IL, q_IR, q_LI, q_LR, q_RI, q_RL, q_KI, q_KL, q_KR, q_NI, q_NL, q_NR, q_nI, q_nL, q_nR, q_okI, q_okL, q_okR, q_Ie, q_In, q_Le, q_Ln, SM_I, SM_L, s_c0, s_cg0, s_cl0, s_cge, s_cle, r_le, r_lt, r_eq, r_md, r_2, r_3, r_lit, r_litL, r_m1, nI_add, nI_1, nI_clamp, nI_leI, nI_ltI, nI_eq, pk_sub, q_ix, nI_l, lN_add, lN_mul, r_m1n, r_m1n', r_m1lt, r_m1nlt, r_m1le, r_m1nle, Nat.not_lt_zero, Nat.reduceEqDiff, Nat.reduceLT, Nat.reduceLeDiff, true_and, and_true, true_implies, false_implies, not_true_eq_false, not_false_eq_true, implies_true, and_self, ne_eq, decide_true, decide_false, Bool.not_true, Bool.not_false, if_true, if_false, reduceIte, mk0, mk1, mk2, mk3, mk4, mk5, mk6, mk7, mk8, mk9, mk10, mk11, mk12, mk13, mk14, mk15, mk16, mk17, mk18, mk19, mk20, mk21, mk22, mn1, mn2, mn3, mn4, mn5, mn6, mn7, mn8, mn9, mn10, mn11, mn12, mn13, mn14, mn15, mn16, mn17, mn18, mn19, mn20, mn21, mn22, mr1, mr6, mr7, mr8, mr9, mr10, mr21, mr22, mr23, mr25, mr26, mr29, mr30, mr32, mr33, mr34, mr43, mr47, mr53, mr54, mr55, mr56, N1.1 0 (by decide), show ¬ bk 0 ≤ j by omega]
    unfold fX12_next_b55
    refine p_for 2 (fun st w => w = (lN (sumN (a_kb bk ans n j) st), nI st)) ?_ ?_ 0 (by omega) rfl
    · rintro st w hst rfl
      unfold fX12_next_b55_i
      simp (disch := first | assumption | omega) only [p_some, p_gd, p_br, p_bi, p_nm, p_mp, p_Sl, p_Sr, p_bis, p_gdt, q_IL, q_IR, q_LI, q_LR, q_RI, q_RL, q_KI, q_KL, q_KR, q_NI, q_NL, q_NR, q_nI, q_nL, q_nR, q_okI, q_okL, q_okR, q_Ie, q_In, q_Le, q_Ln, SM_I, SM_L, s_c0, s_cg0, s_cl0, s_cge, s_cle, r_le, r_lt, r_eq, r_md, r_2, r_3, r_lit, r_litL, r_m1, nI_add, nI_1, nI_clamp, nI_leI, nI_ltI, nI_eq, pk_sub, q_ix, nI_l, lN_add, lN_mul, r_m1n, r_m1n', r_m1lt, r_m1nlt, r_m1le, r_m1nle, Nat.not_lt_zero, Nat.reduceEqDiff, Nat.reduceLT, Nat.reduceLeDiff, true_and, and_true, true_implies, false_implies, not_true_eq_false, not_false_eq_true, implies_true, and_self, ne_eq, decide_true, decide_false, Bool.not_true, Bool.not_false, if_true, if_false, reduceIte, mk0, mk1, mk2, mk3, mk4, mk5, mk6, mk7, mk8, mk9, mk10, mk11, mk12, mk13, mk14, mk15, mk16, mk17, mk18, mk19, mk20, mk21, mk22, mn1, mn2, mn3, mn4, mn5, mn6, mn7, mn8, mn9, mn10, mn11, mn12, mn13, mn14, mn15, mn16, mn17, mn18, mn19, mn20, mn21, mn22, mr1, mr6, mr7, mr8, mr9, mr10, mr21, mr22, mr23, mr25, mr26, mr29, mr30, mr32, mr33, mr34, mr43, mr47, mr53, mr54, mr55, mr56, show ¬ 2 ≤ st by omega]
      refine m_nextIn s1 b N1 hO hj hj2 hst ?_
      rw [p_Sl, lN_add, sumN]
    · rintro w rfl
      have e2 : sumN (a_kb bk ans n j) 2 = a_kn bk ans n j := by
        show 0 + a_kb bk ans n j 0 + a_kb bk ans n j 1 = _
        rw [Nat.zero_add]
        rfl
      unfold fX12_next_b55_i fX12_next_b201 fX12_next_b207
      rw [e2]
      cases j with
      | zero =>
        rw [show (a_ns (a_kn bk ans n) 0).1 = m1 from rfl]
        simp (disch := first | assumption | omega) only [p_some, p_gd, p_br, p_bi, p_nm, p_mp, p_Sl, p_Sr, p_bis, p_gdt, q_IL, q_IR, q_LI, q_LR, q_RI, q_RL, q_KI, q_KL, q_KR, q_NI, q_NL, q_NR, q_nI, q_nL, q_nR, q_okI, q_okL, q_okR, q_Ie, q_In, q_Le, q_Ln, SM_I, SM_L, s_c0, s_cg0, s_cl0, s_cge, s_cle, r_le, r_lt, r_eq, r_md, r_2, r_3, r_lit, r_litL, r_m1, nI_add, nI_1, nI_clamp, nI_leI, nI_ltI, nI_eq, pk_sub, q_ix, nI_l, lN_add, lN_mul, r_m1n, r_m1n', r_m1lt, r_m1nlt, r_m1le, r_m1nle, Nat.not_lt_zero, Nat.reduceEqDiff, Nat.reduceLT, Nat.reduceLeDiff, true_and, and_true, true_implies, false_implies, not_true_eq_false, not_false_eq_true, implies_true, and_self, ne_eq, decide_true, decide_false, Bool.not_true, Bool.not_false, if_true, if_false, reduceIte, mk0, mk1, mk2, mk3, mk4, mk5, mk6, mk7, mk8, mk9, mk10, mk11, mk12, mk13, mk14, mk15, mk16, mk17, mk18, mk19, mk20, mk21, mk22, mn1, mn2, mn3, mn4, mn5, mn6, mn7, mn8, mn9, mn10, mn11, mn12, mn13, mn14, mn15, mn16, mn17, mn18, mn19, mn20, mn21, mn22, mr1, mr6, mr7, mr8, mr9, mr10, mr21, mr22, mr23, mr25, mr26, mr29, mr30, mr32, mr33, mr34, mr43, mr47, mr53, mr54, mr55, mr56, Nat.le_refl, show (m1 < nI 0) = True from by decide]
        rfl
      | succ j =>
        have hle := a_bst_le (a_kn bk ans n) j
        have l1 := hk (a_bst (a_kn bk ans n) j) (by omega)
        rw [a_ns_1]
        simp (disch := first | assumption | omega) only [p_some, p_gd, p_br, p_bi, p_nm, p_mp, p_Sl, p_Sr, p_bis, p_gdt, q_IL, q_IR, q_LI, q_LR, q_RI, q_RL, q_KI, q_KL, q_KR, q_NI, q_NL, q_NR, q_nI, q_nL, q_nR, q_okI, q_okL, q_okR, q_Ie, q_In, q_Le, q_Ln, SM_I, SM_L, s_c0, s_cg0, s_cl0, s_cge, s_cle, r_le, r_lt, r_eq, r_md, r_2, r_3, r_lit, r_litL, r_m1, nI_add, nI_1, nI_clamp, nI_leI, nI_ltI, nI_eq, pk_sub, q_ix, nI_l, lN_add, lN_mul, r_m1n, r_m1n', r_m1lt, r_m1nlt, r_m1le, r_m1nle, Nat.not_lt_zero, Nat.reduceEqDiff, Nat.reduceLT, Nat.reduceLeDiff, true_and, and_true, true_implies, false_implies, not_true_eq_false, not_false_eq_true, implies_true, and_self, ne_eq, decide_true, decide_false, Bool.not_true, Bool.not_false, if_true, if_false, reduceIte, mk0, mk1, mk2, mk3, mk4, mk5, mk6, mk7, mk8, mk9, mk10, mk11, mk12, mk13, mk14, mk15, mk16, mk17, mk18, mk19, mk20, mk21, mk22, mn1, mn2, mn3, mn4, mn5, mn6, mn7, mn8, mn9, mn10, mn11, mn12, mn13, mn14, mn15, mn16, mn17, mn18, mn19, mn20, mn21, mn22, mr1, mr6, mr7, mr8, mr9, mr10, mr21, mr22, mr23, mr25, mr26, mr29, mr30, mr32, mr33, mr34, mr43, mr47, mr53, mr54, mr55, mr56, Nat.le_refl]
        refine ⟨fun c => ?_, fun c => ?_⟩
        · rw [a_ns_t c]
        · rw [a_ns_f c]
  · rintro w rfl
    unfold fX12_next_b38_i
    simp (disch := first | assumption | omega) only [p_some, p_gd, p_br, p_bi, p_nm, p_mp, p_Sl, p_Sr, p_bis, p_gdt, q_IL, q_IR, q_LI, q_LR, q_RI, q_RL, q_KI, q_KL, q_KR, q_NI, q_NL, q_NR, q_nI, q_nL, q_nR, q_okI, q_okL, q_okR, q_Ie, q_In, q_Le, q_Ln, SM_I, SM_L, s_c0, s_cg0, s_cl0, s_cge, s_cle, r_le, r_lt, r_eq, r_md, r_2, r_3, r_lit, r_litL, r_m1, nI_add, nI_1, nI_clamp, nI_leI, nI_ltI, nI_eq, pk_sub, q_ix, nI_l, lN_add, lN_mul, r_m1n, r_m1n', r_m1lt, r_m1nlt, r_m1le, r_m1nle, Nat.not_lt_zero, Nat.reduceEqDiff, Nat.reduceLT, Nat.reduceLeDiff, true_and, and_true, true_implies, false_implies, not_true_eq_false, not_false_eq_true, implies_true, and_self, ne_eq, decide_true, decide_false, Bool.not_true, Bool.not_false, if_true, if_false, reduceIte, mk0, mk1, mk2, mk3, mk4, mk5, mk6, mk7, mk8, mk9, mk10, mk11, mk12, mk13, mk14, mk15, mk16, mk17, mk18, mk19, mk20, mk21, mk22, mn1, mn2, mn3, mn4, mn5, mn6, mn7, mn8, mn9, mn10, mn11, mn12, mn13, mn14, mn15, mn16, mn17, mn18, mn19, mn20, mn21, mn22, mr1, mr6, mr7, mr8, mr9, mr10, mr21, mr22, mr23, mr25, mr26, mr29, mr30, mr32, mr33, mr34, mr43, mr47, mr53, mr54, mr55, mr56, N1.1 0 (by decide), Nat.le_refl]
    exact k h1 (m_fr.t0.tr f.k7)
