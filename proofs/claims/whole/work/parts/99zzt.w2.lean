/-! nights as they are judged: a line, the class -/
theorem x_wronglySure {h : z_T} {o bo n p : Nat} {bk ans : Nat → Nat} (b : BOK bk) (N : xNi h o bo bk ans n) (hn : n ≤ 12) (ha : ∀ i, i < n → ans i < 2 * bk 0) (hp : p < 7) : fX2_isWronglySure o (nI p) h = some (bI (a_ws bk ans p n)) := by
  obtain ⟨w1, w2, w3⟩ := a_ws_b (ans := ans) (n := n) b hn ha
  have h4 := b.2.2.2.2.1
  have e2 : fX0_setting bo (nI 2) h = some (nI (bk 4)) := x_setting N.2.2.1 (k := 2) (by decide)
  have e6 : sumN (fun q => a_lk bk ans (q + 1) n) 6 = a_all bk ans n - a_lk bk ans 0 n := by have := a_all_split (ans := ans) b n; omega
  have e7 := x_ofDreams N
  rw [e6] at e7
  have fin : ∀ S, S = (if p = 0 then a_all bk ans n - a_lk bk ans 0 n else a_lk bk ans 0 n) → fX2_isWronglySure_b15 o (lN S) h = some (bI (a_ws bk ans p n)) := fun S eS => by
    have S9 : S ≤ 39540135107340 := by rw [eS]; split <;> omega
    refine p_of ?_
    unfold a_ws
    rw [← eS]
    unfold fX2_isWronglySure_b15
    simp (disch := first | assumption | omega) only [p_some, p_gd, p_br, p_bi, p_nm, p_mp, p_Sl, p_Sr, p_bis, p_gdt, q_IL, q_IR, q_LI, q_LR, q_RI, q_RL, q_KI, q_KL, q_KR, q_NI, q_NL, q_NR, q_nI, q_nL, q_nR, q_okI, q_okL, q_okR, q_Ie, q_In, q_Le, q_Ln, SM_I, SM_L, s_c0, s_cg0, s_cl0, s_cge, s_cle, r_le, r_lt, r_eq, r_md, r_2, r_3, r_lit, r_litL, r_m1, nI_add, nI_1, nI_clamp, nI_leI, nI_ltI, nI_eq, pk_sub, q_ix, nI_l, lN_add, lN_mul, r_m1n, r_m1n', r_m1lt, r_m1nlt, r_m1le, r_m1nle, Nat.not_lt_zero, Nat.reduceEqDiff, Nat.reduceLT, Nat.reduceLeDiff, true_and, and_true, true_implies, false_implies, not_true_eq_false, not_false_eq_true, implies_true, and_self, ne_eq, decide_true, decide_false, Bool.not_true, Bool.not_false, if_true, if_false, reduceIte, xb_0, xb_1, xb_2, xb_3, xb_4, xb_5, xb_6, xb_7, xb_8, xb_9, xb_10, xb_11, xb_12, xb_13, xb_14, xb_15, xb_16, xb_17, xb_18, xb_19, xb_20, xb_21, xo_0, xo_1, xo_2, xo_3, xo_4, xo_5, xo_6, xo_7, xo_8, xo_9, xo_0 N.1, N.2.1, xb_0 N.2.2.1.1, e2, x_ofAll b N]
    exact ⟨fun z => (bI_f (fun q => q (by omega))).symm, fun z => (bI_t (by omega)).symm⟩
  refine p_of ?_
  unfold fX2_isWronglySure
  simp (disch := first | assumption | omega) only [p_some, p_gd, p_br, p_bi, p_nm, p_mp, p_Sl, p_Sr, p_bis, p_gdt, q_IL, q_IR, q_LI, q_LR, q_RI, q_RL, q_KI, q_KL, q_KR, q_NI, q_NL, q_NR, q_nI, q_nL, q_nR, q_okI, q_okL, q_okR, q_Ie, q_In, q_Le, q_Ln, SM_I, SM_L, s_c0, s_cg0, s_cl0, s_cge, s_cle, r_le, r_lt, r_eq, r_md, r_2, r_3, r_lit, r_litL, r_m1, nI_add, nI_1, nI_clamp, nI_leI, nI_ltI, nI_eq, pk_sub, q_ix, nI_l, lN_add, lN_mul, r_m1n, r_m1n', r_m1lt, r_m1nlt, r_m1le, r_m1nle, Nat.not_lt_zero, Nat.reduceEqDiff, Nat.reduceLT, Nat.reduceLeDiff, true_and, and_true, true_implies, false_implies, not_true_eq_false, not_false_eq_true, implies_true, and_self, ne_eq, decide_true, decide_false, Bool.not_true, Bool.not_false, if_true, if_false, reduceIte, xb_0, xb_1, xb_2, xb_3, xb_4, xb_5, xb_6, xb_7, xb_8, xb_9, xb_10, xb_11, xb_12, xb_13, xb_14, xb_15, xb_16, xb_17, xb_18, xb_19, xb_20, xb_21, xo_0, xo_1, xo_2, xo_3, xo_4, xo_5, xo_6, xo_7, xo_8, xo_9, xo_0 N.1, e7, x_ofRoom N]
  refine ⟨fun z => ?_, fun z => ?_⟩
  · rw [fin _ (by rw [if_pos z])]
    exact p_some.mpr rfl
  · rw [fin _ (by rw [if_neg z])]
    exact p_some.mpr rfl
def xJs (h : z_T) (bo : Nat) (bk : Nat → Nat) (s : a_JS) : Prop := xNi h 64 bo bk s.2.2.1 s.2.1 ∧ z_I h 79 4 = nI s.1 ∧ z_I h 79 6 = nI s.2.2.2.1 ∧ z_I h 79 7 = nI s.2.2.2.2
def xJf (o k : Nat) : Prop := nC 64 o k ∧ (o ≠ 64 ∨ k ≠ 0) ∧ (o ≠ 79 ∨ (k ≠ 4 ∧ k ≠ 6 ∧ k ≠ 7))
theorem x_judgeLine {h : z_T} {bk : Nat → Nat} {st : a_JS} {bo c v m : Nat} {Q : Int32 × z_T → Prop} (s : SX h) (b : BOK bk) (hbo : bo = 1 ∨ 83 ≤ bo) (N : xNi h 64 bo bk st.2.2.1 st.2.1) (j1 : z_I h 79 6 = nI st.2.2.2.1) (j2 : z_I h 79 7 = nI st.2.2.2.2) (g1 : st.2.2.2.1 ≤ m) (g2 : st.2.2.2.2 ≤ m) (J : ¬ c = 0 → z_I h 79 4 = nI st.1 ∧ JOK bk m st) (hm : m ≤ 40) (hc : c ≤ 3) (hv0 : c = 0 → v ≤ bk 1) (hv1 : c = 1 → v < 2 * bk 0 ∧ st.2.1 < 12)
    (k : ∀ h', x_fr xJf h h' → xJs h' bo bk (a_jg bk c v st).2 → Q (nI (a_jg bk c v st).1, h')) : p_W (fX3_judgeLine 79 64 (nI c) (nI v) h) Q := by
  obtain ⟨p, n, ans, bg, aw⟩ := st
  dsimp only at N j1 j2 g1 g2 hv1
  have h8 := b.1
  have h6 := b.2.1
  have h0 := s.1
  have i64 : isN 64 := by unfold isN; omega
  unfold a_jg at k
  dsimp only at k
  unfold fX3_judgeLine
  by_cases c0 : c = 0
  · subst c0
    have hv := hv0 rfl
    rw [if_pos rfl] at k
    simp (disch := first | assumption | omega) only [p_some, p_gd, p_br, p_bi, p_nm, p_mp, p_Sl, p_Sr, p_bis, p_gdt, q_IL, q_IR, q_LI, q_LR, q_RI, q_RL, q_KI, q_KL, q_KR, q_NI, q_NL, q_NR, q_nI, q_nL, q_nR, q_okI, q_okL, q_okR, q_Ie, q_In, q_Le, q_Ln, SM_I, SM_L, s_c0, s_cg0, s_cl0, s_cge, s_cle, r_le, r_lt, r_eq, r_md, r_2, r_3, r_lit, r_litL, r_m1, nI_add, nI_1, nI_clamp, nI_leI, nI_ltI, nI_eq, pk_sub, q_ix, nI_l, lN_add, lN_mul, r_m1n, r_m1n', r_m1lt, r_m1nlt, r_m1le, r_m1nle, Nat.not_lt_zero, Nat.reduceEqDiff, Nat.reduceLT, Nat.reduceLeDiff, true_and, and_true, true_implies, false_implies, not_true_eq_false, not_false_eq_true, implies_true, and_self, ne_eq, decide_true, decide_false, Bool.not_true, Bool.not_false, if_true, if_false, reduceIte, xb_0, xb_1, xb_2, xb_3, xb_4, xb_5, xb_6, xb_7, xb_8, xb_9, xb_10, xb_11, xb_12, xb_13, xb_14, xb_15, xb_16, xb_17, xb_18, xb_19, xb_20, xb_21, xo_0, xo_1, xo_2, xo_3, xo_4, xo_5, xo_6, xo_7, xo_8, xo_9, xo_0 N.1, N.2.1]
    refine x_begin (ans := ans) b N.1 N.2.2.1 i64 hbo (fun h1 f N1 => ?_)
    have s1 := f.s s
    have i1 := (f.I 79 6 (by omega) (by unfold nC; omega)).trans j1
    have i2 := (f.I 79 7 (by omega) (by unfold nC; omega)).trans j2
    have F1 : x_fr xJf h h1 := f.w (fun o k _ c => ⟨c.1, c.2.1⟩)
    simp (disch := first | assumption | omega) only [p_some, p_gd, p_br, p_bi, p_nm, p_mp, p_Sl, p_Sr, p_bis, p_gdt, Nat.not_lt_zero, Nat.reduceEqDiff, Nat.reduceLT, Nat.reduceLeDiff, true_and, and_true, true_implies, false_implies, not_true_eq_false, not_false_eq_true, implies_true, and_self, ne_eq, decide_true, decide_false, Bool.not_true, Bool.not_false, if_true, if_false, reduceIte, xk79 s1]
    have F2 : x_fr xJf h (z_sI h1 79 4 (nI v)) := F1.sI (fun _ => by unfold xJf; omega)
    simp (disch := first | assumption | omega) only [p_some, p_gd, p_br, p_bi, p_nm, p_mp, p_Sl, p_Sr, p_bis, p_gdt, q_IL, q_IR, q_LI, q_LR, q_RI, q_RL, q_KI, q_KL, q_KR, q_NI, q_NL, q_NR, q_nI, q_nL, q_nR, q_okI, q_okL, q_okR, q_Ie, q_In, q_Le, q_Ln, SM_I, SM_L, s_c0, s_cg0, s_cl0, s_cge, s_cle, r_le, r_lt, r_eq, r_md, r_2, r_3, r_lit, r_litL, r_m1, nI_add, nI_1, nI_clamp, nI_leI, nI_ltI, nI_eq, pk_sub, q_ix, nI_l, lN_add, lN_mul, r_m1n, r_m1n', r_m1lt, r_m1nlt, r_m1le, r_m1nle, Nat.not_lt_zero, Nat.reduceEqDiff, Nat.reduceLT, Nat.reduceLeDiff, true_and, and_true, true_implies, false_implies, not_true_eq_false, not_false_eq_true, implies_true, and_self, ne_eq, decide_true, decide_false, Bool.not_true, Bool.not_false, if_true, if_false, reduceIte, i1]
    refine k _ (F2.sI (fun _ => by unfold xJf; omega)) ⟨?_, ?_, ?_, ?_⟩
    · exact N1.fr (C := fun o _ => o ≠ 79) ((x_fr.rf.sI (fun _ => by omega)).sI (fun _ => by omega)) i64 hbo (fun j k hj => by omega) (fun j k hj => by omega)
    · rw [q_In (by omega), q_Ie rfl rfl]
    · rw [q_Ie rfl rfl]
    · rw [q_In (by omega), q_In (by omega)]; exact i2
  · rw [if_neg c0] at k
    obtain ⟨h4, hp, hn, ha, -, -⟩ := J c0
    dsimp only at h4 hp hn ha
    by_cases c1 : c = 1
    · subst c1
      obtain ⟨hv, hn2⟩ := hv1 rfl
      rw [if_pos rfl] at k
      have ho := b.od (ans := ans) (n := n) (q := p) (t := v / 2) (by omega)
      have o9 : a_fa (a_od bk ans n p (v / 2)) (v % 2) ≤ 9 := by unfold a_fa; split <;> omega
      have ha1 : ∀ i, i < n + 1 → a_u ans n v i < 2 * bk 0 := fun i hi => by
        unfold a_u
        split
        · exact hv
        · exact ha i (by omega)
      have ech := x_chanceOf (t := v / 2) (q := p) (st := v % 2) b N hn (by omega) (by omega) (by omega)
      have ev : 2 * (v / 2) + v % 2 = v := by omega
      simp (disch := first | assumption | omega) only [p_some, p_gd, p_br, p_bi, p_nm, p_mp, p_Sl, p_Sr, p_bis, p_gdt, q_IL, q_IR, q_LI, q_LR, q_RI, q_RL, q_KI, q_KL, q_KR, q_NI, q_NL, q_NR, q_nI, q_nL, q_nR, q_okI, q_okL, q_okR, q_Ie, q_In, q_Le, q_Ln, SM_I, SM_L, s_c0, s_cg0, s_cl0, s_cge, s_cle, r_le, r_lt, r_eq, r_md, r_2, r_3, r_lit, r_litL, r_m1, nI_add, nI_1, nI_clamp, nI_leI, nI_ltI, nI_eq, pk_sub, q_ix, nI_l, lN_add, lN_mul, r_m1n, r_m1n', r_m1lt, r_m1nlt, r_m1le, r_m1nle, Nat.not_lt_zero, Nat.reduceEqDiff, Nat.reduceLT, Nat.reduceLeDiff, true_and, and_true, true_implies, false_implies, not_true_eq_false, not_false_eq_true, implies_true, and_self, ne_eq, decide_true, decide_false, Bool.not_true, Bool.not_false, if_true, if_false, reduceIte, xb_0, xb_1, xb_2, xb_3, xb_4, xb_5, xb_6, xb_7, xb_8, xb_9, xb_10, xb_11, xb_12, xb_13, xb_14, xb_15, xb_16, xb_17, xb_18, xb_19, xb_20, xb_21, xo_0, xo_1, xo_2, xo_3, xo_4, xo_5, xo_6, xo_7, xo_8, xo_9, s_10, xk79 s, xo_0 N.1, h4, s_h1, s_a1, ech]
      refine ⟨fun q => ?_, fun q => ?_⟩
      · rw [if_pos q] at k
        exact k h x_fr.rf ⟨N, h4, j1, j2⟩
      · rw [if_neg q] at k
        refine x_add b N hn2 (by omega) (by omega) i64 hbo (fun h1 f _ N1 => ?_)
        rw [ev] at N1
        have s1 := f.s s
        have F1 : x_fr xJf h h1 := f.w (fun o k _ c => c.1)
        have i4 := (f.I 79 4 (by omega) (by unfold nC; omega)).trans h4
        have i1 := (f.I 79 6 (by omega) (by unfold nC; omega)).trans j1
        have i2 := (f.I 79 7 (by omega) (by unfold nC; omega)).trans j2
        have ew := x_wronglySure (p := p) b N1 (by omega) ha1 (by omega)
        simp (disch := first | assumption | omega) only [p_some, p_gd, p_br, p_bi, p_nm, p_mp, p_Sl, p_Sr, p_bis, p_gdt, q_IL, q_IR, q_LI, q_LR, q_RI, q_RL, q_KI, q_KL, q_KR, q_NI, q_NL, q_NR, q_nI, q_nL, q_nR, q_okI, q_okL, q_okR, q_Ie, q_In, q_Le, q_Ln, SM_I, SM_L, s_c0, s_cg0, s_cl0, s_cge, s_cle, r_le, r_lt, r_eq, r_md, r_2, r_3, r_lit, r_litL, r_m1, nI_add, nI_1, nI_clamp, nI_leI, nI_ltI, nI_eq, pk_sub, q_ix, nI_l, lN_add, lN_mul, r_m1n, r_m1n', r_m1lt, r_m1nlt, r_m1le, r_m1nle, Nat.not_lt_zero, Nat.reduceEqDiff, Nat.reduceLT, Nat.reduceLeDiff, true_and, and_true, true_implies, false_implies, not_true_eq_false, not_false_eq_true, implies_true, and_self, ne_eq, decide_true, decide_false, Bool.not_true, Bool.not_false, if_true, if_false, reduceIte, xb_0, xb_1, xb_2, xb_3, xb_4, xb_5, xb_6, xb_7, xb_8, xb_9, xb_10, xb_11, xb_12, xb_13, xb_14, xb_15, xb_16, xb_17, xb_18, xb_19, xb_20, xb_21, xo_0, xo_1, xo_2, xo_3, xo_4, xo_5, xo_6, xo_7, xo_8, xo_9, xk79 s1, xo_0 N1.1, i4, ew]
        by_cases w : a_ws bk (a_u ans n v) p (n + 1)
        · rw [if_pos w] at k
          rw [bI_t w]
          simp (disch := first | assumption | omega) only [p_some, p_gd, p_br, p_bi, p_nm, p_mp, p_Sl, p_Sr, p_bis, p_gdt, q_IL, q_IR, q_LI, q_LR, q_RI, q_RL, q_KI, q_KL, q_KR, q_NI, q_NL, q_NR, q_nI, q_nL, q_nR, q_okI, q_okL, q_okR, q_Ie, q_In, q_Le, q_Ln, SM_I, SM_L, s_c0, s_cg0, s_cl0, s_cge, s_cle, r_le, r_lt, r_eq, r_md, r_2, r_3, r_lit, r_litL, r_m1, nI_add, nI_1, nI_clamp, nI_leI, nI_ltI, nI_eq, pk_sub, q_ix, nI_l, lN_add, lN_mul, r_m1n, r_m1n', r_m1lt, r_m1nlt, r_m1le, r_m1nle, Nat.not_lt_zero, Nat.reduceEqDiff, Nat.reduceLT, Nat.reduceLeDiff, true_and, and_true, true_implies, false_implies, not_true_eq_false, not_false_eq_true, implies_true, and_self, ne_eq, decide_true, decide_false, Bool.not_true, Bool.not_false, if_true, if_false, reduceIte]
          exact k h1 F1 ⟨N1, i4, i1, i2⟩
        · rw [if_neg w] at k
          rw [bI_f w]
          simp (disch := first | assumption | omega) only [p_some, p_gd, p_br, p_bi, p_nm, p_mp, p_Sl, p_Sr, p_bis, p_gdt, q_IL, q_IR, q_LI, q_LR, q_RI, q_RL, q_KI, q_KL, q_KR, q_NI, q_NL, q_NR, q_nI, q_nL, q_nR, q_okI, q_okL, q_okR, q_Ie, q_In, q_Le, q_Ln, SM_I, SM_L, s_c0, s_cg0, s_cl0, s_cge, s_cle, r_le, r_lt, r_eq, r_md, r_2, r_3, r_lit, r_litL, r_m1, nI_add, nI_1, nI_clamp, nI_leI, nI_ltI, nI_eq, pk_sub, q_ix, nI_l, lN_add, lN_mul, r_m1n, r_m1n', r_m1lt, r_m1nlt, r_m1le, r_m1nle, Nat.not_lt_zero, Nat.reduceEqDiff, Nat.reduceLT, Nat.reduceLeDiff, true_and, and_true, true_implies, false_implies, not_true_eq_false, not_false_eq_true, implies_true, and_self, ne_eq, decide_true, decide_false, Bool.not_true, Bool.not_false, if_true, if_false, reduceIte, i2]
          exact k _ (F1.sI (fun _ => by unfold xJf; omega)) ⟨N1.fr (C := fun o _ => o ≠ 79) (x_fr.rf.sI (fun _ => by omega)) i64 hbo (fun j k hj => by omega) (fun j k hj => by omega), (q_In (by omega)).trans i4, (q_In (by omega)).trans i1, q_Ie rfl rfl⟩
    · rw [if_neg c1] at k
      simp (disch := first | assumption | omega) only [p_some, p_gd, p_br, p_bi, p_nm, p_mp, p_Sl, p_Sr, p_bis, p_gdt, q_IL, q_IR, q_LI, q_LR, q_RI, q_RL, q_KI, q_KL, q_KR, q_NI, q_NL, q_NR, q_nI, q_nL, q_nR, q_okI, q_okL, q_okR, q_Ie, q_In, q_Le, q_Ln, SM_I, SM_L, s_c0, s_cg0, s_cl0, s_cge, s_cle, r_le, r_lt, r_eq, r_md, r_2, r_3, r_lit, r_litL, r_m1, nI_add, nI_1, nI_clamp, nI_leI, nI_ltI, nI_eq, pk_sub, q_ix, nI_l, lN_add, lN_mul, r_m1n, r_m1n', r_m1lt, r_m1nlt, r_m1le, r_m1nle, Nat.not_lt_zero, Nat.reduceEqDiff, Nat.reduceLT, Nat.reduceLeDiff, true_and, and_true, true_implies, false_implies, not_true_eq_false, not_false_eq_true, implies_true, and_self, ne_eq, decide_true, decide_false, Bool.not_true, Bool.not_false, if_true, if_false, reduceIte, xb_0, xb_1, xb_2, xb_3, xb_4, xb_5, xb_6, xb_7, xb_8, xb_9, xb_10, xb_11, xb_12, xb_13, xb_14, xb_15, xb_16, xb_17, xb_18, xb_19, xb_20, xb_21, xo_0, xo_1, xo_2, xo_3, xo_4, xo_5, xo_6, xo_7, xo_8, xo_9, c0, c1, xo_0 N.1]
      refine x_getsUp b N hn ha (fun u => ?_) (fun u => ?_)
      · unfold fX3_judgeLine_b48
        simp (disch := first | assumption | omega) only [p_some, p_gd, p_br, p_bi, p_nm, p_mp, p_Sl, p_Sr, p_bis, p_gdt, q_IL, q_IR, q_LI, q_LR, q_RI, q_RL, q_KI, q_KL, q_KR, q_NI, q_NL, q_NR, q_nI, q_nL, q_nR, q_okI, q_okL, q_okR, q_Ie, q_In, q_Le, q_Ln, SM_I, SM_L, s_c0, s_cg0, s_cl0, s_cge, s_cle, r_le, r_lt, r_eq, r_md, r_2, r_3, r_lit, r_litL, r_m1, nI_add, nI_1, nI_clamp, nI_leI, nI_ltI, nI_eq, pk_sub, q_ix, nI_l, lN_add, lN_mul, r_m1n, r_m1n', r_m1lt, r_m1nlt, r_m1le, r_m1nle, Nat.not_lt_zero, Nat.reduceEqDiff, Nat.reduceLT, Nat.reduceLeDiff, true_and, and_true, true_implies, false_implies, not_true_eq_false, not_false_eq_true, implies_true, and_self, ne_eq, decide_true, decide_false, Bool.not_true, Bool.not_false, if_true, if_false, reduceIte, xb_0, xb_1, xb_2, xb_3, xb_4, xb_5, xb_6, xb_7, xb_8, xb_9, xb_10, xb_11, xb_12, xb_13, xb_14, xb_15, xb_16, xb_17, xb_18, xb_19, xb_20, xb_21, xo_0, xo_1, xo_2, xo_3, xo_4, xo_5, xo_6, xo_7, xo_8, xo_9, s_10]
        refine ⟨fun z => ?_, fun z => ?_⟩
        · rw [if_pos ⟨fun _ => z, fun _ => u⟩] at k
          exact k h x_fr.rf ⟨N, h4, j1, j2⟩
        · rw [if_neg (fun q => z (q.mp u))] at k
          exact k h x_fr.rf ⟨N, h4, j1, j2⟩
      · unfold fX3_judgeLine_b48
        simp (disch := first | assumption | omega) only [p_some, p_gd, p_br, p_bi, p_nm, p_mp, p_Sl, p_Sr, p_bis, p_gdt, q_IL, q_IR, q_LI, q_LR, q_RI, q_RL, q_KI, q_KL, q_KR, q_NI, q_NL, q_NR, q_nI, q_nL, q_nR, q_okI, q_okL, q_okR, q_Ie, q_In, q_Le, q_Ln, SM_I, SM_L, s_c0, s_cg0, s_cl0, s_cge, s_cle, r_le, r_lt, r_eq, r_md, r_2, r_3, r_lit, r_litL, r_m1, nI_add, nI_1, nI_clamp, nI_leI, nI_ltI, nI_eq, pk_sub, q_ix, nI_l, lN_add, lN_mul, r_m1n, r_m1n', r_m1lt, r_m1nlt, r_m1le, r_m1nle, Nat.not_lt_zero, Nat.reduceEqDiff, Nat.reduceLT, Nat.reduceLeDiff, true_and, and_true, true_implies, false_implies, not_true_eq_false, not_false_eq_true, implies_true, and_self, ne_eq, decide_true, decide_false, Bool.not_true, Bool.not_false, if_true, if_false, reduceIte, xb_0, xb_1, xb_2, xb_3, xb_4, xb_5, xb_6, xb_7, xb_8, xb_9, xb_10, xb_11, xb_12, xb_13, xb_14, xb_15, xb_16, xb_17, xb_18, xb_19, xb_20, xb_21, xo_0, xo_1, xo_2, xo_3, xo_4, xo_5, xo_6, xo_7, xo_8, xo_9, s_10]
        refine ⟨fun z => ?_, fun z => ?_⟩
        · rw [if_neg (fun q => u (q.mpr z))] at k
          exact k h x_fr.rf ⟨N, h4, j1, j2⟩
        · rw [if_pos ⟨fun q => absurd q u, fun q => absurd q z⟩] at k
          exact k h x_fr.rf ⟨N, h4, j1, j2⟩
