/-! the class: what was, acts -/
theorem xns15 {h : z_T} (s : SX h) : xNs h 15 := ⟨xk15 s, xr15_2 s, xr15_3 s, xr15_4 s, xk16 s, xn16 s, xk17 s, xn17 s, xk18 s, xn18 s⟩
theorem xns21 {h : z_T} (s : SX h) : xNs h 21 := ⟨xk21 s, xr21_2 s, xr21_3 s, xr21_4 s, xk22 s, xn22 s, xk23 s, xn23 s, xk24 s, xn24 s⟩
theorem xns26 {h : z_T} (s : SX h) : xNs h 26 := ⟨xk26 s, xr26_2 s, xr26_3 s, xr26_4 s, xk27 s, xn27 s, xk28 s, xn28 s, xk29 s, xn29 s⟩
theorem xns32 {h : z_T} (s : SX h) : xNs h 32 := ⟨xk32 s, xr32_2 s, xr32_3 s, xr32_4 s, xk33 s, xn33 s, xk34 s, xn34 s, xk35 s, xn35 s⟩
theorem xns36 {h : z_T} (s : SX h) : xNs h 36 := ⟨xk36 s, xr36_2 s, xr36_3 s, xr36_4 s, xk37 s, xn37 s, xk38 s, xn38 s, xk39 s, xn39 s⟩
theorem xns40 {h : z_T} (s : SX h) : xNs h 40 := ⟨xk40 s, xr40_2 s, xr40_3 s, xr40_4 s, xk41 s, xn41 s, xk42 s, xn42 s, xk43 s, xn43 s⟩
theorem xns44 {h : z_T} (s : SX h) : xNs h 44 := ⟨xk44 s, xr44_2 s, xr44_3 s, xr44_4 s, xk45 s, xn45 s, xk46 s, xn46 s, xk47 s, xn47 s⟩
theorem xns48 {h : z_T} (s : SX h) : xNs h 48 := ⟨xk48 s, xr48_2 s, xr48_3 s, xr48_4 s, xk49 s, xn49 s, xk50 s, xn50 s, xk51 s, xn51 s⟩
theorem xns52 {h : z_T} (s : SX h) : xNs h 52 := ⟨xk52 s, xr52_2 s, xr52_3 s, xr52_4 s, xk53 s, xn53 s, xk54 s, xn54 s, xk55 s, xn55 s⟩
theorem xns56 {h : z_T} (s : SX h) : xNs h 56 := ⟨xk56 s, xr56_2 s, xr56_3 s, xr56_4 s, xk57 s, xn57 s, xk58 s, xn58 s, xk59 s, xn59 s⟩
theorem xns60 {h : z_T} (s : SX h) : xNs h 60 := ⟨xk60 s, xr60_2 s, xr60_3 s, xr60_4 s, xk61 s, xn61 s, xk62 s, xn62 s, xk63 s, xn63 s⟩
theorem xns64 {h : z_T} (s : SX h) : xNs h 64 := ⟨xk64 s, xr64_2 s, xr64_3 s, xr64_4 s, xk65 s, xn65 s, xk66 s, xn66 s, xk67 s, xn67 s⟩
theorem SX.past {h : z_T} (s : SX h) : ∀ i, i < 8 → xNs h (32 + 4 * i) ∧ z_R h 31 i = some (32 + 4 * i) ∧ isN (32 + 4 * i)
  | 0, _ => ⟨xns32 s, xr31_0 s, by unfold isN; omega⟩
  | 1, _ => ⟨xns36 s, xr31_1 s, by unfold isN; omega⟩
  | 2, _ => ⟨xns40 s, xr31_2 s, by unfold isN; omega⟩
  | 3, _ => ⟨xns44 s, xr31_3 s, by unfold isN; omega⟩
  | 4, _ => ⟨xns48 s, xr31_4 s, by unfold isN; omega⟩
  | 5, _ => ⟨xns52 s, xr31_5 s, by unfold isN; omega⟩
  | 6, _ => ⟨xns56 s, xr31_6 s, by unfold isN; omega⟩
  | 7, _ => ⟨xns60 s, xr31_7 s, by unfold isN; omega⟩
  | i + 8, hi => absurd hi (by omega)
theorem s_m7 {n : Nat} : nI n &&& nI 7 = nI (n % 8) := fa_mask n 3
def xU (h : z_T) (bo : Nat) (bk : Nat → Nat) (k : Nat) (pa : Nat → Nat × (Nat → Nat)) : Prop := z_I h 30 2 = nI k ∧ ∃ l, l < 8 ∧ z_I h 30 1 = nI l ∧ ∀ j, j < k → xNi h (32 + 4 * ((l + 8 - j) % 8)) bo bk (pa j).2 (pa j).1
theorem xU.fr {C : Nat → Nat → Prop} {h h' : z_T} {bo k : Nat} {bk : Nat → Nat} {pa : Nat → Nat × (Nat → Nat)} (f : x_fr C h h') (s : SX h) (hb : bo = 1 ∨ 83 ≤ bo) (hc : ∀ j k, 30 ≤ j → j < 64 → C j k) (hc2 : ∀ j k, j < 8 → C (bo + j) k) (u : xU h bo bk k pa) : xU h' bo bk k pa := by
  obtain ⟨u1, l, hl, u2, u3⟩ := u
  have h0 := s.1
  refine ⟨(f.I 30 2 (by omega) (hc _ _ (by omega) (by omega))).trans u1, l, hl, (f.I 30 1 (by omega) (hc _ _ (by omega) (by omega))).trans u2, fun j hj => (u3 j hj).fr f (s.past _ (Nat.mod_lt _ (by decide))).2.2 hb (fun a k ha => hc _ _ (by omega) (by omega)) hc2⟩
theorem x_keep {h : z_T} {bo n k : Nat} {bk ans : Nat → Nat} {pa : Nat → Nat × (Nat → Nat)} {Q : z_T → Prop} (W : xNow h bo bk ans n) (hn : n ≤ 12) (hU : xU h bo bk k pa) (hk : k ≤ 8)
    (kk : ∀ h', x_fr (fun a k => (a < 32 ∨ 64 ≤ a) ∧ (a ≠ 30 ∨ k = 0)) h h' → xNow h' bo bk ans n → xU h' bo bk (min (k + 1) 8) (a_push pa (n, ans)) → Q h') : p_W (fX4_keep 30 15 h) Q := by
  obtain ⟨s, N, hb⟩ := W
  obtain ⟨u1, l, hl, u2, u3⟩ := hU
  have h0 := s.1
  have hl2 : (l + 1) % 8 < 8 := Nat.mod_lt _ (by decide)
  obtain ⟨p1, p2, p3⟩ := s.past _ hl2
  have f1 : x_fr (fun a k => (a < 32 ∨ 64 ≤ a) ∧ (a ≠ 30 ∨ k = 0)) h (z_sI h 30 1 (nI ((l + 1) % 8))) := x_fr.rf.sI (fun _ => by omega)
  have i1 : z_I (z_sI h 30 1 (nI ((l + 1) % 8))) 30 1 = nI ((l + 1) % 8) := q_Ie rfl rfl
  have i2 : z_I (z_sI h 30 1 (nI ((l + 1) % 8))) 30 2 = nI k := (q_In (by omega)).trans u1
  have u31 : ∀ j, j < k → xNi (z_sI h 30 1 (nI ((l + 1) % 8))) (32 + 4 * ((l + 8 - j) % 8)) bo bk (pa j).2 (pa j).1 := fun j hj => (u3 j hj).fr (C := fun a _ => a ≠ 30) (x_fr.rf.sI (fun _ => by omega)) (s.past _ (Nat.mod_lt _ (by decide))).2.2 hb (fun a k ha => by omega) (fun a k ha => by omega)
  have N1 : xNi (z_sI h 30 1 (nI ((l + 1) % 8))) 15 bo bk ans n := N.fr (C := fun a _ => a ≠ 30) (x_fr.rf.sI (fun _ => by omega)) (Or.inl rfl) hb (fun a k ha => by omega) (fun a k ha => by omega)
  have s1 : SX (z_sI h 30 1 (nI ((l + 1) % 8))) := s
  unfold fX4_keep
  simp (disch := first | assumption | omega) only [p_some, p_gd, p_br, p_bi, p_nm, p_mp, p_Sl, p_Sr, p_bis, p_gdt, q_IL, q_IR, q_LI, q_LR, q_RI, q_RL, q_KI, q_KL, q_KR, q_NI, q_NL, q_NR, q_nI, q_nL, q_nR, q_okI, q_okL, q_okR, q_Ie, q_In, q_Le, q_Ln, SM_I, SM_L, s_c0, s_cg0, s_cl0, s_cge, s_cle, r_le, r_lt, r_eq, r_md, r_2, r_3, r_lit, r_litL, r_m1, nI_add, nI_1, nI_clamp, nI_leI, nI_ltI, nI_eq, pk_sub, q_ix, nI_l, lN_add, lN_mul, r_m1n, r_m1n', r_m1lt, r_m1nlt, r_m1le, r_m1nle, Nat.not_lt_zero, Nat.reduceEqDiff, Nat.reduceLT, Nat.reduceLeDiff, true_and, and_true, true_implies, false_implies, not_true_eq_false, not_false_eq_true, implies_true, and_self, ne_eq, decide_true, decide_false, Bool.not_true, Bool.not_false, if_true, if_false, reduceIte, xb_0, xb_1, xb_2, xb_3, xb_4, xb_5, xb_6, xb_7, xb_8, xb_9, xb_10, xb_11, xb_12, xb_13, xb_14, xb_15, xb_16, xb_17, xb_18, xb_19, xb_20, xb_21, xo_0, xo_1, xo_2, xo_3, xo_4, xo_5, xo_6, xo_7, xo_8, xo_9, xk30 s, u2, s_m7, xr30_0 s, xk31 s, xn31 s, p2, xo_0 p1, show ¬ 8 ≤ (l + 1) % 8 by omega]
  generalize z_sI h 30 1 (nI ((l + 1) % 8)) = h1 at f1 i1 i2 u31 N1 s1 ⊢
  refine x_copy (s1.past _ hl2).1 N1 hn p3 (Or.inl rfl) (by omega) hb (fun h2 f2 N2 => ?_)
  have hne : ∀ a k, (a < 32 ∨ 64 ≤ a) → nC (32 + 4 * ((l + 1) % 8)) a k ∧ (a ≠ 32 + 4 * ((l + 1) % 8) ∨ k ≠ 0) := fun a k c => by unfold nC; omega
  have s2 := f2.s s1
  have e2 : z_I h2 30 2 = nI k := (f2.I 30 2 (by have := s1.1; omega) (hne _ _ (by omega))).trans i2
  have e1 : z_I h2 30 1 = nI ((l + 1) % 8) := (f2.I 30 1 (by have := s1.1; omega) (hne _ _ (by omega))).trans i1
  unfold fX4_keep_b38
  have em : (if nI 8 < nI (k + 1) then nI 8 else nI (k + 1)) = nI (min (k + 1) 8) := by
    by_cases c : k = 8
    · subst c
      rw [if_pos (by rw [nI_ltI (by omega) (by omega)]; omega)]
      rfl
    · rw [if_neg (by rw [nI_ltI (by omega) (by omega)]; omega), Nat.min_eq_left (by omega)]
  simp (disch := first | assumption | omega) only [p_some, p_gd, p_nm, r_lit, xk30 s2, e2, nI_add, em, true_and]
  have f3 : x_fr (fun a k => a ≠ 30) h2 (z_sI h2 30 2 (nI (min (k + 1) 8))) := x_fr.rf.sI (fun _ => by omega)
  have N2' : xNi (z_sI h2 30 2 (nI (min (k + 1) 8))) (32 + 4 * ((l + 1) % 8)) bo bk ans n := N2.fr f3 p3 hb (fun a k ha => by omega) (fun a k ha => by omega)
  have hd1 := N1.fr f2 (Or.inl rfl) hb (fun a k ha => hne _ _ (by omega)) (fun a k ha => hne _ _ (by omega))
  refine kk _ ((f1.tr (f2.w (fun a k _ c => hne _ _ c.1))).sI (fun _ => by omega)) ⟨s2, hd1.fr f3 (Or.inl rfl) hb (fun a k ha => by omega) (fun a k ha => by omega), hb⟩ ⟨q_Ie rfl rfl, (l + 1) % 8, hl2, (q_In (by omega)).trans e1, fun j hj => ?_⟩
  match j, hj with
  | 0, _ =>
    rw [show ((l + 1) % 8 + 8 - 0) % 8 = (l + 1) % 8 by omega]
    exact N2'
  | j + 1, hj =>
    have e : ((l + 1) % 8 + 8 - (j + 1)) % 8 = (l + 8 - j) % 8 := by omega
    rw [e]
    have hj8 : (l + 8 - j) % 8 ≠ (l + 1) % 8 := by omega
    have hj88 := Nat.mod_lt (l + 8 - j) (show 0 < 8 by decide)
    exact ((u31 j (by omega)).fr f2 (s.past _ (Nat.mod_lt _ (by decide))).2.2 hb (fun a k ha => by unfold nC; omega) (fun a k ha => hne _ _ (by omega))).fr f3 (s.past _ (Nat.mod_lt _ (by decide))).2.2 hb (fun a k ha => by omega) (fun a k ha => by omega)
theorem x_opUndo {h : z_T} {bo n k : Nat} {bk ans : Nat → Nat} {pa : Nat → Nat × (Nat → Nat)} {Q : Int32 × z_T → Prop} (W : xNow h bo bk ans n) (hU : xU h bo bk k pa) (hk : k ≤ 8) (hpa : ∀ j, j < k → (pa j).1 ≤ 12)
    (k0 : k = 0 → Q (m1, h)) (k1 : ∀ h', x_fr (fun a k => (a < 15 ∨ 19 ≤ a) ∧ (a ≠ 30 ∨ k = 0)) h h' → 0 < k → xNow h' bo bk (pa 0).2 (pa 0).1 → xU h' bo bk (k - 1) (fun j => pa (j + 1)) → Q (nI (k - 1), h')) : p_W (fX11_undo 0 h) Q := by
  obtain ⟨s, N, hb⟩ := W
  obtain ⟨u1, l, hl, u2, u3⟩ := hU
  have h0 := s.1
  obtain ⟨p1, p2, p3⟩ := s.past _ hl
  unfold fX11_undo fX4_giveBack
  simp (disch := first | assumption | omega) only [p_some, p_gd, p_br, p_bi, p_nm, p_mp, p_Sl, p_Sr, p_bis, p_gdt, q_IL, q_IR, q_LI, q_LR, q_RI, q_RL, q_KI, q_KL, q_KR, q_NI, q_NL, q_NR, q_nI, q_nL, q_nR, q_okI, q_okL, q_okR, q_Ie, q_In, q_Le, q_Ln, SM_I, SM_L, s_c0, s_cg0, s_cl0, s_cge, s_cle, r_le, r_lt, r_eq, r_md, r_2, r_3, r_lit, r_litL, r_m1, nI_add, nI_1, nI_clamp, nI_leI, nI_ltI, nI_eq, pk_sub, q_ix, nI_l, lN_add, lN_mul, r_m1n, r_m1n', r_m1lt, r_m1nlt, r_m1le, r_m1nle, Nat.not_lt_zero, Nat.reduceEqDiff, Nat.reduceLT, Nat.reduceLeDiff, true_and, and_true, true_implies, false_implies, not_true_eq_false, not_false_eq_true, implies_true, and_self, ne_eq, decide_true, decide_false, Bool.not_true, Bool.not_false, if_true, if_false, reduceIte, xb_0, xb_1, xb_2, xb_3, xb_4, xb_5, xb_6, xb_7, xb_8, xb_9, xb_10, xb_11, xb_12, xb_13, xb_14, xb_15, xb_16, xb_17, xb_18, xb_19, xb_20, xb_21, xo_0, xo_1, xo_2, xo_3, xo_4, xo_5, xo_6, xo_7, xo_8, xo_9, xk0 s, xr0_5 s, xr0_3 s, xk14 s, xr14_0 s, xk30 s, u1, u2, xr30_0 s, xk31 s, xn31 s, p2, xo_0 N.1, hl]
  refine ⟨fun c => k0 (by omega), fun c => ?_⟩
  have hp0 := u3 0 (by omega)
  rw [show (l + 8 - 0) % 8 = l by omega] at hp0
  refine x_copy N.1 hp0 (hpa 0 (by omega)) (Or.inl rfl) p3 (by omega) hb (fun h2 f2 N2 => ?_)
  have hne : ∀ a k, (a < 15 ∨ 19 ≤ a) → nC 15 a k ∧ (a ≠ 15 ∨ k ≠ 0) := fun a k c => by unfold nC; omega
  have s2 := f2.s s
  have e2 : z_I h2 30 2 = nI k := (f2.I 30 2 (by omega) (hne _ _ (by omega))).trans u1
  have e1 : z_I h2 30 1 = nI l := (f2.I 30 1 (by omega) (hne _ _ (by omega))).trans u2
  simp (disch := first | assumption | omega) only [p_some, p_gd, p_br, p_bi, p_nm, p_mp, p_Sl, p_Sr, p_bis, p_gdt, q_IL, q_IR, q_LI, q_LR, q_RI, q_RL, q_KI, q_KL, q_KR, q_NI, q_NL, q_NR, q_nI, q_nL, q_nR, q_okI, q_okL, q_okR, q_Ie, q_In, q_Le, q_Ln, SM_I, SM_L, s_c0, s_cg0, s_cl0, s_cge, s_cle, r_le, r_lt, r_eq, r_md, r_2, r_3, r_lit, r_litL, r_m1, nI_add, nI_1, nI_clamp, nI_leI, nI_ltI, nI_eq, pk_sub, q_ix, nI_l, lN_add, lN_mul, r_m1n, r_m1n', r_m1lt, r_m1nlt, r_m1le, r_m1nle, Nat.not_lt_zero, Nat.reduceEqDiff, Nat.reduceLT, Nat.reduceLeDiff, true_and, and_true, true_implies, false_implies, not_true_eq_false, not_false_eq_true, implies_true, and_self, ne_eq, decide_true, decide_false, Bool.not_true, Bool.not_false, if_true, if_false, reduceIte, xb_0, xb_1, xb_2, xb_3, xb_4, xb_5, xb_6, xb_7, xb_8, xb_9, xb_10, xb_11, xb_12, xb_13, xb_14, xb_15, xb_16, xb_17, xb_18, xb_19, xb_20, xb_21, xo_0, xo_1, xo_2, xo_3, xo_4, xo_5, xo_6, xo_7, xo_8, xo_9, xk0 s2, xr0_5 s2, xk30 s2, e1, e2, s_m7]
  have f3 : x_fr (fun a k => a ≠ 30) h2 (z_sI (z_sI h2 30 1 (nI ((l + 8 - 1) % 8))) 30 2 (nI (k - 1))) := (x_fr.rf.sI (fun _ => by omega)).sI (fun _ => by omega)
  refine k1 _ (((f2.w (fun a k _ c => hne _ _ c.1)).sI (fun _ => by omega)).sI (fun _ => by omega)) (by omega) ⟨s2, N2.fr f3 (Or.inl rfl) hb (fun a k ha => by omega) (fun a k ha => by omega), hb⟩ ⟨q_Ie rfl rfl, (l + 8 - 1) % 8, Nat.mod_lt _ (by decide), (q_In (by omega)).trans (q_Ie rfl rfl), fun j hj => ?_⟩
  have e : ((l + 8 - 1) % 8 + 8 - j) % 8 = (l + 8 - (j + 1)) % 8 := by omega
  rw [e]
  exact ((u3 (j + 1) (by omega)).fr f2 (s.past _ (Nat.mod_lt _ (by decide))).2.2 hb (fun a k ha => hne _ _ (by omega)) (fun a k ha => hne _ _ (by omega))).fr f3 (s.past _ (Nat.mod_lt _ (by decide))).2.2 hb (fun a k ha => by omega) (fun a k ha => by omega)
theorem x_opSleep {h : z_T} {bo n k : Nat} {bk ans : Nat → Nat} {pa : Nat → Nat × (Nat → Nat)} {Q : Int32 × z_T → Prop} (W : xNow h bo bk ans n) (b : BOK bk) (hn : n ≤ 12) (hU : xU h bo bk k pa) (hk : k ≤ 8)
    (kk : ∀ h', x_fr (fun a k => (a < 15 ∨ 19 ≤ a) ∧ (a < 32 ∨ 64 ≤ a) ∧ (a ≠ 30 ∨ k = 0)) h h' → xNow h' bo bk ans 0 → xU h' bo bk (min (k + 1) 8) (a_push pa (n, ans)) → Q (nI n, h')) : p_W (fX11_sleep 0 h) Q := by
  obtain ⟨s, N, hb⟩ := id W
  unfold fX11_sleep
  simp (disch := first | assumption | omega) only [p_some, p_gd, p_br, p_bi, p_nm, p_mp, p_Sl, p_Sr, p_bis, p_gdt, q_IL, q_IR, q_LI, q_LR, q_RI, q_RL, q_KI, q_KL, q_KR, q_NI, q_NL, q_NR, q_nI, q_nL, q_nR, q_okI, q_okL, q_okR, q_Ie, q_In, q_Le, q_Ln, SM_I, SM_L, s_c0, s_cg0, s_cl0, s_cge, s_cle, r_le, r_lt, r_eq, r_md, r_2, r_3, r_lit, r_litL, r_m1, nI_add, nI_1, nI_clamp, nI_leI, nI_ltI, nI_eq, pk_sub, q_ix, nI_l, lN_add, lN_mul, r_m1n, r_m1n', r_m1lt, r_m1nlt, r_m1le, r_m1nle, Nat.not_lt_zero, Nat.reduceEqDiff, Nat.reduceLT, Nat.reduceLeDiff, true_and, and_true, true_implies, false_implies, not_true_eq_false, not_false_eq_true, implies_true, and_self, ne_eq, decide_true, decide_false, Bool.not_true, Bool.not_false, if_true, if_false, reduceIte, xb_0, xb_1, xb_2, xb_3, xb_4, xb_5, xb_6, xb_7, xb_8, xb_9, xb_10, xb_11, xb_12, xb_13, xb_14, xb_15, xb_16, xb_17, xb_18, xb_19, xb_20, xb_21, xo_0, xo_1, xo_2, xo_3, xo_4, xo_5, xo_6, xo_7, xo_8, xo_9, xk0 s, xr0_3 s, xk14 s, xr14_0 s, xo_0 N.1, N.2.2.2.1, xr0_5 s, xk30 s]
  refine x_keep W hn hU hk (fun h2 f2 W2 hU2 => ?_)
  obtain ⟨s2, N2, -⟩ := W2
  simp (disch := first | assumption | omega) only [p_some, p_gd, p_br, p_bi, p_nm, p_mp, p_Sl, p_Sr, p_bis, p_gdt, q_IL, q_IR, q_LI, q_LR, q_RI, q_RL, q_KI, q_KL, q_KR, q_NI, q_NL, q_NR, q_nI, q_nL, q_nR, q_okI, q_okL, q_okR, q_Ie, q_In, q_Le, q_Ln, SM_I, SM_L, s_c0, s_cg0, s_cl0, s_cge, s_cle, r_le, r_lt, r_eq, r_md, r_2, r_3, r_lit, r_litL, r_m1, nI_add, nI_1, nI_clamp, nI_leI, nI_ltI, nI_eq, pk_sub, q_ix, nI_l, lN_add, lN_mul, r_m1n, r_m1n', r_m1lt, r_m1nlt, r_m1le, r_m1nle, Nat.not_lt_zero, Nat.reduceEqDiff, Nat.reduceLT, Nat.reduceLeDiff, true_and, and_true, true_implies, false_implies, not_true_eq_false, not_false_eq_true, implies_true, and_self, ne_eq, decide_true, decide_false, Bool.not_true, Bool.not_false, if_true, if_false, reduceIte, xb_0, xb_1, xb_2, xb_3, xb_4, xb_5, xb_6, xb_7, xb_8, xb_9, xb_10, xb_11, xb_12, xb_13, xb_14, xb_15, xb_16, xb_17, xb_18, xb_19, xb_20, xb_21, xo_0, xo_1, xo_2, xo_3, xo_4, xo_5, xo_6, xo_7, xo_8, xo_9, xk0 s2, xr0_3 s2, xk14 s2, xr14_0 s2, xo_0 N2.1, N2.2.1]
  refine x_begin (ans := ans) b N2.1 N2.2.2.1 (Or.inl rfl) hb (fun h3 f3 N3 => ?_)
  have hne : ∀ a k, (a < 15 ∨ 19 ≤ a) → nC 15 a k ∧ (a ≠ 15 ∨ k ≠ 0) := fun a k c => by unfold nC; omega
  exact kk h3 ((f2.w (fun a k _ c => c.2)).tr (f3.w (fun a k _ c => hne _ _ c.1))) ⟨f3.s s2, N3, hb⟩ (hU2.fr f3 s2 hb (fun a k h1 h2 => hne _ _ (by omega)) (fun a k ha => hne _ _ (by omega)))
theorem x_opAsk {h : z_T} {bo n k : Nat} {bk ans : Nat → Nat} {pa : Nat → Nat × (Nat → Nat)} {Q : Int32 × z_T → Prop} (W : xNow h bo bk ans n) (b : BOK bk) (hO : NOK bk ans n) (hU : xU h bo bk k pa) (hk : k ≤ 8) (x y : Int32)
    (k0 : ¬ (z_ix x (bk 0) = true ∧ z_ix y 2 = true ∧ n < 12 ∧ 0 < a_all bk (a_u ans n (2 * x.toNatClampNeg + y.toNatClampNeg)) (n + 1)) → Q (m1, h))
    (k1 : ∀ h', x_fr (fun a k => (a < 15 ∨ 19 ≤ a) ∧ (a < 32 ∨ 64 ≤ a) ∧ (a ≠ 30 ∨ k = 0)) h h' → (z_ix x (bk 0) = true ∧ z_ix y 2 = true ∧ n < 12 ∧ 0 < a_all bk (a_u ans n (2 * x.toNatClampNeg + y.toNatClampNeg)) (n + 1)) → xU h' bo bk (min (k + 1) 8) (a_push pa (n, ans)) → xNow h' bo bk (a_u ans n (2 * x.toNatClampNeg + y.toNatClampNeg)) (n + 1) → Q (nI (n + 1), h')) : p_W (fX11_ask 0 x y h) Q := by
  have h8 := b.1
  have hn := hO.1
  obtain ⟨s, N, hb⟩ := id W
  unfold fX11_ask
  simp (disch := first | assumption | omega) only [p_some, p_gd, p_br, p_bi, p_nm, p_mp, p_Sl, p_Sr, p_bis, p_gdt, q_IL, q_IR, q_LI, q_LR, q_RI, q_RL, q_KI, q_KL, q_KR, q_NI, q_NL, q_NR, q_nI, q_nL, q_nR, q_okI, q_okL, q_okR, q_Ie, q_In, q_Le, q_Ln, SM_I, SM_L, s_c0, s_cg0, s_cl0, s_cge, s_cle, r_le, r_lt, r_eq, r_md, r_2, r_3, r_lit, r_litL, r_m1, nI_add, nI_1, nI_clamp, nI_leI, nI_ltI, nI_eq, pk_sub, q_ix, nI_l, lN_add, lN_mul, r_m1n, r_m1n', r_m1lt, r_m1nlt, r_m1le, r_m1nle, Nat.not_lt_zero, Nat.reduceEqDiff, Nat.reduceLT, Nat.reduceLeDiff, true_and, and_true, true_implies, false_implies, not_true_eq_false, not_false_eq_true, implies_true, and_self, ne_eq, decide_true, decide_false, Bool.not_true, Bool.not_false, if_true, if_false, reduceIte, xb_0, xb_1, xb_2, xb_3, xb_4, xb_5, xb_6, xb_7, xb_8, xb_9, xb_10, xb_11, xb_12, xb_13, xb_14, xb_15, xb_16, xb_17, xb_18, xb_19, xb_20, xb_21, xo_0, xo_1, xo_2, xo_3, xo_4, xo_5, xo_6, xo_7, xo_8, xo_9, xk0 s, xr0_3 s, xk14 s, xr14_0 s, xo_0 N.1, N.2.1, xb_0 N.2.2.1.1, x_hasTest b N.2.2.1, bI_0, x_isSide, x_isFull N, xr0_5 s, xk30 s]
  refine ⟨fun c => k0 (fun q => c q.1), fun c => ⟨fun c2 => k0 (fun q => c2 q.2.1), fun c2 => ⟨fun c3 => ?_, fun c3 => k0 (fun q => c3 (fun q2 => q2 q.2.2.1))⟩⟩⟩
  have cx := Classical.not_not.mp c
  have cy := Classical.not_not.mp c2
  have hn12 : n < 12 := Classical.not_not.mp c3
  obtain ⟨t, ht, rfl⟩ := z_ixn c (by omega)
  obtain ⟨st, hst, rfl⟩ := z_ixn c2 (by omega)
  rw [nI_clamp (by omega), nI_clamp (by omega)] at k0 k1
  simp (disch := first | assumption | omega) only [p_some, p_gd, p_br, p_bi, p_nm, p_mp, p_Sl, p_Sr, p_bis, p_gdt, q_IL, q_IR, q_LI, q_LR, q_RI, q_RL, q_KI, q_KL, q_KR, q_NI, q_NL, q_NR, q_nI, q_nL, q_nR, q_okI, q_okL, q_okR, q_Ie, q_In, q_Le, q_Ln, SM_I, SM_L, s_c0, s_cg0, s_cl0, s_cge, s_cle, r_le, r_lt, r_eq, r_md, r_2, r_3, r_lit, r_litL, r_m1, nI_add, nI_1, nI_clamp, nI_leI, nI_ltI, nI_eq, pk_sub, q_ix, nI_l, lN_add, lN_mul, r_m1n, r_m1n', r_m1lt, r_m1nlt, r_m1le, r_m1nle, Nat.not_lt_zero, Nat.reduceEqDiff, Nat.reduceLT, Nat.reduceLeDiff, true_and, and_true, true_implies, false_implies, not_true_eq_false, not_false_eq_true, implies_true, and_self, ne_eq, decide_true, decide_false, Bool.not_true, Bool.not_false, if_true, if_false, reduceIte, xb_0, xb_1, xb_2, xb_3, xb_4, xb_5, xb_6, xb_7, xb_8, xb_9, xb_10, xb_11, xb_12, xb_13, xb_14, xb_15, xb_16, xb_17, xb_18, xb_19, xb_20, xb_21, xo_0, xo_1, xo_2, xo_3, xo_4, xo_5, xo_6, xo_7, xo_8, xo_9, x_canBe b N hn12 hO.2.1 ht hst, bI_0]
  refine ⟨fun c4 => k0 (fun q => c4 q.2.2.2), fun c4 => ?_⟩
  refine x_keep W hn hU hk (fun h2 f2 W2 hU2 => ?_)
  obtain ⟨s2, N2, -⟩ := W2
  simp (disch := first | assumption | omega) only [p_some, p_gd, p_br, p_bi, p_nm, p_mp, p_Sl, p_Sr, p_bis, p_gdt, q_IL, q_IR, q_LI, q_LR, q_RI, q_RL, q_KI, q_KL, q_KR, q_NI, q_NL, q_NR, q_nI, q_nL, q_nR, q_okI, q_okL, q_okR, q_Ie, q_In, q_Le, q_Ln, SM_I, SM_L, s_c0, s_cg0, s_cl0, s_cge, s_cle, r_le, r_lt, r_eq, r_md, r_2, r_3, r_lit, r_litL, r_m1, nI_add, nI_1, nI_clamp, nI_leI, nI_ltI, nI_eq, pk_sub, q_ix, nI_l, lN_add, lN_mul, r_m1n, r_m1n', r_m1lt, r_m1nlt, r_m1le, r_m1nle, Nat.not_lt_zero, Nat.reduceEqDiff, Nat.reduceLT, Nat.reduceLeDiff, true_and, and_true, true_implies, false_implies, not_true_eq_false, not_false_eq_true, implies_true, and_self, ne_eq, decide_true, decide_false, Bool.not_true, Bool.not_false, if_true, if_false, reduceIte, xb_0, xb_1, xb_2, xb_3, xb_4, xb_5, xb_6, xb_7, xb_8, xb_9, xb_10, xb_11, xb_12, xb_13, xb_14, xb_15, xb_16, xb_17, xb_18, xb_19, xb_20, xb_21, xo_0, xo_1, xo_2, xo_3, xo_4, xo_5, xo_6, xo_7, xo_8, xo_9, xo_0 N2.1]
  refine x_add b N2 hn12 ht hst (Or.inl rfl) hb (fun h3 f3 _ N3 => ?_)
  have hne : ∀ a k, (a < 15 ∨ 19 ≤ a) → nC 15 a k := fun a k c => by unfold nC; omega
  simp (disch := first | assumption | omega) only [p_some, p_gd, p_br, p_bi, p_nm, p_mp, p_Sl, p_Sr, p_bis, p_gdt, q_IL, q_IR, q_LI, q_LR, q_RI, q_RL, q_KI, q_KL, q_KR, q_NI, q_NL, q_NR, q_nI, q_nL, q_nR, q_okI, q_okL, q_okR, q_Ie, q_In, q_Le, q_Ln, SM_I, SM_L, s_c0, s_cg0, s_cl0, s_cge, s_cle, r_le, r_lt, r_eq, r_md, r_2, r_3, r_lit, r_litL, r_m1, nI_add, nI_1, nI_clamp, nI_leI, nI_ltI, nI_eq, pk_sub, q_ix, nI_l, lN_add, lN_mul, r_m1n, r_m1n', r_m1lt, r_m1nlt, r_m1le, r_m1nle, Nat.not_lt_zero, Nat.reduceEqDiff, Nat.reduceLT, Nat.reduceLeDiff, true_and, and_true, true_implies, false_implies, not_true_eq_false, not_false_eq_true, implies_true, and_self, ne_eq, decide_true, decide_false, Bool.not_true, Bool.not_false, if_true, if_false, reduceIte, xb_0, xb_1, xb_2, xb_3, xb_4, xb_5, xb_6, xb_7, xb_8, xb_9, xb_10, xb_11, xb_12, xb_13, xb_14, xb_15, xb_16, xb_17, xb_18, xb_19, xb_20, xb_21, xo_0, xo_1, xo_2, xo_3, xo_4, xo_5, xo_6, xo_7, xo_8, xo_9, xo_0 N3.1, N3.2.2.2.1]
  exact k1 h3 ((f2.w (fun a k _ c => c.2)).tr (f3.w (fun a k _ c => hne _ _ c.1))) ⟨cx, cy, hn12, Classical.not_not.mp c4⟩ (hU2.fr f3 s2 hb (fun a k h1 h2 => hne _ _ (by omega)) (fun a k ha => hne _ _ (by omega))) ⟨f3.s s2, N3, hb⟩
theorem x_canDraw {h : z_T} {bo : Nat} {bk : Nat → Nat} {Q : Int32 → Prop} (b : BOK bk) (B : xBk h bo bk) (x : Int32) (kt : a_cd bk x → Q (nI 1)) (kf : ¬ a_cd bk x → Q (nI 0)) : p_W (fX0_canDraw bo x h) Q := by
  have h8 := b.1
  have hi := r_isinL (x := x) (m := 12) (by decide)
  unfold a_cd at kt kf
  rw [← hi] at kt kf
  unfold fX0_canDraw fX0_canDraw_b21 fX0_canDraw_b25
  simp (disch := first | assumption | omega) only [p_some, p_gd, p_br, p_bi, p_nm, p_mp, p_Sl, p_Sr, p_bis, p_gdt, q_IL, q_IR, q_LI, q_LR, q_RI, q_RL, q_KI, q_KL, q_KR, q_NI, q_NL, q_NR, q_nI, q_nL, q_nR, q_okI, q_okL, q_okR, q_Ie, q_In, q_Le, q_Ln, SM_I, SM_L, s_c0, s_cg0, s_cl0, s_cge, s_cle, r_le, r_lt, r_eq, r_md, r_2, r_3, r_lit, r_litL, r_m1, nI_add, nI_1, nI_clamp, nI_leI, nI_ltI, nI_eq, pk_sub, q_ix, nI_l, lN_add, lN_mul, r_m1n, r_m1n', r_m1lt, r_m1nlt, r_m1le, r_m1nle, Nat.not_lt_zero, Nat.reduceEqDiff, Nat.reduceLT, Nat.reduceLeDiff, true_and, and_true, true_implies, false_implies, not_true_eq_false, not_false_eq_true, implies_true, and_self, ne_eq, decide_true, decide_false, Bool.not_true, Bool.not_false, if_true, if_false, reduceIte, xb_0, xb_1, xb_2, xb_3, xb_4, xb_5, xb_6, xb_7, xb_8, xb_9, xb_10, xb_11, xb_12, xb_13, xb_14, xb_15, xb_16, xb_17, xb_18, xb_19, xb_20, xb_21, xo_0, xo_1, xo_2, xo_3, xo_4, xo_5, xo_6, xo_7, xo_8, xo_9, xb_0 B.1, B.2.1]
  refine ⟨fun c => kf (fun q => q.1.1 c), fun c => ⟨fun c1 => kf (fun q => q.1.2 c1), fun c1 => ⟨fun c2 => kt ⟨⟨c, c1⟩, Or.inl c2⟩, fun c2 => ⟨fun c3 => kf (fun q => ?_), fun c3 => kt ⟨⟨c, c1⟩, Or.inr (by omega)⟩⟩⟩⟩⟩
  rcases q.2 with q | q
  · exact c2 q
  · omega
theorem x_opDrawn {h : z_T} {bo n k : Nat} {bk ans : Nat → Nat} {pa : Nat → Nat × (Nat → Nat)} {Q : Int32 × z_T → Prop} (W : xNow h bo bk ans n) (b : BOK bk) (hn : n ≤ 12) (hU : xU h bo bk k pa) (hk : k ≤ 8) (y x : Int32)
    (k0 : ¬ a_cd bk y → Q (m1, h))
    (k1 : ∀ h' m, x_fr (fun a k => (a < 15 ∨ 19 ≤ a) ∧ (a < 32 ∨ 64 ≤ a) ∧ (a ≠ 30 ∨ k = 0)) h h' → a_cd bk y → m ≤ 12 → y = nI m → (m = 0 ∨ 0 < bk 0) → xU h' bo bk (min (k + 1) 8) (a_push pa (n, ans)) → xNow h' bo bk (a_da bk x m) m → Q (nI (a_dq bk x), h')) : p_W (fX11_drawn 0 y x h) Q := by
  obtain ⟨s, N, hb⟩ := id W
  unfold fX11_drawn
  simp (disch := first | assumption | omega) only [p_some, p_gd, p_br, p_bi, p_nm, p_mp, p_Sl, p_Sr, p_bis, p_gdt, q_IL, q_IR, q_LI, q_LR, q_RI, q_RL, q_KI, q_KL, q_KR, q_NI, q_NL, q_NR, q_nI, q_nL, q_nR, q_okI, q_okL, q_okR, q_Ie, q_In, q_Le, q_Ln, SM_I, SM_L, s_c0, s_cg0, s_cl0, s_cge, s_cle, r_le, r_lt, r_eq, r_md, r_2, r_3, r_lit, r_litL, r_m1, nI_add, nI_1, nI_clamp, nI_leI, nI_ltI, nI_eq, pk_sub, q_ix, nI_l, lN_add, lN_mul, r_m1n, r_m1n', r_m1lt, r_m1nlt, r_m1le, r_m1nle, Nat.not_lt_zero, Nat.reduceEqDiff, Nat.reduceLT, Nat.reduceLeDiff, true_and, and_true, true_implies, false_implies, not_true_eq_false, not_false_eq_true, implies_true, and_self, ne_eq, decide_true, decide_false, Bool.not_true, Bool.not_false, if_true, if_false, reduceIte, xb_0, xb_1, xb_2, xb_3, xb_4, xb_5, xb_6, xb_7, xb_8, xb_9, xb_10, xb_11, xb_12, xb_13, xb_14, xb_15, xb_16, xb_17, xb_18, xb_19, xb_20, xb_21, xo_0, xo_1, xo_2, xo_3, xo_4, xo_5, xo_6, xo_7, xo_8, xo_9, xk0 s, xr0_3 s, xk14 s, xr14_0 s, xo_0 N.1, N.2.1, xb_0 N.2.2.1.1]
  refine x_canDraw b N.2.2.1 y (fun c => ?_) (fun c => ?_)
  · obtain ⟨m, hm, rfl, hm0⟩ := a_cd_n c
    simp (disch := first | assumption | omega) only [p_some, p_gd, p_br, p_bi, p_nm, p_mp, p_Sl, p_Sr, p_bis, p_gdt, q_IL, q_IR, q_LI, q_LR, q_RI, q_RL, q_KI, q_KL, q_KR, q_NI, q_NL, q_NR, q_nI, q_nL, q_nR, q_okI, q_okL, q_okR, q_Ie, q_In, q_Le, q_Ln, SM_I, SM_L, s_c0, s_cg0, s_cl0, s_cge, s_cle, r_le, r_lt, r_eq, r_md, r_2, r_3, r_lit, r_litL, r_m1, nI_add, nI_1, nI_clamp, nI_leI, nI_ltI, nI_eq, pk_sub, q_ix, nI_l, lN_add, lN_mul, r_m1n, r_m1n', r_m1lt, r_m1nlt, r_m1le, r_m1nle, Nat.not_lt_zero, Nat.reduceEqDiff, Nat.reduceLT, Nat.reduceLeDiff, true_and, and_true, true_implies, false_implies, not_true_eq_false, not_false_eq_true, implies_true, and_self, ne_eq, decide_true, decide_false, Bool.not_true, Bool.not_false, if_true, if_false, reduceIte, xb_0, xb_1, xb_2, xb_3, xb_4, xb_5, xb_6, xb_7, xb_8, xb_9, xb_10, xb_11, xb_12, xb_13, xb_14, xb_15, xb_16, xb_17, xb_18, xb_19, xb_20, xb_21, xo_0, xo_1, xo_2, xo_3, xo_4, xo_5, xo_6, xo_7, xo_8, xo_9, xr0_5 s, xk30 s]
    refine x_keep W hn hU hk (fun h2 f2 W2 hU2 => ?_)
    obtain ⟨s2, N2, -⟩ := W2
    simp (disch := first | assumption | omega) only [p_some, p_gd, p_br, p_bi, p_nm, p_mp, p_Sl, p_Sr, p_bis, p_gdt, q_IL, q_IR, q_LI, q_LR, q_RI, q_RL, q_KI, q_KL, q_KR, q_NI, q_NL, q_NR, q_nI, q_nL, q_nR, q_okI, q_okL, q_okR, q_Ie, q_In, q_Le, q_Ln, SM_I, SM_L, s_c0, s_cg0, s_cl0, s_cge, s_cle, r_le, r_lt, r_eq, r_md, r_2, r_3, r_lit, r_litL, r_m1, nI_add, nI_1, nI_clamp, nI_leI, nI_ltI, nI_eq, pk_sub, q_ix, nI_l, lN_add, lN_mul, r_m1n, r_m1n', r_m1lt, r_m1nlt, r_m1le, r_m1nle, Nat.not_lt_zero, Nat.reduceEqDiff, Nat.reduceLT, Nat.reduceLeDiff, true_and, and_true, true_implies, false_implies, not_true_eq_false, not_false_eq_true, implies_true, and_self, ne_eq, decide_true, decide_false, Bool.not_true, Bool.not_false, if_true, if_false, reduceIte, xb_0, xb_1, xb_2, xb_3, xb_4, xb_5, xb_6, xb_7, xb_8, xb_9, xb_10, xb_11, xb_12, xb_13, xb_14, xb_15, xb_16, xb_17, xb_18, xb_19, xb_20, xb_21, xo_0, xo_1, xo_2, xo_3, xo_4, xo_5, xo_6, xo_7, xo_8, xo_9, xo_0 N2.1]
    refine x_draw b N2 hm hm0 (Or.inl rfl) hb x (fun h3 f3 N3 => ?_)
    have hne : ∀ a k, (a < 15 ∨ 19 ≤ a) → nC 15 a k ∧ (a ≠ 15 ∨ k ≠ 0) := fun a k c => by unfold nC; omega
    exact k1 h3 m ((f2.w (fun a k _ c => c.2)).tr (f3.w (fun a k _ c => hne _ _ c.1))) c hm rfl hm0 (hU2.fr f3 s2 hb (fun a k h1 h2 => hne _ _ (by omega)) (fun a k ha => hne _ _ (by omega))) ⟨f3.s s2, N3, hb⟩
  · simp (disch := first | assumption | omega) only [p_some, p_gd, p_br, p_bi, p_nm, p_mp, p_Sl, p_Sr, p_bis, p_gdt, q_IL, q_IR, q_LI, q_LR, q_RI, q_RL, q_KI, q_KL, q_KR, q_NI, q_NL, q_NR, q_nI, q_nL, q_nR, q_okI, q_okL, q_okR, q_Ie, q_In, q_Le, q_Ln, SM_I, SM_L, s_c0, s_cg0, s_cl0, s_cge, s_cle, r_le, r_lt, r_eq, r_md, r_2, r_3, r_lit, r_litL, r_m1, nI_add, nI_1, nI_clamp, nI_leI, nI_ltI, nI_eq, pk_sub, q_ix, nI_l, lN_add, lN_mul, r_m1n, r_m1n', r_m1lt, r_m1nlt, r_m1le, r_m1nle, Nat.not_lt_zero, Nat.reduceEqDiff, Nat.reduceLT, Nat.reduceLeDiff, true_and, and_true, true_implies, false_implies, not_true_eq_false, not_false_eq_true, implies_true, and_self, ne_eq, decide_true, decide_false, Bool.not_true, Bool.not_false, if_true, if_false, reduceIte, xb_0, xb_1, xb_2, xb_3, xb_4, xb_5, xb_6, xb_7, xb_8, xb_9, xb_10, xb_11, xb_12, xb_13, xb_14, xb_15, xb_16, xb_17, xb_18, xb_19, xb_20, xb_21, xo_0, xo_1, xo_2, xo_3, xo_4, xo_5, xo_6, xo_7, xo_8, xo_9]
    exact k0 c
