/-! the reference: acts of a night -/
/-- what of the reference's heap is its state: all else is scratch -/
def mKp (o k : Nat) : Prop := (o = 0 ∧ (k = 2 ∨ k = 15 ∨ k = 24 ∨ k = 31 ∨ k = 44)) ∨ o = 1 ∨ o = 2 ∨ (o = 5 ∧ k < 14) ∨ o = 6 ∨ o = 8 ∨ o = 12 ∨ o = 17 ∨ o = 20 ∨ o = 21 ∨ o = 22
theorem mKp0 {k : Nat} (h : k ≠ 2 ∧ k ≠ 15 ∧ k ≠ 24 ∧ k ≠ 31 ∧ k ≠ 44) : ¬ mKp 0 k := by unfold mKp; omega
theorem mKp7 {k : Nat} : ¬ mKp 7 k := by unfold mKp; omega
theorem m_fr.k7 {h h' : z_T} (f : m_fr (fun o _ => o ≠ 7) h h') : m_fr mKp h h' := f.w (fun o k c e => by subst e; exact mKp7 c)
theorem m_fr.t0 {h : z_T} {v : Int32} : m_fr mKp h (z_sI h 0 0 v) := m_fr.rf.sI (mKp0 (by omega))
theorem mB.fr {h h' : z_T} {bk : Nat → Nat} {C : Nat → Nat → Prop} (f : m_fr C h h') (hc : ∀ k, C 2 k) (hB : mB h bk) : mB h' bk := fun k hk => (f.I 2 k (hc k)).trans (hB k hk)
theorem mA.fr {h h' : z_T} {ans : Nat → Nat} {m : Nat} {C : Nat → Nat → Prop} (f : m_fr C h h') (hc : ∀ k, C 2 k) (hA : mA h m ans) : mA h' m ans := fun k hk => (f.I 2 (37 + k) (hc _)).trans (hA k hk)
theorem mKp2 (k : Nat) : mKp 2 k := by unfold mKp; omega
/-- the night of the reference: n answers -/
def mNi (h : z_T) (bk : Nat → Nat) (n : Nat) (ans : Nat → Nat) : Prop := mB h bk ∧ z_I h 2 36 = nI n ∧ mA h n ans
theorem mNi.fr {h h' : z_T} {bk ans : Nat → Nat} {n : Nat} {C : Nat → Nat → Prop} (f : m_fr C h h') (hc : ∀ k, C 2 k) (hN : mNi h bk n ans) : mNi h' bk n ans := ⟨mB.fr f hc hN.1, (f.I 2 36 (hc _)).trans hN.2.1, mA.fr f hc hN.2.2⟩
theorem m_fault {h : z_T} (s : SM h) : p_W (fX12_fault 0 h) (fun w => w.1 = z_I h 0 15 ∧ m_fr mKp h w.2) := by
  unfold fX12_fault
  simp (disch := first | assumption | omega) only [p_some, p_gd, p_br, p_bi, p_nm, p_mp, p_Sl, p_Sr, p_bis, p_gdt, q_IL, q_IR, q_LI, q_LR, q_RI, q_RL, q_KI, q_KL, q_KR, q_NI, q_NL, q_NR, q_nI, q_nL, q_nR, q_okI, q_okL, q_okR, q_Ie, q_In, q_Le, q_Ln, SM_I, SM_L, r_lit, r_litL, r_m1, nI_add, nI_1, nI_clamp, nI_leI, nI_ltI, nI_eq, pk_sub, q_ix, nI_l, lN_add, lN_mul, r_m1n, r_m1n', r_m1lt, r_m1nlt, r_m1le, r_m1nle, true_and, and_true, true_implies, false_implies, not_true_eq_false, not_false_eq_true, implies_true, and_self, ne_eq, decide_true, decide_false, Bool.not_true, Bool.not_false, if_true, if_false, reduceIte, mk0, mk1, mk2, mk3, mk4, mk5, mk6, mk7, mk8, mk9, mk10, mk11, mk12, mk13, mk14, mk15, mk16, mk17, mk18, mk19, mk20, mk21, mk22, mn1, mn2, mn3, mn4, mn5, mn6, mn7, mn8, mn9, mn10, mn11, mn12, mn13, mn14, mn15, mn16, mn17, mn18, mn19, mn20, mn21, mn22, mr1, mr6, mr7, mr8, mr9, mr10, mr21, mr22, mr23, mr25, mr26, mr29, mr30, mr32, mr33, mr34, mr43, mr47, mr53, mr54, mr55, mr56]
  exact m_fr.t0
theorem m_answer {h : z_T} {bk ans : Nat → Nat} {n : Nat} (s : SM h) (hN : mNi h bk n ans) (hn : n ≤ 12) (x : Int32) :
    p_W (fX12_answer 0 x h) (fun w => ((∀ i, i < n → x = nI i → w.1 = nI (ans i)) ∧ (¬ z_ix x n = true → w.1 = m1)) ∧ m_fr mKp h w.2) := by
  unfold fX12_answer
  simp (disch := first | assumption | omega) only [p_some, p_gd, p_br, p_bi, p_nm, p_mp, p_Sl, p_Sr, p_bis, p_gdt, q_IL, q_IR, q_LI, q_LR, q_RI, q_RL, q_KI, q_KL, q_KR, q_NI, q_NL, q_NR, q_nI, q_nL, q_nR, q_okI, q_okL, q_okR, q_Ie, q_In, q_Le, q_Ln, SM_I, SM_L, r_lit, r_litL, r_m1, nI_add, nI_1, nI_clamp, nI_leI, nI_ltI, nI_eq, pk_sub, q_ix, nI_l, lN_add, lN_mul, r_m1n, r_m1n', r_m1lt, r_m1nlt, r_m1le, r_m1nle, true_and, and_true, true_implies, false_implies, not_true_eq_false, not_false_eq_true, implies_true, and_self, ne_eq, decide_true, decide_false, Bool.not_true, Bool.not_false, if_true, if_false, reduceIte, mk0, mk1, mk2, mk3, mk4, mk5, mk6, mk7, mk8, mk9, mk10, mk11, mk12, mk13, mk14, mk15, mk16, mk17, mk18, mk19, mk20, mk21, mk22, mn1, mn2, mn3, mn4, mn5, mn6, mn7, mn8, mn9, mn10, mn11, mn12, mn13, mn14, mn15, mn16, mn17, mn18, mn19, mn20, mn21, mn22, mr1, mr6, mr7, mr8, mr9, mr10, mr21, mr22, mr23, mr25, mr26, mr29, mr30, mr32, mr33, mr34, mr43, mr47, mr53, mr54, mr55, mr56, hN.2.1, m_isInN, bI_0]
  refine ⟨fun c => ⟨⟨fun i hi e => absurd (z_ix_e (by omega) |>.mpr ⟨i, hi, e⟩) c, fun _ => rfl⟩, m_fr.t0⟩, fun c => ?_⟩
  obtain ⟨i, hi, rfl⟩ := (z_ix_e (by omega)).mp (Classical.not_not.mp c)
  simp (disch := first | assumption | omega) only [p_some, p_gd, p_br, p_bi, p_nm, p_mp, p_Sl, p_Sr, p_bis, p_gdt, q_IL, q_IR, q_LI, q_LR, q_RI, q_RL, q_KI, q_KL, q_KR, q_NI, q_NL, q_NR, q_nI, q_nL, q_nR, q_okI, q_okL, q_okR, q_Ie, q_In, q_Le, q_Ln, SM_I, SM_L, r_lit, r_litL, r_m1, nI_add, nI_1, nI_clamp, nI_leI, nI_ltI, nI_eq, pk_sub, q_ix, nI_l, lN_add, lN_mul, r_m1n, r_m1n', r_m1lt, r_m1nlt, r_m1le, r_m1nle, true_and, and_true, true_implies, false_implies, not_true_eq_false, not_false_eq_true, implies_true, and_self, ne_eq, decide_true, decide_false, Bool.not_true, Bool.not_false, if_true, if_false, reduceIte, mk0, mk1, mk2, mk3, mk4, mk5, mk6, mk7, mk8, mk9, mk10, mk11, mk12, mk13, mk14, mk15, mk16, mk17, mk18, mk19, mk20, mk21, mk22, mn1, mn2, mn3, mn4, mn5, mn6, mn7, mn8, mn9, mn10, mn11, mn12, mn13, mn14, mn15, mn16, mn17, mn18, mn19, mn20, mn21, mn22, mr1, mr6, mr7, mr8, mr9, mr10, mr21, mr22, mr23, mr25, mr26, mr29, mr30, mr32, mr33, mr34, mr43, mr47, mr53, mr54, mr55, mr56, hN.2.2 i hi]
  refine ⟨⟨fun j hj e => ?_, fun q => absurd (Classical.not_not.mp c) q⟩, m_fr.t0⟩
  rw [nI_eq (by omega) (by omega)] at e
  rw [e]
theorem m_stays {h : z_T} {bk ans : Nat → Nat} {n : Nat} (s : SM h) (b : BOK bk) (hN : mNi h bk n ans) (hn : n ≤ 12) (ha : ∀ i, i < n → ans i < 2 * bk 0) (x y : Int32) :
    p_W (fX12_stays 0 x y h) (fun w => (∀ t, t < bk 0 → x = nI t → (y = m1 → w.1 = nI (a_od bk ans n 0 t)) ∧ (∀ d, d < bk 1 → y = nI d → w.1 = nI (a_od bk ans n (d + 1) t)) ∧ (y ≠ m1 → ¬ z_ix y (bk 1) = true → w.1 = m1)) ∧ (¬ z_ix x (bk 0) = true → w.1 = m1) ∧ m_fr mKp h w.2) := by
  have h0 := b.1
  have h1 := b.2.1
  have s1 : SM (z_sI h 0 0 (nI 0)) := s
  have hN1 : mNi (z_sI h 0 0 (nI 0)) bk n ans := hN.fr m_fr.t0 mKp2
  unfold fX12_stays
  simp (disch := first | assumption | omega) only [p_some, p_gd, p_br, p_bi, p_nm, p_mp, p_Sl, p_Sr, p_bis, p_gdt, q_IL, q_IR, q_LI, q_LR, q_RI, q_RL, q_KI, q_KL, q_KR, q_NI, q_NL, q_NR, q_nI, q_nL, q_nR, q_okI, q_okL, q_okR, q_Ie, q_In, q_Le, q_Ln, SM_I, SM_L, r_lit, r_litL, r_m1, nI_add, nI_1, nI_clamp, nI_leI, nI_ltI, nI_eq, pk_sub, q_ix, nI_l, lN_add, lN_mul, r_m1n, r_m1n', r_m1lt, r_m1nlt, r_m1le, r_m1nle, true_and, and_true, true_implies, false_implies, not_true_eq_false, not_false_eq_true, implies_true, and_self, ne_eq, decide_true, decide_false, Bool.not_true, Bool.not_false, if_true, if_false, reduceIte, mk0, mk1, mk2, mk3, mk4, mk5, mk6, mk7, mk8, mk9, mk10, mk11, mk12, mk13, mk14, mk15, mk16, mk17, mk18, mk19, mk20, mk21, mk22, mn1, mn2, mn3, mn4, mn5, mn6, mn7, mn8, mn9, mn10, mn11, mn12, mn13, mn14, mn15, mn16, mn17, mn18, mn19, mn20, mn21, mn22, mr1, mr6, mr7, mr8, mr9, mr10, mr21, mr22, mr23, mr25, mr26, mr29, mr30, mr32, mr33, mr34, mr43, mr47, mr53, mr54, mr55, mr56, m_isTest s1 b hN1.1, bI_0, m_isDream s1 b hN1.1]
  refine ⟨fun c => ⟨fun t ht e => absurd ((z_ix_e (by omega)).mpr ⟨t, ht, e⟩) c, fun _ => rfl, m_fr.t0⟩, fun c => ?_⟩
  obtain ⟨t, ht, rfl⟩ := (z_ix_e (by omega)).mp (Classical.not_not.mp c)
  have hu : ∀ t', t' < bk 0 → nI t = nI t' → t' = t := fun t' ht' e => by rw [nI_eq (by omega) (by omega)] at e; exact e.symm
  refine ⟨fun c2 => ?_, fun c2 => ⟨fun c3 => ?_, fun c3 => ?_⟩⟩
  · subst c2
    have e : m1 + nI 1 = nI 0 := rfl
    unfold fX12_stays_b26
    simp (disch := first | assumption | omega) only [p_some, p_gd, p_br, p_bi, p_nm, p_mp, p_Sl, p_Sr, p_bis, p_gdt, q_IL, q_IR, q_LI, q_LR, q_RI, q_RL, q_KI, q_KL, q_KR, q_NI, q_NL, q_NR, q_nI, q_nL, q_nR, q_okI, q_okL, q_okR, q_Ie, q_In, q_Le, q_Ln, SM_I, SM_L, r_lit, r_litL, r_m1, nI_add, nI_1, nI_clamp, nI_leI, nI_ltI, nI_eq, pk_sub, q_ix, nI_l, lN_add, lN_mul, r_m1n, r_m1n', r_m1lt, r_m1nlt, r_m1le, r_m1nle, true_and, and_true, true_implies, false_implies, not_true_eq_false, not_false_eq_true, implies_true, and_self, ne_eq, decide_true, decide_false, Bool.not_true, Bool.not_false, if_true, if_false, reduceIte, mk0, mk1, mk2, mk3, mk4, mk5, mk6, mk7, mk8, mk9, mk10, mk11, mk12, mk13, mk14, mk15, mk16, mk17, mk18, mk19, mk20, mk21, mk22, mn1, mn2, mn3, mn4, mn5, mn6, mn7, mn8, mn9, mn10, mn11, mn12, mn13, mn14, mn15, mn16, mn17, mn18, mn19, mn20, mn21, mn22, mr1, mr6, mr7, mr8, mr9, mr10, mr21, mr22, mr23, mr25, mr26, mr29, mr30, mr32, mr33, mr34, mr43, mr47, mr53, mr54, mr55, mr56, hN.2.1, e, m_oddsOf s1 b hN1.1 hN1.2.2 (fun i hi => by have := ha i hi; omega)]
    refine ⟨fun t' ht' e => ?_, fun q => absurd (Classical.not_not.mp c) q, m_fr.t0⟩
    rw [hu t' ht' e]
    exact ⟨fun _ => rfl, fun d hd e => absurd e (r_neg1' (by omega)), fun q => absurd rfl q⟩
  · unfold fX12_stays_b44
    simp (disch := first | assumption | omega) only [p_some, p_gd, p_br, p_bi, p_nm, p_mp, p_Sl, p_Sr, p_bis, p_gdt, true_and, and_true, true_implies, false_implies, not_true_eq_false, not_false_eq_true, implies_true, and_self, ne_eq, decide_true, decide_false, Bool.not_true, Bool.not_false, if_true, if_false, reduceIte]
    refine ⟨fun t' ht' e => ⟨fun q => absurd q c2, fun d hd e => absurd ((z_ix_e (by omega)).mpr ⟨d, hd, e⟩) c3, fun _ _ => rfl⟩, fun q => absurd (Classical.not_not.mp c) q, m_fr.t0⟩
  · obtain ⟨d, hd, rfl⟩ := (z_ix_e (by omega)).mp (Classical.not_not.mp c3)
    unfold fX12_stays_b26
    simp (disch := first | assumption | omega) only [p_some, p_gd, p_br, p_bi, p_nm, p_mp, p_Sl, p_Sr, p_bis, p_gdt, q_IL, q_IR, q_LI, q_LR, q_RI, q_RL, q_KI, q_KL, q_KR, q_NI, q_NL, q_NR, q_nI, q_nL, q_nR, q_okI, q_okL, q_okR, q_Ie, q_In, q_Le, q_Ln, SM_I, SM_L, r_lit, r_litL, r_m1, nI_add, nI_1, nI_clamp, nI_leI, nI_ltI, nI_eq, pk_sub, q_ix, nI_l, lN_add, lN_mul, r_m1n, r_m1n', r_m1lt, r_m1nlt, r_m1le, r_m1nle, true_and, and_true, true_implies, false_implies, not_true_eq_false, not_false_eq_true, implies_true, and_self, ne_eq, decide_true, decide_false, Bool.not_true, Bool.not_false, if_true, if_false, reduceIte, mk0, mk1, mk2, mk3, mk4, mk5, mk6, mk7, mk8, mk9, mk10, mk11, mk12, mk13, mk14, mk15, mk16, mk17, mk18, mk19, mk20, mk21, mk22, mn1, mn2, mn3, mn4, mn5, mn6, mn7, mn8, mn9, mn10, mn11, mn12, mn13, mn14, mn15, mn16, mn17, mn18, mn19, mn20, mn21, mn22, mr1, mr6, mr7, mr8, mr9, mr10, mr21, mr22, mr23, mr25, mr26, mr29, mr30, mr32, mr33, mr34, mr43, mr47, mr53, mr54, mr55, mr56, hN.2.1, m_oddsOf s1 b hN1.1 hN1.2.2 (fun i hi => by have := ha i hi; omega)]
    refine ⟨fun t' ht' e => ⟨fun q => absurd q c2, fun d' hd' e' => ?_, fun _ q => absurd (Classical.not_not.mp c3) q⟩, fun q => absurd (Classical.not_not.mp c) q, m_fr.t0⟩
    rw [nI_eq (by omega) (by omega)] at e'
    rw [hu t' ht' e, e']
theorem m_isUp {h : z_T} {bk ans : Nat → Nat} {n : Nat} (s : SM h) (b : BOK bk) (hN : mNi h bk n ans) (hn : n ≤ 12) (ha : ∀ i, i < n → ans i < 2 * bk 0) :
    p_W (fX12_isUp 0 h) (fun w => w.1 = bI (bk 6 * (a_all bk ans n - a_lk bk ans 0 n) ≤ bk 5 * a_lk bk ans 0 n) ∧ m_fr (fun o _ => o ≠ 7) h w.2) := by
  have h5 := b.2.2.2.2.2.1
  have h6 := b.2.2.2.2.2.2.1
  have ht : ∀ i, i < n → ans i / 2 < 8 := fun i hi => by have := ha i hi; have := b.1; omega
  have hb := b.allb hn ht
  have hr := a_all_room (bk := bk) (ans := ans) (n := n)
  have p1 : bk 6 * (a_all bk ans n - a_lk bk ans 0 n) ≤ 99 * 39540135107340 := Nat.mul_le_mul (by omega) (by omega)
  have p2 : bk 5 * a_lk bk ans 0 n ≤ 99 * 39540135107340 := Nat.mul_le_mul (by omega) (by omega)
  unfold fX12_isUp
  simp (disch := first | assumption | omega) only [p_some, p_gd, p_br, p_bi, p_nm, p_mp, p_Sl, p_Sr, p_bis, p_gdt, q_IL, q_IR, q_LI, q_LR, q_RI, q_RL, q_KI, q_KL, q_KR, q_NI, q_NL, q_NR, q_nI, q_nL, q_nR, q_okI, q_okL, q_okR, q_Ie, q_In, q_Le, q_Ln, SM_I, SM_L, r_lit, r_litL, r_m1, nI_add, nI_1, nI_clamp, nI_leI, nI_ltI, nI_eq, pk_sub, q_ix, nI_l, lN_add, lN_mul, r_m1n, r_m1n', r_m1lt, r_m1nlt, r_m1le, r_m1nle, true_and, and_true, true_implies, false_implies, not_true_eq_false, not_false_eq_true, implies_true, and_self, ne_eq, decide_true, decide_false, Bool.not_true, Bool.not_false, if_true, if_false, reduceIte, mk0, mk1, mk2, mk3, mk4, mk5, mk6, mk7, mk8, mk9, mk10, mk11, mk12, mk13, mk14, mk15, mk16, mk17, mk18, mk19, mk20, mk21, mk22, mn1, mn2, mn3, mn4, mn5, mn6, mn7, mn8, mn9, mn10, mn11, mn12, mn13, mn14, mn15, mn16, mn17, mn18, mn19, mn20, mn21, mn22, mr1, mr6, mr7, mr8, mr9, mr10, mr21, mr22, mr23, mr25, mr26, mr29, mr30, mr32, mr33, mr34, mr43, mr47, mr53, mr54, mr55, mr56, hN.2.1]
  refine p_monoP (m_likes s b hN.1 hN.2.2 ha (by omega)) (fun r h1 hq => ?_)
  obtain ⟨e1, f, hj⟩ := hq
  dsimp only at e1 f hj
  subst e1
  have s1 := f.s s
  have hB1 := mB.fr f (fun k => by decide) hN.1
  have e7 := hj 0 (Nat.zero_le _)
  have eL : ((0 : Nat)) = 0 := rfl
  simp (disch := first | assumption | omega) only [p_some, p_gd, p_br, p_bi, p_nm, p_mp, p_Sl, p_Sr, p_bis, p_gdt, q_IL, q_IR, q_LI, q_LR, q_RI, q_RL, q_KI, q_KL, q_KR, q_NI, q_NL, q_NR, q_nI, q_nL, q_nR, q_okI, q_okL, q_okR, q_Ie, q_In, q_Le, q_Ln, SM_I, SM_L, r_lit, r_litL, r_m1, nI_add, nI_1, nI_clamp, nI_leI, nI_ltI, nI_eq, pk_sub, q_ix, nI_l, lN_add, lN_mul, r_m1n, r_m1n', r_m1lt, r_m1nlt, r_m1le, r_m1nle, true_and, and_true, true_implies, false_implies, not_true_eq_false, not_false_eq_true, implies_true, and_self, ne_eq, decide_true, decide_false, Bool.not_true, Bool.not_false, if_true, if_false, reduceIte, mk0, mk1, mk2, mk3, mk4, mk5, mk6, mk7, mk8, mk9, mk10, mk11, mk12, mk13, mk14, mk15, mk16, mk17, mk18, mk19, mk20, mk21, mk22, mn1, mn2, mn3, mn4, mn5, mn6, mn7, mn8, mn9, mn10, mn11, mn12, mn13, mn14, mn15, mn16, mn17, mn18, mn19, mn20, mn21, mn22, mr1, mr6, mr7, mr8, mr9, mr10, mr21, mr22, mr23, mr25, mr26, mr29, mr30, mr32, mr33, mr34, mr43, mr47, mr53, mr54, mr55, mr56, hB1 6 (by decide), hB1 5 (by decide), e7, lN_sub]
  refine ⟨fun c => ⟨?_, f⟩, fun c => ⟨?_, f⟩⟩
  · rw [r_cmpg0, r_lt (by omega) (by omega)] at c
    rw [bI_f (by omega)]
  · rw [r_cmpg0, r_lt (by omega) (by omega)] at c
    rw [bI_t (by omega)]
theorem m_up {h : z_T} {bk ans : Nat → Nat} {n : Nat} (s : SM h) (b : BOK bk) (hN : mNi h bk n ans) (hn : n ≤ 12) (ha : ∀ i, i < n → ans i < 2 * bk 0) :
    p_W (fX12_up 0 h) (fun w => w.1 = bI (bk 6 * (a_all bk ans n - a_lk bk ans 0 n) ≤ bk 5 * a_lk bk ans 0 n) ∧ m_fr mKp h w.2) := by
  have s1 : SM (z_sI h 0 0 (nI 0)) := s
  have hN1 : mNi (z_sI h 0 0 (nI 0)) bk n ans := hN.fr m_fr.t0 mKp2
  unfold fX12_up
  simp (disch := first | assumption | omega) only [p_some, p_gd, p_br, p_bi, p_nm, p_mp, p_Sl, p_Sr, p_bis, p_gdt, q_IL, q_IR, q_LI, q_LR, q_RI, q_RL, q_KI, q_KL, q_KR, q_NI, q_NL, q_NR, q_nI, q_nL, q_nR, q_okI, q_okL, q_okR, q_Ie, q_In, q_Le, q_Ln, SM_I, SM_L, r_lit, r_litL, r_m1, nI_add, nI_1, nI_clamp, nI_leI, nI_ltI, nI_eq, pk_sub, q_ix, nI_l, lN_add, lN_mul, r_m1n, r_m1n', r_m1lt, r_m1nlt, r_m1le, r_m1nle, true_and, and_true, true_implies, false_implies, not_true_eq_false, not_false_eq_true, implies_true, and_self, ne_eq, decide_true, decide_false, Bool.not_true, Bool.not_false, if_true, if_false, reduceIte, mk0, mk1, mk2, mk3, mk4, mk5, mk6, mk7, mk8, mk9, mk10, mk11, mk12, mk13, mk14, mk15, mk16, mk17, mk18, mk19, mk20, mk21, mk22, mn1, mn2, mn3, mn4, mn5, mn6, mn7, mn8, mn9, mn10, mn11, mn12, mn13, mn14, mn15, mn16, mn17, mn18, mn19, mn20, mn21, mn22, mr1, mr6, mr7, mr8, mr9, mr10, mr21, mr22, mr23, mr25, mr26, mr29, mr30, mr32, mr33, mr34, mr43, mr47, mr53, mr54, mr55, mr56]
  refine p_monoP (m_isUp s1 b hN1 hn ha) (fun r h1 hq => ?_)
  obtain ⟨e1, f⟩ := hq
  dsimp only at e1 f
  subst e1
  simp (disch := first | assumption | omega) only [p_some, p_gd, p_br, p_bi, p_nm, p_mp, p_Sl, p_Sr, p_bis, p_gdt, true_and, and_true, true_implies, false_implies, not_true_eq_false, not_false_eq_true, implies_true, and_self, ne_eq, decide_true, decide_false, Bool.not_true, Bool.not_false, if_true, if_false, reduceIte, bI_0, r_lit]
  exact ⟨fun c => ⟨(bI_f c).symm, m_fr.t0.tr f.k7⟩, fun c => ⟨(bI_t (Classical.not_not.mp c)).symm, m_fr.t0.tr f.k7⟩⟩
theorem m_throwsIf {h : z_T} (s : SM h) {p : Prop} [Decidable p] : fX12_throwsIf 0 (bI p) h = some (bI p, z_sI h 0 0 (bI p)) := by
  refine p_of ?_
  unfold fX12_throwsIf fX12_throwsIf_b10
  simp (disch := first | assumption | omega) only [p_some, p_gd, p_br, p_bi, p_nm, p_mp, p_Sl, p_Sr, p_bis, p_gdt, q_IL, q_IR, q_LI, q_LR, q_RI, q_RL, q_KI, q_KL, q_KR, q_NI, q_NL, q_NR, q_nI, q_nL, q_nR, q_okI, q_okL, q_okR, q_Ie, q_In, q_Le, q_Ln, SM_I, SM_L, r_lit, r_litL, r_m1, nI_add, nI_1, nI_clamp, nI_leI, nI_ltI, nI_eq, pk_sub, q_ix, nI_l, lN_add, lN_mul, r_m1n, r_m1n', r_m1lt, r_m1nlt, r_m1le, r_m1nle, true_and, and_true, true_implies, false_implies, not_true_eq_false, not_false_eq_true, implies_true, and_self, ne_eq, decide_true, decide_false, Bool.not_true, Bool.not_false, if_true, if_false, reduceIte, mk0, mk1, mk2, mk3, mk4, mk5, mk6, mk7, mk8, mk9, mk10, mk11, mk12, mk13, mk14, mk15, mk16, mk17, mk18, mk19, mk20, mk21, mk22, mn1, mn2, mn3, mn4, mn5, mn6, mn7, mn8, mn9, mn10, mn11, mn12, mn13, mn14, mn15, mn16, mn17, mn18, mn19, mn20, mn21, mn22, mr1, mr6, mr7, mr8, mr9, mr10, mr21, mr22, mr23, mr25, mr26, mr29, mr30, mr32, mr33, mr34, mr43, mr47, mr53, mr54, mr55, mr56, bI_0, bI_y]
  refine ⟨fun c => ?_, fun c => ?_⟩
  · rw [bI_f c]
  · rw [bI_t (Classical.not_not.mp c)]
