/-! the reference: acts of a night -/
/-- what of the reference's heap is its state: all else is scratch -/
def mKp (o k : Nat) : Prop := (o = 0 ∧ (k = 2 ∨ k = 15 ∨ k = 24 ∨ k = 31 ∨ k = 44)) ∨ o = 1 ∨ o = 2 ∨ (o = 5 ∧ k < 14) ∨ o = 6 ∨ o = 8 ∨ o = 12 ∨ o = 17 ∨ o = 20 ∨ o = 21 ∨ o = 22
theorem mKp0 {k : Nat} (h : k ≠ 2 ∧ k ≠ 15 ∧ k ≠ 24 ∧ k ≠ 31 ∧ k ≠ 44) : ¬ mKp 0 k := by unfold mKp; omega
theorem mKp7 {k : Nat} : ¬ mKp 7 k := by unfold mKp; omega
theorem m_fr.k7 {h h' : z_T} (f : m_fr (fun o _ => o ≠ 7) h h') : m_fr mKp h h' := f.w (fun o k c e => by subst e; exact mKp7 c)
theorem m_fr.t0 {h : z_T} {v : Int32} : m_fr mKp h (z_sI h 0 0 v) := m_fr.rf.sI (mKp0 (by omega))
theorem mB.fr {h h' : z_T} {bk : Nat → Nat} {C : Nat → Nat → Prop} (f : m_fr C h h') (hc : ∀ k, C 2 k) (hB : mB h bk) : mB h' bk := fun k hk => (f.I 2 k (hc k)).trans (hB k hk)
theorem mA.fr {h h' : z_T} {ans : Nat → Nat} {m : Nat} {C : Nat → Nat → Prop} (f : m_fr C h h') (hc : ∀ k, C 2 k) (hA : mA h m ans) : mA h' m ans := fun k hk => (f.I 2 (37 + k) (hc _)).trans (hA k hk)
theorem mKp2 (k : Nat) : mKp 2 k := by unfold mKp; omega
/-- the night of the reference: n answers -/
def mNi (h : z_T) (bk : Nat → Nat) (n : Nat) (ans : Nat → Nat) : Prop := mB h bk ∧ z_I h 2 36 = nI n ∧ mA h n ans
theorem mNi.fr {h h' : z_T} {bk ans : Nat → Nat} {n : Nat} {C : Nat → Nat → Prop} (f : m_fr C h h') (hc : ∀ k, C 2 k) (hN : mNi h bk n ans) : mNi h' bk n ans := ⟨mB.fr f hc hN.1, (f.I 2 36 (hc _)).trans hN.2.1, mA.fr f hc hN.2.2⟩
theorem mNi.t0 {h : z_T} {bk ans : Nat → Nat} {n : Nat} {v : Int32} (hN : mNi h bk n ans) : mNi (z_sI h 0 0 v) bk n ans := hN.fr m_fr.t0 mKp2
theorem z_ixn {x : Int32} {n : Nat} (h : ¬ ¬ z_ix x n = true) (hn : n < 2 ^ 31) : ∃ t, t < n ∧ x = nI t := (z_ix_e hn).mp (Classical.not_not.mp h)
theorem m_fault {h : z_T} {Q : Int32 × z_T → Prop} (s : SM h) (k : ∀ h', m_fr mKp h h' → Q (z_I h 0 15, h')) : p_W (fX12_fault 0 h) Q := by
  unfold fX12_fault
  simp (disch := first | assumption | omega) only [p_some, p_gd, p_br, p_bi, p_nm, p_mp, p_Sl, p_Sr, p_bis, p_gdt, q_IL, q_IR, q_LI, q_LR, q_RI, q_RL, q_KI, q_KL, q_KR, q_NI, q_NL, q_NR, q_nI, q_nL, q_nR, q_okI, q_okL, q_okR, q_Ie, q_In, q_Le, q_Ln, SM_I, SM_L, s_c0, s_cg0, s_cl0, s_cge, s_cle, r_le, r_lt, r_eq, r_md, r_2, r_3, r_lit, r_litL, r_m1, nI_add, nI_1, nI_clamp, nI_leI, nI_ltI, nI_eq, pk_sub, q_ix, nI_l, lN_add, lN_mul, r_m1n, r_m1n', r_m1lt, r_m1nlt, r_m1le, r_m1nle, Nat.not_lt_zero, Nat.reduceEqDiff, Nat.reduceLT, Nat.reduceLeDiff, true_and, and_true, true_implies, false_implies, not_true_eq_false, not_false_eq_true, implies_true, and_self, ne_eq, decide_true, decide_false, Bool.not_true, Bool.not_false, if_true, if_false, reduceIte, mk0, mk1, mk2, mk3, mk4, mk5, mk6, mk7, mk8, mk9, mk10, mk11, mk12, mk13, mk14, mk15, mk16, mk17, mk18, mk19, mk20, mk21, mk22, mn1, mn2, mn3, mn4, mn5, mn6, mn7, mn8, mn9, mn10, mn11, mn12, mn13, mn14, mn15, mn16, mn17, mn18, mn19, mn20, mn21, mn22, mr1, mr6, mr7, mr8, mr9, mr10, mr21, mr22, mr23, mr25, mr26, mr29, mr30, mr32, mr33, mr34, mr43, mr47, mr53, mr54, mr55, mr56]
  exact k _ m_fr.t0
def a_answer (ans : Nat → Nat) (n : Nat) (x : Int32) : Int32 := if z_ix x n = true then nI (ans x.toNatClampNeg) else m1
theorem m_answer {h : z_T} {bk ans : Nat → Nat} {n : Nat} {Q : Int32 × z_T → Prop} (s : SM h) (hN : mNi h bk n ans) (hn : n ≤ 12) (x : Int32) (k : ∀ h', m_fr mKp h h' → Q (a_answer ans n x, h')) : p_W (fX12_answer 0 x h) Q := by
  unfold fX12_answer
  simp (disch := first | assumption | omega) only [p_some, p_gd, p_br, p_bi, p_nm, p_mp, p_Sl, p_Sr, p_bis, p_gdt, q_IL, q_IR, q_LI, q_LR, q_RI, q_RL, q_KI, q_KL, q_KR, q_NI, q_NL, q_NR, q_nI, q_nL, q_nR, q_okI, q_okL, q_okR, q_Ie, q_In, q_Le, q_Ln, SM_I, SM_L, s_c0, s_cg0, s_cl0, s_cge, s_cle, r_le, r_lt, r_eq, r_md, r_2, r_3, r_lit, r_litL, r_m1, nI_add, nI_1, nI_clamp, nI_leI, nI_ltI, nI_eq, pk_sub, q_ix, nI_l, lN_add, lN_mul, r_m1n, r_m1n', r_m1lt, r_m1nlt, r_m1le, r_m1nle, Nat.not_lt_zero, Nat.reduceEqDiff, Nat.reduceLT, Nat.reduceLeDiff, true_and, and_true, true_implies, false_implies, not_true_eq_false, not_false_eq_true, implies_true, and_self, ne_eq, decide_true, decide_false, Bool.not_true, Bool.not_false, if_true, if_false, reduceIte, mk0, mk1, mk2, mk3, mk4, mk5, mk6, mk7, mk8, mk9, mk10, mk11, mk12, mk13, mk14, mk15, mk16, mk17, mk18, mk19, mk20, mk21, mk22, mn1, mn2, mn3, mn4, mn5, mn6, mn7, mn8, mn9, mn10, mn11, mn12, mn13, mn14, mn15, mn16, mn17, mn18, mn19, mn20, mn21, mn22, mr1, mr6, mr7, mr8, mr9, mr10, mr21, mr22, mr23, mr25, mr26, mr29, mr30, mr32, mr33, mr34, mr43, mr47, mr53, mr54, mr55, mr56, hN.2.1, m_isInN, bI_0]
  unfold a_answer at k
  refine ⟨fun c => ?_, fun c => ?_⟩
  · rw [if_neg c] at k
    exact k _ m_fr.t0
  · rw [if_pos (Classical.not_not.mp c)] at k
    obtain ⟨i, hi, rfl⟩ := z_ixn c (by omega)
    rw [nI_clamp (by omega)] at k
    simp (disch := first | assumption | omega) only [p_some, p_gd, p_br, p_bi, p_nm, p_mp, p_Sl, p_Sr, p_bis, p_gdt, q_IL, q_IR, q_LI, q_LR, q_RI, q_RL, q_KI, q_KL, q_KR, q_NI, q_NL, q_NR, q_nI, q_nL, q_nR, q_okI, q_okL, q_okR, q_Ie, q_In, q_Le, q_Ln, SM_I, SM_L, s_c0, s_cg0, s_cl0, s_cge, s_cle, r_le, r_lt, r_eq, r_md, r_2, r_3, r_lit, r_litL, r_m1, nI_add, nI_1, nI_clamp, nI_leI, nI_ltI, nI_eq, pk_sub, q_ix, nI_l, lN_add, lN_mul, r_m1n, r_m1n', r_m1lt, r_m1nlt, r_m1le, r_m1nle, Nat.not_lt_zero, Nat.reduceEqDiff, Nat.reduceLT, Nat.reduceLeDiff, true_and, and_true, true_implies, false_implies, not_true_eq_false, not_false_eq_true, implies_true, and_self, ne_eq, decide_true, decide_false, Bool.not_true, Bool.not_false, if_true, if_false, reduceIte, mk0, mk1, mk2, mk3, mk4, mk5, mk6, mk7, mk8, mk9, mk10, mk11, mk12, mk13, mk14, mk15, mk16, mk17, mk18, mk19, mk20, mk21, mk22, mn1, mn2, mn3, mn4, mn5, mn6, mn7, mn8, mn9, mn10, mn11, mn12, mn13, mn14, mn15, mn16, mn17, mn18, mn19, mn20, mn21, mn22, mr1, mr6, mr7, mr8, mr9, mr10, mr21, mr22, mr23, mr25, mr26, mr29, mr30, mr32, mr33, mr34, mr43, mr47, mr53, mr54, mr55, mr56, hN.2.2 i hi]
    exact k _ m_fr.t0
def a_stays (bk ans : Nat → Nat) (n : Nat) (x y : Int32) : Int32 := if z_ix x (bk 0) = true then (if y = m1 then nI (a_od bk ans n 0 x.toNatClampNeg) else if z_ix y (bk 1) = true then nI (a_od bk ans n (y.toNatClampNeg + 1) x.toNatClampNeg) else m1) else m1
theorem m_stays {h : z_T} {bk ans : Nat → Nat} {n : Nat} {Q : Int32 × z_T → Prop} (s : SM h) (b : BOK bk) (hN : mNi h bk n ans) (hn : n ≤ 12) (ha : ∀ i, i < n → ans i < 2 * bk 0) (x y : Int32)
    (k : ∀ h', m_fr mKp h h' → Q (a_stays bk ans n x y, h')) : p_W (fX12_stays 0 x y h) Q := by
  have h0 := b.1
  have h1 := b.2.1
  have s1 : SM (z_sI h 0 0 (nI 0)) := s
  have hN1 : mNi (z_sI h 0 0 (nI 0)) bk n ans := hN.t0
  have hod : ∀ q t, q < 7 → t < 8 → fX12_oddsOf 0 (nI q) (nI t) (nI n) (z_sI h 0 0 (nI 0)) = some (nI (a_od bk ans n q t)) := fun q t hq ht => m_oddsOf s1 b hN1.1 hN1.2.2 (fun i hi => by have := ha i hi; omega) (by omega) hq ht
  unfold fX12_stays fX12_stays_b44
  simp (disch := first | assumption | omega) only [p_some, p_gd, p_br, p_bi, p_nm, p_mp, p_Sl, p_Sr, p_bis, p_gdt, q_IL, q_IR, q_LI, q_LR, q_RI, q_RL, q_KI, q_KL, q_KR, q_NI, q_NL, q_NR, q_nI, q_nL, q_nR, q_okI, q_okL, q_okR, q_Ie, q_In, q_Le, q_Ln, SM_I, SM_L, s_c0, s_cg0, s_cl0, s_cge, s_cle, r_le, r_lt, r_eq, r_md, r_2, r_3, r_lit, r_litL, r_m1, nI_add, nI_1, nI_clamp, nI_leI, nI_ltI, nI_eq, pk_sub, q_ix, nI_l, lN_add, lN_mul, r_m1n, r_m1n', r_m1lt, r_m1nlt, r_m1le, r_m1nle, Nat.not_lt_zero, Nat.reduceEqDiff, Nat.reduceLT, Nat.reduceLeDiff, true_and, and_true, true_implies, false_implies, not_true_eq_false, not_false_eq_true, implies_true, and_self, ne_eq, decide_true, decide_false, Bool.not_true, Bool.not_false, if_true, if_false, reduceIte, mk0, mk1, mk2, mk3, mk4, mk5, mk6, mk7, mk8, mk9, mk10, mk11, mk12, mk13, mk14, mk15, mk16, mk17, mk18, mk19, mk20, mk21, mk22, mn1, mn2, mn3, mn4, mn5, mn6, mn7, mn8, mn9, mn10, mn11, mn12, mn13, mn14, mn15, mn16, mn17, mn18, mn19, mn20, mn21, mn22, mr1, mr6, mr7, mr8, mr9, mr10, mr21, mr22, mr23, mr25, mr26, mr29, mr30, mr32, mr33, mr34, mr43, mr47, mr53, mr54, mr55, mr56, m_isTest s1 b hN1.1, bI_0, m_isDream s1 b hN1.1]
  unfold a_stays at k
  refine ⟨fun c => ?_, fun c => ?_⟩
  · rw [if_neg c] at k
    exact k _ m_fr.t0
  · rw [if_pos (Classical.not_not.mp c)] at k
    obtain ⟨t, ht, rfl⟩ := z_ixn c (by omega)
    rw [nI_clamp (by omega)] at k
    refine ⟨fun c2 => ?_, fun c2 => ⟨fun c3 => ?_, fun c3 => ?_⟩⟩
    · rw [if_pos c2] at k
      subst c2
      have e : m1 + nI 1 = nI 0 := rfl
      unfold fX12_stays_b26
      simp (disch := first | assumption | omega) only [p_some, p_gd, p_br, p_bi, p_nm, p_mp, p_Sl, p_Sr, p_bis, p_gdt, q_IL, q_IR, q_LI, q_LR, q_RI, q_RL, q_KI, q_KL, q_KR, q_NI, q_NL, q_NR, q_nI, q_nL, q_nR, q_okI, q_okL, q_okR, q_Ie, q_In, q_Le, q_Ln, SM_I, SM_L, s_c0, s_cg0, s_cl0, s_cge, s_cle, r_le, r_lt, r_eq, r_md, r_2, r_3, r_lit, r_litL, r_m1, nI_add, nI_1, nI_clamp, nI_leI, nI_ltI, nI_eq, pk_sub, q_ix, nI_l, lN_add, lN_mul, r_m1n, r_m1n', r_m1lt, r_m1nlt, r_m1le, r_m1nle, Nat.not_lt_zero, Nat.reduceEqDiff, Nat.reduceLT, Nat.reduceLeDiff, true_and, and_true, true_implies, false_implies, not_true_eq_false, not_false_eq_true, implies_true, and_self, ne_eq, decide_true, decide_false, Bool.not_true, Bool.not_false, if_true, if_false, reduceIte, mk0, mk1, mk2, mk3, mk4, mk5, mk6, mk7, mk8, mk9, mk10, mk11, mk12, mk13, mk14, mk15, mk16, mk17, mk18, mk19, mk20, mk21, mk22, mn1, mn2, mn3, mn4, mn5, mn6, mn7, mn8, mn9, mn10, mn11, mn12, mn13, mn14, mn15, mn16, mn17, mn18, mn19, mn20, mn21, mn22, mr1, mr6, mr7, mr8, mr9, mr10, mr21, mr22, mr23, mr25, mr26, mr29, mr30, mr32, mr33, mr34, mr43, mr47, mr53, mr54, mr55, mr56, hN.2.1, e, hod]
      exact k _ m_fr.t0
    · rw [if_neg c2, if_neg c3] at k
      exact k _ m_fr.t0
    · rw [if_neg c2, if_pos (Classical.not_not.mp c3)] at k
      obtain ⟨d, hd, rfl⟩ := z_ixn c3 (by omega)
      rw [nI_clamp (by omega)] at k
      unfold fX12_stays_b26
      simp (disch := first | assumption | omega) only [p_some, p_gd, p_br, p_bi, p_nm, p_mp, p_Sl, p_Sr, p_bis, p_gdt, q_IL, q_IR, q_LI, q_LR, q_RI, q_RL, q_KI, q_KL, q_KR, q_NI, q_NL, q_NR, q_nI, q_nL, q_nR, q_okI, q_okL, q_okR, q_Ie, q_In, q_Le, q_Ln, SM_I, SM_L, s_c0, s_cg0, s_cl0, s_cge, s_cle, r_le, r_lt, r_eq, r_md, r_2, r_3, r_lit, r_litL, r_m1, nI_add, nI_1, nI_clamp, nI_leI, nI_ltI, nI_eq, pk_sub, q_ix, nI_l, lN_add, lN_mul, r_m1n, r_m1n', r_m1lt, r_m1nlt, r_m1le, r_m1nle, Nat.not_lt_zero, Nat.reduceEqDiff, Nat.reduceLT, Nat.reduceLeDiff, true_and, and_true, true_implies, false_implies, not_true_eq_false, not_false_eq_true, implies_true, and_self, ne_eq, decide_true, decide_false, Bool.not_true, Bool.not_false, if_true, if_false, reduceIte, mk0, mk1, mk2, mk3, mk4, mk5, mk6, mk7, mk8, mk9, mk10, mk11, mk12, mk13, mk14, mk15, mk16, mk17, mk18, mk19, mk20, mk21, mk22, mn1, mn2, mn3, mn4, mn5, mn6, mn7, mn8, mn9, mn10, mn11, mn12, mn13, mn14, mn15, mn16, mn17, mn18, mn19, mn20, mn21, mn22, mr1, mr6, mr7, mr8, mr9, mr10, mr21, mr22, mr23, mr25, mr26, mr29, mr30, mr32, mr33, mr34, mr43, mr47, mr53, mr54, mr55, mr56, hN.2.1, hod]
      exact k _ m_fr.t0
def a_up (bk ans : Nat → Nat) (n : Nat) : Prop := bk 6 * (a_all bk ans n - a_lk bk ans 0 n) ≤ bk 5 * a_lk bk ans 0 n
theorem a_up_b {bk ans : Nat → Nat} {n : Nat} (b : BOK bk) (hn : n ≤ 12) (ha : ∀ i, i < n → ans i < 2 * bk 0) : a_lk bk ans 0 n ≤ a_all bk ans n ∧ a_all bk ans n ≤ 39540135107340 ∧ bk 6 * (a_all bk ans n - a_lk bk ans 0 n) ≤ 99 * 39540135107340 ∧ bk 5 * a_lk bk ans 0 n ≤ 99 * 39540135107340 := by
  have h5 := b.2.2.2.2.2.1
  have h6 := b.2.2.2.2.2.2.1
  have ht : ∀ i, i < n → ans i / 2 < 8 := fun i hi => by have := ha i hi; have := b.1; omega
  have hb := b.allb hn ht
  have hr := a_all_room (bk := bk) (ans := ans) (n := n)
  exact ⟨hr, hb, Nat.mul_le_mul (by omega) (by omega), Nat.mul_le_mul (by omega) (by omega)⟩
theorem m_isUp {h : z_T} {bk ans : Nat → Nat} {n : Nat} {Q : Int32 × z_T → Prop} (s : SM h) (b : BOK bk) (hN : mNi h bk n ans) (hn : n ≤ 12) (ha : ∀ i, i < n → ans i < 2 * bk 0)
    (kt : ∀ h', m_fr (fun o _ => o ≠ 7) h h' → a_up bk ans n → Q (nI 1, h')) (kf : ∀ h', m_fr (fun o _ => o ≠ 7) h h' → ¬ a_up bk ans n → Q (nI 0, h')) : p_W (fX12_isUp 0 h) Q := by
  obtain ⟨b1, b2, b3, b4⟩ := a_up_b b hn ha
  have h5 := b.2.2.2.2.2.1
  have h6 := b.2.2.2.2.2.2.1
  unfold fX12_isUp
  simp (disch := first | assumption | omega) only [p_some, p_gd, p_br, p_bi, p_nm, p_mp, p_Sl, p_Sr, p_bis, p_gdt, q_IL, q_IR, q_LI, q_LR, q_RI, q_RL, q_KI, q_KL, q_KR, q_NI, q_NL, q_NR, q_nI, q_nL, q_nR, q_okI, q_okL, q_okR, q_Ie, q_In, q_Le, q_Ln, SM_I, SM_L, s_c0, s_cg0, s_cl0, s_cge, s_cle, r_le, r_lt, r_eq, r_md, r_2, r_3, r_lit, r_litL, r_m1, nI_add, nI_1, nI_clamp, nI_leI, nI_ltI, nI_eq, pk_sub, q_ix, nI_l, lN_add, lN_mul, r_m1n, r_m1n', r_m1lt, r_m1nlt, r_m1le, r_m1nle, Nat.not_lt_zero, Nat.reduceEqDiff, Nat.reduceLT, Nat.reduceLeDiff, true_and, and_true, true_implies, false_implies, not_true_eq_false, not_false_eq_true, implies_true, and_self, ne_eq, decide_true, decide_false, Bool.not_true, Bool.not_false, if_true, if_false, reduceIte, mk0, mk1, mk2, mk3, mk4, mk5, mk6, mk7, mk8, mk9, mk10, mk11, mk12, mk13, mk14, mk15, mk16, mk17, mk18, mk19, mk20, mk21, mk22, mn1, mn2, mn3, mn4, mn5, mn6, mn7, mn8, mn9, mn10, mn11, mn12, mn13, mn14, mn15, mn16, mn17, mn18, mn19, mn20, mn21, mn22, mr1, mr6, mr7, mr8, mr9, mr10, mr21, mr22, mr23, mr25, mr26, mr29, mr30, mr32, mr33, mr34, mr43, mr47, mr53, mr54, mr55, mr56, hN.2.1]
  refine m_likesQ s b hN.1 hN.2.2 ha (by omega) (fun h1 f hj => ?_)
  have s1 := f.s s
  have hB1 := mB.fr f (fun k => by decide) hN.1
  have e7 := hj 0 (Nat.zero_le _)
  simp (disch := first | assumption | omega) only [p_some, p_gd, p_br, p_bi, p_nm, p_mp, p_Sl, p_Sr, p_bis, p_gdt, q_IL, q_IR, q_LI, q_LR, q_RI, q_RL, q_KI, q_KL, q_KR, q_NI, q_NL, q_NR, q_nI, q_nL, q_nR, q_okI, q_okL, q_okR, q_Ie, q_In, q_Le, q_Ln, SM_I, SM_L, s_c0, s_cg0, s_cl0, s_cge, s_cle, r_le, r_lt, r_eq, r_md, r_2, r_3, r_lit, r_litL, r_m1, nI_add, nI_1, nI_clamp, nI_leI, nI_ltI, nI_eq, pk_sub, q_ix, nI_l, lN_add, lN_mul, r_m1n, r_m1n', r_m1lt, r_m1nlt, r_m1le, r_m1nle, Nat.not_lt_zero, Nat.reduceEqDiff, Nat.reduceLT, Nat.reduceLeDiff, true_and, and_true, true_implies, false_implies, not_true_eq_false, not_false_eq_true, implies_true, and_self, ne_eq, decide_true, decide_false, Bool.not_true, Bool.not_false, if_true, if_false, reduceIte, mk0, mk1, mk2, mk3, mk4, mk5, mk6, mk7, mk8, mk9, mk10, mk11, mk12, mk13, mk14, mk15, mk16, mk17, mk18, mk19, mk20, mk21, mk22, mn1, mn2, mn3, mn4, mn5, mn6, mn7, mn8, mn9, mn10, mn11, mn12, mn13, mn14, mn15, mn16, mn17, mn18, mn19, mn20, mn21, mn22, mr1, mr6, mr7, mr8, mr9, mr10, mr21, mr22, mr23, mr25, mr26, mr29, mr30, mr32, mr33, mr34, mr43, mr47, mr53, mr54, mr55, mr56, hB1 6 (by decide), hB1 5 (by decide), e7, lN_sub]
  refine ⟨fun c => kf _ f (by unfold a_up; omega), fun c => kt _ f (by unfold a_up; omega)⟩
theorem m_up {h : z_T} {bk ans : Nat → Nat} {n : Nat} {Q : Int32 × z_T → Prop} (s : SM h) (b : BOK bk) (hN : mNi h bk n ans) (hn : n ≤ 12) (ha : ∀ i, i < n → ans i < 2 * bk 0)
    (kt : ∀ h', m_fr mKp h h' → a_up bk ans n → Q (nI 1, h')) (kf : ∀ h', m_fr mKp h h' → ¬ a_up bk ans n → Q (nI 0, h')) : p_W (fX12_up 0 h) Q := by
  have s1 : SM (z_sI h 0 0 (nI 0)) := s
  unfold fX12_up
  simp (disch := first | assumption | omega) only [p_some, p_gd, p_br, p_bi, p_nm, p_mp, p_Sl, p_Sr, p_bis, p_gdt, q_IL, q_IR, q_LI, q_LR, q_RI, q_RL, q_KI, q_KL, q_KR, q_NI, q_NL, q_NR, q_nI, q_nL, q_nR, q_okI, q_okL, q_okR, q_Ie, q_In, q_Le, q_Ln, SM_I, SM_L, s_c0, s_cg0, s_cl0, s_cge, s_cle, r_le, r_lt, r_eq, r_md, r_2, r_3, r_lit, r_litL, r_m1, nI_add, nI_1, nI_clamp, nI_leI, nI_ltI, nI_eq, pk_sub, q_ix, nI_l, lN_add, lN_mul, r_m1n, r_m1n', r_m1lt, r_m1nlt, r_m1le, r_m1nle, Nat.not_lt_zero, Nat.reduceEqDiff, Nat.reduceLT, Nat.reduceLeDiff, true_and, and_true, true_implies, false_implies, not_true_eq_false, not_false_eq_true, implies_true, and_self, ne_eq, decide_true, decide_false, Bool.not_true, Bool.not_false, if_true, if_false, reduceIte, mk0, mk1, mk2, mk3, mk4, mk5, mk6, mk7, mk8, mk9, mk10, mk11, mk12, mk13, mk14, mk15, mk16, mk17, mk18, mk19, mk20, mk21, mk22, mn1, mn2, mn3, mn4, mn5, mn6, mn7, mn8, mn9, mn10, mn11, mn12, mn13, mn14, mn15, mn16, mn17, mn18, mn19, mn20, mn21, mn22, mr1, mr6, mr7, mr8, mr9, mr10, mr21, mr22, mr23, mr25, mr26, mr29, mr30, mr32, mr33, mr34, mr43, mr47, mr53, mr54, mr55, mr56]
  refine m_isUp s1 b hN.t0 hn ha (fun h1 f u => ?_) (fun h1 f u => ?_)
  · simp (disch := first | assumption | omega) only [p_some, p_gd, p_br, p_bi, p_nm, p_mp, p_Sl, p_Sr, p_bis, p_gdt, q_IL, q_IR, q_LI, q_LR, q_RI, q_RL, q_KI, q_KL, q_KR, q_NI, q_NL, q_NR, q_nI, q_nL, q_nR, q_okI, q_okL, q_okR, q_Ie, q_In, q_Le, q_Ln, SM_I, SM_L, s_c0, s_cg0, s_cl0, s_cge, s_cle, r_le, r_lt, r_eq, r_md, r_2, r_3, r_lit, r_litL, r_m1, nI_add, nI_1, nI_clamp, nI_leI, nI_ltI, nI_eq, pk_sub, q_ix, nI_l, lN_add, lN_mul, r_m1n, r_m1n', r_m1lt, r_m1nlt, r_m1le, r_m1nle, Nat.not_lt_zero, Nat.reduceEqDiff, Nat.reduceLT, Nat.reduceLeDiff, true_and, and_true, true_implies, false_implies, not_true_eq_false, not_false_eq_true, implies_true, and_self, ne_eq, decide_true, decide_false, Bool.not_true, Bool.not_false, if_true, if_false, reduceIte]
    exact kt _ (m_fr.t0.tr f.k7) u
  · simp (disch := first | assumption | omega) only [p_some, p_gd, p_br, p_bi, p_nm, p_mp, p_Sl, p_Sr, p_bis, p_gdt, q_IL, q_IR, q_LI, q_LR, q_RI, q_RL, q_KI, q_KL, q_KR, q_NI, q_NL, q_NR, q_nI, q_nL, q_nR, q_okI, q_okL, q_okR, q_Ie, q_In, q_Le, q_Ln, SM_I, SM_L, s_c0, s_cg0, s_cl0, s_cge, s_cle, r_le, r_lt, r_eq, r_md, r_2, r_3, r_lit, r_litL, r_m1, nI_add, nI_1, nI_clamp, nI_leI, nI_ltI, nI_eq, pk_sub, q_ix, nI_l, lN_add, lN_mul, r_m1n, r_m1n', r_m1lt, r_m1nlt, r_m1le, r_m1nle, Nat.not_lt_zero, Nat.reduceEqDiff, Nat.reduceLT, Nat.reduceLeDiff, true_and, and_true, true_implies, false_implies, not_true_eq_false, not_false_eq_true, implies_true, and_self, ne_eq, decide_true, decide_false, Bool.not_true, Bool.not_false, if_true, if_false, reduceIte]
    exact kf _ (m_fr.t0.tr f.k7) u
theorem m_throwsIf {h : z_T} (s : SM h) {p : Prop} [Decidable p] : fX12_throwsIf 0 (bI p) h = some (bI p, z_sI h 0 0 (bI p)) := by
  refine p_of ?_
  unfold fX12_throwsIf fX12_throwsIf_b10
  simp (disch := first | assumption | omega) only [p_some, p_gd, p_br, p_bi, p_nm, p_mp, p_Sl, p_Sr, p_bis, p_gdt, q_IL, q_IR, q_LI, q_LR, q_RI, q_RL, q_KI, q_KL, q_KR, q_NI, q_NL, q_NR, q_nI, q_nL, q_nR, q_okI, q_okL, q_okR, q_Ie, q_In, q_Le, q_Ln, SM_I, SM_L, s_c0, s_cg0, s_cl0, s_cge, s_cle, r_le, r_lt, r_eq, r_md, r_2, r_3, r_lit, r_litL, r_m1, nI_add, nI_1, nI_clamp, nI_leI, nI_ltI, nI_eq, pk_sub, q_ix, nI_l, lN_add, lN_mul, r_m1n, r_m1n', r_m1lt, r_m1nlt, r_m1le, r_m1nle, Nat.not_lt_zero, Nat.reduceEqDiff, Nat.reduceLT, Nat.reduceLeDiff, true_and, and_true, true_implies, false_implies, not_true_eq_false, not_false_eq_true, implies_true, and_self, ne_eq, decide_true, decide_false, Bool.not_true, Bool.not_false, if_true, if_false, reduceIte, mk0, mk1, mk2, mk3, mk4, mk5, mk6, mk7, mk8, mk9, mk10, mk11, mk12, mk13, mk14, mk15, mk16, mk17, mk18, mk19, mk20, mk21, mk22, mn1, mn2, mn3, mn4, mn5, mn6, mn7, mn8, mn9, mn10, mn11, mn12, mn13, mn14, mn15, mn16, mn17, mn18, mn19, mn20, mn21, mn22, mr1, mr6, mr7, mr8, mr9, mr10, mr21, mr22, mr23, mr25, mr26, mr29, mr30, mr32, mr33, mr34, mr43, mr47, mr53, mr54, mr55, mr56, bI_0, bI_y]
  refine ⟨fun c => ?_, fun c => ?_⟩
  · rw [bI_f c]
  · rw [bI_t (Classical.not_not.mp c)]
theorem m_throws0 {h : z_T} (s : SM h) : fX12_throwsIf 0 (nI 0) h = some (nI 0, z_sI h 0 0 (nI 0)) := m_throwsIf (p := False) s
theorem m_throws1 {h : z_T} (s : SM h) : fX12_throwsIf 0 (nI 1) h = some (nI 1, z_sI h 0 0 (nI 1)) := m_throwsIf (p := True) s
/-- what a call of the reference answers that may throw: thrown, or a value -/
def mTh (h' : z_T) (w : Option Int64) (v : Int64) : Prop := match w with
  | none => z_I h' 0 0 = nI 1
  | some x => z_I h' 0 0 = nI 0 ∧ v = x
def a_side (a b : Nat) (y : Int32) : Int64 := lN (a_pt a b y.toNatClampNeg)
def a_sure (bk ans : Nat → Nat) (n : Nat) (y : Int32) : Option Int64 := if z_ix y 2 = true then some (a_side (a_lk bk ans 0 n) (a_all bk ans n) y) else none
theorem m_sure {h : z_T} {bk ans : Nat → Nat} {n : Nat} {Q : Int64 × z_T → Prop} (s : SM h) (b : BOK bk) (hN : mNi h bk n ans) (hO : NOK bk ans n) (y : Int32)
    (k : ∀ v h', m_fr mKp h h' → mTh h' (a_sure bk ans n y) v → Q (v, h')) : p_W (fX12_sure 0 y h) Q := by
  have hn := hO.1
  have ha := hO.2.1
  obtain ⟨b1, b2, b3, b4⟩ := a_up_b b hn ha
  have hp := hO.2.2
  unfold a_sure at k
  unfold fX12_sure fX12_sure_b13
  simp (disch := first | assumption | omega) only [p_some, p_gd, p_br, p_bi, p_nm, p_mp, p_Sl, p_Sr, p_bis, p_gdt, q_IL, q_IR, q_LI, q_LR, q_RI, q_RL, q_KI, q_KL, q_KR, q_NI, q_NL, q_NR, q_nI, q_nL, q_nR, q_okI, q_okL, q_okR, q_Ie, q_In, q_Le, q_Ln, SM_I, SM_L, s_c0, s_cg0, s_cl0, s_cge, s_cle, r_le, r_lt, r_eq, r_md, r_2, r_3, r_lit, r_litL, r_m1, nI_add, nI_1, nI_clamp, nI_leI, nI_ltI, nI_eq, pk_sub, q_ix, nI_l, lN_add, lN_mul, r_m1n, r_m1n', r_m1lt, r_m1nlt, r_m1le, r_m1nle, Nat.not_lt_zero, Nat.reduceEqDiff, Nat.reduceLT, Nat.reduceLeDiff, true_and, and_true, true_implies, false_implies, not_true_eq_false, not_false_eq_true, implies_true, and_self, ne_eq, decide_true, decide_false, Bool.not_true, Bool.not_false, if_true, if_false, reduceIte, m_isPart, bI_0]
  refine ⟨fun c => ?_, fun c => ?_⟩
  · rw [if_neg c] at k
    simp (disch := first | assumption | omega) only [p_some, p_gd, p_br, p_bi, p_nm, p_mp, p_Sl, p_Sr, p_bis, p_gdt, q_IL, q_IR, q_LI, q_LR, q_RI, q_RL, q_KI, q_KL, q_KR, q_NI, q_NL, q_NR, q_nI, q_nL, q_nR, q_okI, q_okL, q_okR, q_Ie, q_In, q_Le, q_Ln, SM_I, SM_L, s_c0, s_cg0, s_cl0, s_cge, s_cle, r_le, r_lt, r_eq, r_md, r_2, r_3, r_lit, r_litL, r_m1, nI_add, nI_1, nI_clamp, nI_leI, nI_ltI, nI_eq, pk_sub, q_ix, nI_l, lN_add, lN_mul, r_m1n, r_m1n', r_m1lt, r_m1nlt, r_m1le, r_m1nle, Nat.not_lt_zero, Nat.reduceEqDiff, Nat.reduceLT, Nat.reduceLeDiff, true_and, and_true, true_implies, false_implies, not_true_eq_false, not_false_eq_true, implies_true, and_self, ne_eq, decide_true, decide_false, Bool.not_true, Bool.not_false, if_true, if_false, reduceIte, mk0, mk1, mk2, mk3, mk4, mk5, mk6, mk7, mk8, mk9, mk10, mk11, mk12, mk13, mk14, mk15, mk16, mk17, mk18, mk19, mk20, mk21, mk22, mn1, mn2, mn3, mn4, mn5, mn6, mn7, mn8, mn9, mn10, mn11, mn12, mn13, mn14, mn15, mn16, mn17, mn18, mn19, mn20, mn21, mn22, mr1, mr6, mr7, mr8, mr9, mr10, mr21, mr22, mr23, mr25, mr26, mr29, mr30, mr32, mr33, mr34, mr43, mr47, mr53, mr54, mr55, mr56, m_throws1 s]
    exact k _ _ m_fr.t0 (q_Ie rfl rfl)
  · rw [if_pos (Classical.not_not.mp c)] at k
    obtain ⟨w, hw, rfl⟩ := z_ixn c (by omega)
    unfold a_side at k
    rw [nI_clamp (by omega)] at k
    simp (disch := first | assumption | omega) only [p_some, p_gd, p_br, p_bi, p_nm, p_mp, p_Sl, p_Sr, p_bis, p_gdt, q_IL, q_IR, q_LI, q_LR, q_RI, q_RL, q_KI, q_KL, q_KR, q_NI, q_NL, q_NR, q_nI, q_nL, q_nR, q_okI, q_okL, q_okR, q_Ie, q_In, q_Le, q_Ln, SM_I, SM_L, s_c0, s_cg0, s_cl0, s_cge, s_cle, r_le, r_lt, r_eq, r_md, r_2, r_3, r_lit, r_litL, r_m1, nI_add, nI_1, nI_clamp, nI_leI, nI_ltI, nI_eq, pk_sub, q_ix, nI_l, lN_add, lN_mul, r_m1n, r_m1n', r_m1lt, r_m1nlt, r_m1le, r_m1nle, Nat.not_lt_zero, Nat.reduceEqDiff, Nat.reduceLT, Nat.reduceLeDiff, true_and, and_true, true_implies, false_implies, not_true_eq_false, not_false_eq_true, implies_true, and_self, ne_eq, decide_true, decide_false, Bool.not_true, Bool.not_false, if_true, if_false, reduceIte, mk0, mk1, mk2, mk3, mk4, mk5, mk6, mk7, mk8, mk9, mk10, mk11, mk12, mk13, mk14, mk15, mk16, mk17, mk18, mk19, mk20, mk21, mk22, mn1, mn2, mn3, mn4, mn5, mn6, mn7, mn8, mn9, mn10, mn11, mn12, mn13, mn14, mn15, mn16, mn17, mn18, mn19, mn20, mn21, mn22, mr1, mr6, mr7, mr8, mr9, mr10, mr21, mr22, mr23, mr25, mr26, mr29, mr30, mr32, mr33, mr34, mr43, mr47, mr53, mr54, mr55, mr56, m_throws0 s, hN.2.1]
    have s0 : SM (z_sI h 0 0 (nI 0)) := s
    refine m_likesQ s0 b hN.t0.1 hN.t0.2.2 ha (by omega) (fun h1 f hj => ?_)
    have s1 := f.s s0
    have e7 := hj 0 (Nat.zero_le _)
    simp (disch := first | assumption | omega) only [p_some, p_gd, p_br, p_bi, p_nm, p_mp, p_Sl, p_Sr, p_bis, p_gdt, q_IL, q_IR, q_LI, q_LR, q_RI, q_RL, q_KI, q_KL, q_KR, q_NI, q_NL, q_NR, q_nI, q_nL, q_nR, q_okI, q_okL, q_okR, q_Ie, q_In, q_Le, q_Ln, SM_I, SM_L, s_c0, s_cg0, s_cl0, s_cge, s_cle, r_le, r_lt, r_eq, r_md, r_2, r_3, r_lit, r_litL, r_m1, nI_add, nI_1, nI_clamp, nI_leI, nI_ltI, nI_eq, pk_sub, q_ix, nI_l, lN_add, lN_mul, r_m1n, r_m1n', r_m1lt, r_m1nlt, r_m1le, r_m1nle, Nat.not_lt_zero, Nat.reduceEqDiff, Nat.reduceLT, Nat.reduceLeDiff, true_and, and_true, true_implies, false_implies, not_true_eq_false, not_false_eq_true, implies_true, and_self, ne_eq, decide_true, decide_false, Bool.not_true, Bool.not_false, if_true, if_false, reduceIte, mk0, mk1, mk2, mk3, mk4, mk5, mk6, mk7, mk8, mk9, mk10, mk11, mk12, mk13, mk14, mk15, mk16, mk17, mk18, mk19, mk20, mk21, mk22, mn1, mn2, mn3, mn4, mn5, mn6, mn7, mn8, mn9, mn10, mn11, mn12, mn13, mn14, mn15, mn16, mn17, mn18, mn19, mn20, mn21, mn22, mr1, mr6, mr7, mr8, mr9, mr10, mr21, mr22, mr23, mr25, mr26, mr29, mr30, mr32, mr33, mr34, mr43, mr47, mr53, mr54, mr55, mr56, e7, m_part]
    exact k _ _ (m_fr.t0.tr f.k7) ⟨(f.I 0 0 (by decide)).trans (q_Ie rfl rfl), rfl⟩
