/-! the reference's best lot: the loops -/
def a_lP (bk : Nat → Nat) (m j : Nat) (w : Int64 × Int32 × Int32) : Prop := (w = (lN (a_sg bk m j), nI 1, nI j) ∧ 2 ≤ a_pc m ∧ ∀ i, i < j → m.testBit i = true → 0 < a_r bk i) ∨ ((∃ l, w = (l, nI 0, nI j)) ∧ ¬ a_vl bk m)
theorem a_lP_i {bk : Nat → Nat} {m j : Nat} {l : Int64} (e : l = lN (a_sg bk m j)) (h2 : 2 ≤ a_pc m) (h3 : ∀ i, i < j → m.testBit i = true → 0 < a_r bk i) : a_lP bk m j (l, nI 1, nI j) := Or.inl ⟨by rw [e], h2, h3⟩
theorem a_lP_n {bk : Nat → Nat} {m j : Nat} {l : Int64} (h : ¬ a_vl bk m) : a_lP bk m j (l, nI 0, nI j) := Or.inr ⟨⟨l, rfl⟩, h⟩
theorem m_lotNo {h : z_T} {m : Nat} {x2 : Int32} {l : Int64} {Q : (Int32 × z_T) ⊕ (Int32 × z_T) → Prop} (k0 : Q (.inl (nI (m + 1), h))) : p_W (fX12_hasLot_b133 0 (nI m) x2 l (nI 0) h) Q := by
  unfold fX12_hasLot_b133
  rw [p_brT (show nI 0 = 0 by decide)]
  unfold fX12_hasLot_b219
  simp (disch := first | assumption | omega) only [p_some, p_gd, p_br, p_bi, p_nm, p_mp, p_Sl, p_Sr, p_bis, p_gdt, Nat.not_lt_zero, Nat.reduceEqDiff, Nat.reduceLT, Nat.reduceLeDiff, true_and, and_true, true_implies, false_implies, not_true_eq_false, not_false_eq_true, implies_true, and_self, ne_eq, decide_true, decide_false, Bool.not_true, Bool.not_false, if_true, if_false, reduceIte, r_lit, nI_add, nI_1]
  exact k0
theorem m_lotIn {h : z_T} {bk : Nat → Nat} {m : Nat} {f : Int32} {Q : (Int32 × z_T) ⊕ (Int32 × z_T) → Prop} (s : SM h) (b : BOK bk) (hB : mB h bk) (hm : m < 2 ^ bk 0) (hf : (f = nI 1 ∧ 2 ≤ a_pc m) ∨ (f = nI 0 ∧ ¬ 2 ≤ a_pc m))
    (k0 : ¬ a_vl bk m → Q (.inl (nI (m + 1), h))) (k1 : a_vl bk m → p_W (fX12_hasLot_b133 0 (nI m) (nI (a_pc m)) (lN (a_sg bk m 8)) (nI 1) h) Q) :
    p_W (fX12_hasLot_b51 0 (nI m) (nI (a_pc m)) (lN 0) f (nI 0) h) Q := by
  have h8 := b.1
  have hp := a_2p b
  have hB0 := hB 0 (by decide)
  have init : a_lP bk m 0 (lN 0, f, nI 0) := by
    rcases hf with ⟨e, h2⟩ | ⟨e, h2⟩
    · rw [e]
      exact a_lP_i rfl h2 (fun i hi => absurd hi (Nat.not_lt_zero _))
    · rw [e]
      exact a_lP_n (fun v => h2 v.1)
  unfold fX12_hasLot_b51
  refine p_for (bk 0) (a_lP bk m) ?_ ?_ 0 (by omega) init
  · rintro j w hj (⟨e, h2, h3⟩ | ⟨⟨l, e⟩, hn⟩)
    · subst e
      have hr := b.m9 (t := j) (by omega)
      have er : a_r bk j = 9 - bk (16 + j) := rfl
      have ec : a_c bk j = 2520 / (9 - bk (16 + j)) := rfl
      have e1 : a_sg bk m (j + 1) = a_sg bk m j + (if m.testBit j = true then a_c bk j else 0) := rfl
      have nx : m.testBit j = true → 0 < a_r bk j → ∀ i, i < j + 1 → m.testBit i = true → 0 < a_r bk i := fun _ q2 i hi hi2 => by
        by_cases e : i = j
        · rw [e]; exact q2
        · exact h3 i (by omega) hi2
      unfold fX12_hasLot_b51_i
      dsimp only
      rw [p_gd]
      refine ⟨mk0 s, ?_⟩
      simp (disch := first | assumption | omega) only [p_some, p_gd, p_br, p_bi, p_nm, p_mp, p_Sl, p_Sr, p_bis, p_gdt, q_IL, q_IR, q_LI, q_LR, q_RI, q_RL, q_KI, q_KL, q_KR, q_NI, q_NL, q_NR, q_nI, q_nL, q_nR, q_okI, q_okL, q_okR, q_Ie, q_In, q_Le, q_Ln, SM_I, SM_L, s_c0, s_cg0, s_cl0, s_cge, s_cle, r_le, r_lt, r_eq, r_md, r_2, r_3, r_lit, r_litL, r_m1, nI_add, nI_1, nI_clamp, nI_leI, nI_ltI, nI_eq, pk_sub, q_ix, nI_l, lN_add, lN_mul, r_m1n, r_m1n', r_m1lt, r_m1nlt, r_m1le, r_m1nle, Nat.not_lt_zero, Nat.reduceEqDiff, Nat.reduceLT, Nat.reduceLeDiff, true_and, and_true, true_implies, false_implies, not_true_eq_false, not_false_eq_true, implies_true, and_self, ne_eq, decide_true, decide_false, Bool.not_true, Bool.not_false, if_true, if_false, reduceIte, mk0, mk1, mk2, mk3, mk4, mk5, mk6, mk7, mk8, mk9, mk10, mk11, mk12, mk13, mk14, mk15, mk16, mk17, mk18, mk19, mk20, mk21, mk22, mn1, mn2, mn3, mn4, mn5, mn6, mn7, mn8, mn9, mn10, mn11, mn12, mn13, mn14, mn15, mn16, mn17, mn18, mn19, mn20, mn21, mn22, mr1, mr6, mr7, mr8, mr9, mr10, mr21, mr22, mr23, mr25, mr26, mr29, mr30, mr32, mr33, mr34, mr43, mr47, mr53, mr54, mr55, mr56, hB0, hB, m_bitOf, bI_0, show ¬ bk 0 ≤ j by omega]
      refine ⟨fun c => ?_, fun c => ⟨fun c2 => ?_, fun c2 => ?_⟩⟩
      · unfold fX12_hasLot_b127
        simp (disch := first | assumption | omega) only [p_some, p_gd, p_br, p_bi, p_nm, p_mp, p_Sl, p_Sr, p_bis, p_gdt, Nat.not_lt_zero, Nat.reduceEqDiff, Nat.reduceLT, Nat.reduceLeDiff, true_and, and_true, true_implies, false_implies, not_true_eq_false, not_false_eq_true, implies_true, and_self, ne_eq, decide_true, decide_false, Bool.not_true, Bool.not_false, if_true, if_false, reduceIte, r_lit, nI_add, nI_1]
        refine a_lP_i ?_ h2 (fun i hi hi2 => ?_)
        · rw [e1, if_neg c]
          exact rfl
        · by_cases e : i = j
          · rw [e] at hi2; exact absurd hi2 c
          · exact h3 i (by omega) hi2
      · unfold fX12_hasLot_b99
        rw [p_brT (show nI 0 = 0 by decide)]
        unfold fX12_hasLot_b127
        simp (disch := first | assumption | omega) only [p_some, p_gd, p_br, p_bi, p_nm, p_mp, p_Sl, p_Sr, p_bis, p_gdt, Nat.not_lt_zero, Nat.reduceEqDiff, Nat.reduceLT, Nat.reduceLeDiff, true_and, and_true, true_implies, false_implies, not_true_eq_false, not_false_eq_true, implies_true, and_self, ne_eq, decide_true, decide_false, Bool.not_true, Bool.not_false, if_true, if_false, reduceIte, r_lit, nI_add, nI_1]
        refine a_lP_n (fun v => ?_)
        have := v.2 j (Classical.not_not.mp c)
        omega
      · have hd : ¬ 9 - bk (16 + j) = 0 := by omega
        unfold fX12_hasLot_b99
        rw [p_brF (show ¬ nI 1 = 0 by decide)]
        simp (disch := first | assumption | omega) only [p_some, p_gd, p_br, p_bi, p_nm, p_mp, p_Sl, p_Sr, p_bis, p_gdt, q_IL, q_IR, q_LI, q_LR, q_RI, q_RL, q_KI, q_KL, q_KR, q_NI, q_NL, q_NR, q_nI, q_nL, q_nR, q_okI, q_okL, q_okR, q_Ie, q_In, q_Le, q_Ln, SM_I, SM_L, s_c0, s_cg0, s_cl0, s_cge, s_cle, r_le, r_lt, r_eq, r_md, r_2, r_3, r_lit, r_litL, r_m1, nI_add, nI_1, nI_clamp, nI_leI, nI_ltI, nI_eq, pk_sub, q_ix, nI_l, lN_add, lN_mul, r_m1n, r_m1n', r_m1lt, r_m1nlt, r_m1le, r_m1nle, Nat.not_lt_zero, Nat.reduceEqDiff, Nat.reduceLT, Nat.reduceLeDiff, true_and, and_true, true_implies, false_implies, not_true_eq_false, not_false_eq_true, implies_true, and_self, ne_eq, decide_true, decide_false, Bool.not_true, Bool.not_false, if_true, if_false, reduceIte, mk0, mk1, mk2, mk3, mk4, mk5, mk6, mk7, mk8, mk9, mk10, mk11, mk12, mk13, mk14, mk15, mk16, mk17, mk18, mk19, mk20, mk21, mk22, mn1, mn2, mn3, mn4, mn5, mn6, mn7, mn8, mn9, mn10, mn11, mn12, mn13, mn14, mn15, mn16, mn17, mn18, mn19, mn20, mn21, mn22, mr1, mr6, mr7, mr8, mr9, mr10, mr21, mr22, mr23, mr25, mr26, mr29, mr30, mr32, mr33, mr34, mr43, mr47, mr53, mr54, mr55, mr56, hB, pk_div, hd]
        unfold fX12_hasLot_b127
        simp (disch := first | assumption | omega) only [p_some, p_gd, p_br, p_bi, p_nm, p_mp, p_Sl, p_Sr, p_bis, p_gdt, Nat.not_lt_zero, Nat.reduceEqDiff, Nat.reduceLT, Nat.reduceLeDiff, true_and, and_true, true_implies, false_implies, not_true_eq_false, not_false_eq_true, implies_true, and_self, ne_eq, decide_true, decide_false, Bool.not_true, Bool.not_false, if_true, if_false, reduceIte, r_lit, nI_add, nI_1]
        refine a_lP_i ?_ h2 (nx (Classical.not_not.mp c) (by omega))
        rw [e1, if_pos (Classical.not_not.mp c), ec, nI_l (Nat.lt_of_le_of_lt (Nat.div_le_self _ _) (by decide)), lN_add]
    · subst e
      unfold fX12_hasLot_b51_i
      simp (disch := first | assumption | omega) only [p_some, p_gd, p_br, p_bi, p_nm, p_mp, p_Sl, p_Sr, p_bis, p_gdt, q_IL, q_IR, q_LI, q_LR, q_RI, q_RL, q_KI, q_KL, q_KR, q_NI, q_NL, q_NR, q_nI, q_nL, q_nR, q_okI, q_okL, q_okR, q_Ie, q_In, q_Le, q_Ln, SM_I, SM_L, s_c0, s_cg0, s_cl0, s_cge, s_cle, r_le, r_lt, r_eq, r_md, r_2, r_3, r_lit, r_litL, r_m1, nI_add, nI_1, nI_clamp, nI_leI, nI_ltI, nI_eq, pk_sub, q_ix, nI_l, lN_add, lN_mul, r_m1n, r_m1n', r_m1lt, r_m1nlt, r_m1le, r_m1nle, Nat.not_lt_zero, Nat.reduceEqDiff, Nat.reduceLT, Nat.reduceLeDiff, true_and, and_true, true_implies, false_implies, not_true_eq_false, not_false_eq_true, implies_true, and_self, ne_eq, decide_true, decide_false, Bool.not_true, Bool.not_false, if_true, if_false, reduceIte, mk0, mk1, mk2, mk3, mk4, mk5, mk6, mk7, mk8, mk9, mk10, mk11, mk12, mk13, mk14, mk15, mk16, mk17, mk18, mk19, mk20, mk21, mk22, mn1, mn2, mn3, mn4, mn5, mn6, mn7, mn8, mn9, mn10, mn11, mn12, mn13, mn14, mn15, mn16, mn17, mn18, mn19, mn20, mn21, mn22, mr1, mr6, mr7, mr8, mr9, mr10, mr21, mr22, mr23, mr25, mr26, mr29, mr30, mr32, mr33, mr34, mr43, mr47, mr53, mr54, mr55, mr56, hB0, show ¬ bk 0 ≤ j by omega]
      exact m_lotNo (k0 hn)
  · rintro w (⟨e, h2, h3⟩ | ⟨⟨l, e⟩, hn⟩)
    · subst e
      have v : a_vl bk m := ⟨h2, fun t ht => h3 t (Classical.byContradiction (fun q => by
        have := Nat.ge_two_pow_of_testBit ht
        have h2 : 2 ^ bk 0 ≤ 2 ^ t := Nat.pow_le_pow_right (by decide) (by omega)
        omega)) ht⟩
      have kk := k1 v
      rw [← a_sg_8 hm h8] at kk
      unfold fX12_hasLot_b51_i
      simp (disch := first | assumption | omega) only [p_some, p_gd, p_br, p_bi, p_nm, p_mp, p_Sl, p_Sr, p_bis, p_gdt, q_IL, q_IR, q_LI, q_LR, q_RI, q_RL, q_KI, q_KL, q_KR, q_NI, q_NL, q_NR, q_nI, q_nL, q_nR, q_okI, q_okL, q_okR, q_Ie, q_In, q_Le, q_Ln, SM_I, SM_L, s_c0, s_cg0, s_cl0, s_cge, s_cle, r_le, r_lt, r_eq, r_md, r_2, r_3, r_lit, r_litL, r_m1, nI_add, nI_1, nI_clamp, nI_leI, nI_ltI, nI_eq, pk_sub, q_ix, nI_l, lN_add, lN_mul, r_m1n, r_m1n', r_m1lt, r_m1nlt, r_m1le, r_m1nle, Nat.not_lt_zero, Nat.reduceEqDiff, Nat.reduceLT, Nat.reduceLeDiff, true_and, and_true, true_implies, false_implies, not_true_eq_false, not_false_eq_true, implies_true, and_self, ne_eq, decide_true, decide_false, Bool.not_true, Bool.not_false, if_true, if_false, reduceIte, mk0, mk1, mk2, mk3, mk4, mk5, mk6, mk7, mk8, mk9, mk10, mk11, mk12, mk13, mk14, mk15, mk16, mk17, mk18, mk19, mk20, mk21, mk22, mn1, mn2, mn3, mn4, mn5, mn6, mn7, mn8, mn9, mn10, mn11, mn12, mn13, mn14, mn15, mn16, mn17, mn18, mn19, mn20, mn21, mn22, mr1, mr6, mr7, mr8, mr9, mr10, mr21, mr22, mr23, mr25, mr26, mr29, mr30, mr32, mr33, mr34, mr43, mr47, mr53, mr54, mr55, mr56, hB0, Nat.le_refl]
      exact kk
    · subst e
      unfold fX12_hasLot_b51_i
      simp (disch := first | assumption | omega) only [p_some, p_gd, p_br, p_bi, p_nm, p_mp, p_Sl, p_Sr, p_bis, p_gdt, q_IL, q_IR, q_LI, q_LR, q_RI, q_RL, q_KI, q_KL, q_KR, q_NI, q_NL, q_NR, q_nI, q_nL, q_nR, q_okI, q_okL, q_okR, q_Ie, q_In, q_Le, q_Ln, SM_I, SM_L, s_c0, s_cg0, s_cl0, s_cge, s_cle, r_le, r_lt, r_eq, r_md, r_2, r_3, r_lit, r_litL, r_m1, nI_add, nI_1, nI_clamp, nI_leI, nI_ltI, nI_eq, pk_sub, q_ix, nI_l, lN_add, lN_mul, r_m1n, r_m1n', r_m1lt, r_m1nlt, r_m1le, r_m1nle, Nat.not_lt_zero, Nat.reduceEqDiff, Nat.reduceLT, Nat.reduceLeDiff, true_and, and_true, true_implies, false_implies, not_true_eq_false, not_false_eq_true, implies_true, and_self, ne_eq, decide_true, decide_false, Bool.not_true, Bool.not_false, if_true, if_false, reduceIte, mk0, mk1, mk2, mk3, mk4, mk5, mk6, mk7, mk8, mk9, mk10, mk11, mk12, mk13, mk14, mk15, mk16, mk17, mk18, mk19, mk20, mk21, mk22, mn1, mn2, mn3, mn4, mn5, mn6, mn7, mn8, mn9, mn10, mn11, mn12, mn13, mn14, mn15, mn16, mn17, mn18, mn19, mn20, mn21, mn22, mr1, mr6, mr7, mr8, mr9, mr10, mr21, mr22, mr23, mr25, mr26, mr29, mr30, mr32, mr33, mr34, mr43, mr47, mr53, mr54, mr55, mr56, hB0, Nat.le_refl]
      exact m_lotNo (k0 hn)
theorem mLs.fr {C : Nat → Nat → Prop} {h h' : z_T} {bk : Nat → Nat} {B : Nat} (L : mLs h bk B) (f : m_fr C h h') (h1 : C 0 38) (h2 : C 0 39) (h3 : C 0 40) : mLs h' bk B :=
  ⟨(f.I 0 40 h3).trans L.1, (f.L 0 38 h1).trans L.2.1, (f.L 0 39 h2).trans L.2.2⟩
def a_lI (bk : Nat → Nat) (m B : Nat) : Prop := (B = 0 ∧ ∀ S, S < m → ¬ a_vl bk S) ∨ (B < m ∧ a_vl bk B ∧ ∀ S, S < m → a_vl bk S → a_ge bk B S)
theorem a_lI_no {bk : Nat → Nat} {m B : Nat} (i : a_lI bk m B) (h : ¬ a_vl bk m) : a_lI bk (m + 1) B := by
  rcases i with ⟨i1, i2⟩ | ⟨i1, i2, i3⟩
  · refine Or.inl ⟨i1, fun S hS v => ?_⟩
    by_cases e : S = m
    · rw [e] at v; exact h v
    · exact i2 S (by omega) v
  · refine Or.inr ⟨by omega, i2, fun S hS v => ?_⟩
    by_cases e : S = m
    · rw [e] at v; exact absurd v h
    · exact i3 S (by omega) v
theorem a_vl_0 {bk : Nat → Nat} {B : Nat} (v : a_vl bk B) : ¬ B = 0 := fun e => by
  have := v.1
  rw [e, a_pc_0] at this
  omega
theorem a_lI_keep {bk : Nat → Nat} {m B : Nat} (i : a_lI bk m B) (hB : ¬ B = 0) (g : a_ge bk B m) : a_lI bk (m + 1) B := by
  rcases i with ⟨i1, i2⟩ | ⟨i1, i2, i3⟩
  · exact absurd i1 hB
  · refine Or.inr ⟨by omega, i2, fun S hS v => ?_⟩
    by_cases e : S = m
    · rw [e]; exact g
    · exact i3 S (by omega) v
theorem a_lI_new {bk : Nat → Nat} {m B : Nat} (i : a_lI bk m B) (vm : a_vl bk m) (g : ¬ B = 0 → a_ge bk m B) : a_lI bk (m + 1) m := by
  refine Or.inr ⟨by omega, vm, fun S hS v => ?_⟩
  by_cases e : S = m
  · rw [e]; exact a_ge_rf
  · rcases i with ⟨i1, i2⟩ | ⟨i1, i2, i3⟩
    · exact absurd v (i2 S (by omega))
    · exact a_ge_tr vm i2 v (g (a_vl_0 i2)) (i3 S (by omega) v)
theorem a_lI_end {bk : Nat → Nat} {n B : Nat} (hn : n ≤ 8) (i : a_lI bk (2 ^ n) B) : a_ak bk n 9 = B := by
  rcases i with ⟨i1, i2⟩ | ⟨i1, i2, i3⟩
  · rw [i1]; exact a_ak_none i2
  · exact a_ak_opt hn ⟨i1, i2, i3⟩
theorem m_hasLot {h : z_T} {bk : Nat → Nat} {Q : Int32 × z_T → Prop} (s : SM h) (b : BOK bk) (hB : mB h bk)
    (k0 : ∀ h', m_fr mLf h h' → a_lot0 bk = 0 → Q (nI 0, h')) (k1 : ∀ h', m_fr mLf h h' → ¬ a_lot0 bk = 0 → mLs h' bk (a_lot0 bk) → Q (nI 1, h')) : p_W (fX12_hasLot 0 h) Q := by
  have h8 := b.1
  have hp := a_2p b
  unfold fX12_hasLot
  simp (disch := first | assumption | omega) only [p_some, p_gd, p_br, p_bi, p_nm, p_mp, p_Sl, p_Sr, p_bis, p_gdt, q_IL, q_IR, q_LI, q_LR, q_RI, q_RL, q_KI, q_KL, q_KR, q_NI, q_NL, q_NR, q_nI, q_nL, q_nR, q_okI, q_okL, q_okR, q_Ie, q_In, q_Le, q_Ln, SM_I, SM_L, s_c0, s_cg0, s_cl0, s_cge, s_cle, r_le, r_lt, r_eq, r_md, r_2, r_3, r_lit, r_litL, r_m1, nI_add, nI_1, nI_clamp, nI_leI, nI_ltI, nI_eq, pk_sub, q_ix, nI_l, lN_add, lN_mul, r_m1n, r_m1n', r_m1lt, r_m1nlt, r_m1le, r_m1nle, Nat.not_lt_zero, Nat.reduceEqDiff, Nat.reduceLT, Nat.reduceLeDiff, true_and, and_true, true_implies, false_implies, not_true_eq_false, not_false_eq_true, implies_true, and_self, ne_eq, decide_true, decide_false, Bool.not_true, Bool.not_false, if_true, if_false, reduceIte, mk0, mk1, mk2, mk3, mk4, mk5, mk6, mk7, mk8, mk9, mk10, mk11, mk12, mk13, mk14, mk15, mk16, mk17, mk18, mk19, mk20, mk21, mk22, mn1, mn2, mn3, mn4, mn5, mn6, mn7, mn8, mn9, mn10, mn11, mn12, mn13, mn14, mn15, mn16, mn17, mn18, mn19, mn20, mn21, mn22, mr1, mr6, mr7, mr8, mr9, mr10, mr21, mr22, mr23, mr25, mr26, mr29, mr30, mr32, mr33, mr34, mr43, mr47, mr53, mr54, mr55, mr56]
  have f0 : m_fr mLf h (z_sL (z_sL (z_sI h 0 40 (nI 0)) 0 38 (lN 0)) 0 39 (lN 1)) := ((m_fr.rf.sI (by unfold mLf; omega)).sL (by unfold mLf; omega)).sL (by unfold mLf; omega)
  have L0 : mLs (z_sL (z_sL (z_sI h 0 40 (nI 0)) 0 38 (lN 0)) 0 39 (lN 1)) bk 0 := by
    refine ⟨?_, ?_, ?_⟩
    · show z_I (z_sI h 0 40 (nI 0)) 0 40 = nI 0
      exact q_Ie rfl rfl
    · rw [if_pos rfl, q_Ln (by omega), q_Le rfl rfl]
    · rw [if_pos rfl, q_Le rfl rfl]
  generalize z_sL (z_sL (z_sI h 0 40 (nI 0)) 0 38 (lN 0)) 0 39 (lN 1) = h0 at f0 L0 ⊢
  unfold fX12_hasLot_b17
  refine p_for (2 ^ bk 0) (fun m w => w.1 = nI m ∧ m_fr mLf h w.2 ∧ ∃ B, mLs w.2 bk B ∧ a_lI bk m B) ?_ ?_ 0 (Nat.zero_le _) ⟨rfl, f0, 0, L0, Or.inl ⟨rfl, fun S hS => absurd hS (Nat.not_lt_zero _)⟩⟩
  · rintro m ⟨x, h1⟩ hm ⟨e1, f1, B, L1, I1⟩
    dsimp only at e1 f1 L1
    subst e1
    have s1 := f1.s s
    have hB1 : mB h1 bk := fun k hk => (f1.I 2 k (by unfold mLf; omega)).trans (hB k hk)
    have hB10 := hB1 0 (by decide)
    have p1 := a_pc_le m
    have hBl : B < 256 := by
      rcases I1 with ⟨i1, -⟩ | ⟨i1, -⟩ <;> omega
    have vB : ¬ B = 0 → a_vl bk B := fun c => by
      rcases I1 with ⟨i1, -⟩ | ⟨-, i2, -⟩
      · exact absurd i1 c
      · exact i2
    have fin : ∀ f, (f = nI 1 ∧ 2 ≤ a_pc m) ∨ (f = nI 0 ∧ ¬ 2 ≤ a_pc m) → p_W (fX12_hasLot_b46 0 (nI m) (nI (a_pc m)) (lN 0) f h1) (p_S (fun w : Int32 × z_T => w.1 = nI (m + 1) ∧ m_fr mLf h w.2 ∧ ∃ B, mLs w.2 bk B ∧ a_lI bk (m + 1) B) Q) := fun f hf => by
      unfold fX12_hasLot_b46
      refine m_lotIn s1 b hB1 hm hf (fun v => ?_) (fun v => ?_)
      · exact ⟨rfl, f1, B, L1, a_lI_no I1 v⟩
      · refine m_lotCmp s1 (by omega) hBl v vB L1 (fun c g => ?_) (fun h2 f2 L2 g => ?_)
        · exact ⟨rfl, f1, B, L1, a_lI_keep I1 c g⟩
        · exact ⟨rfl, f1.tr f2, m, L2, a_lI_new I1 v g⟩
    unfold fX12_hasLot_b17_i
    simp (disch := first | assumption | omega) only [p_some, p_gd, p_br, p_bi, p_nm, p_mp, p_Sl, p_Sr, p_bis, p_gdt, q_IL, q_IR, q_LI, q_LR, q_RI, q_RL, q_KI, q_KL, q_KR, q_NI, q_NL, q_NR, q_nI, q_nL, q_nR, q_okI, q_okL, q_okR, q_Ie, q_In, q_Le, q_Ln, SM_I, SM_L, s_c0, s_cg0, s_cl0, s_cge, s_cle, r_le, r_lt, r_eq, r_md, r_2, r_3, r_lit, r_litL, r_m1, nI_add, nI_1, nI_clamp, nI_leI, nI_ltI, nI_eq, pk_sub, q_ix, nI_l, lN_add, lN_mul, r_m1n, r_m1n', r_m1lt, r_m1nlt, r_m1le, r_m1nle, Nat.not_lt_zero, Nat.reduceEqDiff, Nat.reduceLT, Nat.reduceLeDiff, true_and, and_true, true_implies, false_implies, not_true_eq_false, not_false_eq_true, implies_true, and_self, ne_eq, decide_true, decide_false, Bool.not_true, Bool.not_false, if_true, if_false, reduceIte, mk0, mk1, mk2, mk3, mk4, mk5, mk6, mk7, mk8, mk9, mk10, mk11, mk12, mk13, mk14, mk15, mk16, mk17, mk18, mk19, mk20, mk21, mk22, mn1, mn2, mn3, mn4, mn5, mn6, mn7, mn8, mn9, mn10, mn11, mn12, mn13, mn14, mn15, mn16, mn17, mn18, mn19, mn20, mn21, mn22, mr1, mr6, mr7, mr8, mr9, mr10, mr21, mr22, mr23, mr25, mr26, mr29, mr30, mr32, mr33, mr34, mr43, mr47, mr53, mr54, mr55, mr56, hB10, r_shl, m_bits (show m < 256 by omega), show ¬ 2 ^ bk 0 ≤ m by omega]
    refine ⟨fun c => fin _ (Or.inr ⟨rfl, by omega⟩), fun c => fin _ (Or.inl ⟨rfl, by omega⟩)⟩
  · rintro ⟨x, h1⟩ ⟨e1, f1, B, L1, I1⟩
    dsimp only at e1 f1 L1
    subst e1
    have s1 := f1.s s
    have hB10 : z_I h1 2 0 = nI (bk 0) := (f1.I 2 0 (by unfold mLf; omega)).trans (hB 0 (by decide))
    have eA : a_lot0 bk = B := a_lI_end h8 I1
    have hBl : B < 256 := by
      rcases I1 with ⟨i1, -⟩ | ⟨i1, -⟩ <;> omega
    unfold fX12_hasLot_b17_i
    simp (disch := first | assumption | omega) only [p_some, p_gd, p_br, p_bi, p_nm, p_mp, p_Sl, p_Sr, p_bis, p_gdt, q_IL, q_IR, q_LI, q_LR, q_RI, q_RL, q_KI, q_KL, q_KR, q_NI, q_NL, q_NR, q_nI, q_nL, q_nR, q_okI, q_okL, q_okR, q_Ie, q_In, q_Le, q_Ln, SM_I, SM_L, s_c0, s_cg0, s_cl0, s_cge, s_cle, r_le, r_lt, r_eq, r_md, r_2, r_3, r_lit, r_litL, r_m1, nI_add, nI_1, nI_clamp, nI_leI, nI_ltI, nI_eq, pk_sub, q_ix, nI_l, lN_add, lN_mul, r_m1n, r_m1n', r_m1lt, r_m1nlt, r_m1le, r_m1nle, Nat.not_lt_zero, Nat.reduceEqDiff, Nat.reduceLT, Nat.reduceLeDiff, true_and, and_true, true_implies, false_implies, not_true_eq_false, not_false_eq_true, implies_true, and_self, ne_eq, decide_true, decide_false, Bool.not_true, Bool.not_false, if_true, if_false, reduceIte, mk0, mk1, mk2, mk3, mk4, mk5, mk6, mk7, mk8, mk9, mk10, mk11, mk12, mk13, mk14, mk15, mk16, mk17, mk18, mk19, mk20, mk21, mk22, mn1, mn2, mn3, mn4, mn5, mn6, mn7, mn8, mn9, mn10, mn11, mn12, mn13, mn14, mn15, mn16, mn17, mn18, mn19, mn20, mn21, mn22, mr1, mr6, mr7, mr8, mr9, mr10, mr21, mr22, mr23, mr25, mr26, mr29, mr30, mr32, mr33, mr34, mr43, mr47, mr53, mr54, mr55, mr56, hB10, r_shl, Nat.le_refl, L1.1]
    refine ⟨fun c => k0 h1 f1 (by omega), fun c => k1 h1 f1 (by omega) (by rw [eA]; exact L1)⟩
theorem m_lot {h : z_T} {bk ans : Nat → Nat} {n : Nat} {Q : Int64 × z_T → Prop} (s : SM h) (b : BOK bk) (hN : mNi h bk n ans) (y : Int32)
    (k : ∀ v h', m_fr mKp h h' → mTh h' (a_lot bk y) v → Q (v, h')) : p_W (fX12_lot 0 y h) Q := by
  have hp := a_2p b
  have hL := a_lot_lt (bk := bk)
  have hv := a_lot_vl (bk := bk)
  have fk : ∀ o k, mKp o k → mLf o k := fun o k c => by unfold mKp at c; unfold mLf; omega
  have q := a_pc_le (a_lot0 bk)
  have g := a_sg_le (bk := bk) (S := a_lot0 bk) (Nat.le_refl 8)
  have thr : ¬ (z_ix y 2 = true ∧ ¬ a_lot0 bk = 0) → ∀ h', m_fr mKp h h' → Q (lN 0, z_sI h' 0 0 (nI 1)) := fun c h' f => by
    unfold a_lot at k
    rw [if_neg c] at k
    exact k _ _ (f.tr m_fr.t0) (q_Ie rfl rfl)
  unfold a_lot at k
  unfold fX12_lot fX12_lot_b15 fX12_lot_b20
  simp (disch := first | assumption | omega) only [p_some, p_gd, p_br, p_bi, p_nm, p_mp, p_Sl, p_Sr, p_bis, p_gdt, q_IL, q_IR, q_LI, q_LR, q_RI, q_RL, q_KI, q_KL, q_KR, q_NI, q_NL, q_NR, q_nI, q_nL, q_nR, q_okI, q_okL, q_okR, q_Ie, q_In, q_Le, q_Ln, SM_I, SM_L, s_c0, s_cg0, s_cl0, s_cge, s_cle, r_le, r_lt, r_eq, r_md, r_2, r_3, r_lit, r_litL, r_m1, nI_add, nI_1, nI_clamp, nI_leI, nI_ltI, nI_eq, pk_sub, q_ix, nI_l, lN_add, lN_mul, r_m1n, r_m1n', r_m1lt, r_m1nlt, r_m1le, r_m1nle, Nat.not_lt_zero, Nat.reduceEqDiff, Nat.reduceLT, Nat.reduceLeDiff, true_and, and_true, true_implies, false_implies, not_true_eq_false, not_false_eq_true, implies_true, and_self, ne_eq, decide_true, decide_false, Bool.not_true, Bool.not_false, if_true, if_false, reduceIte, mk0, mk1, mk2, mk3, mk4, mk5, mk6, mk7, mk8, mk9, mk10, mk11, mk12, mk13, mk14, mk15, mk16, mk17, mk18, mk19, mk20, mk21, mk22, mn1, mn2, mn3, mn4, mn5, mn6, mn7, mn8, mn9, mn10, mn11, mn12, mn13, mn14, mn15, mn16, mn17, mn18, mn19, mn20, mn21, mn22, mr1, mr6, mr7, mr8, mr9, mr10, mr21, mr22, mr23, mr25, mr26, mr29, mr30, mr32, mr33, mr34, mr43, mr47, mr53, mr54, mr55, mr56, m_isPart, bI_0]
  refine ⟨fun c => ?_, fun c => ?_⟩
  · simp (disch := first | assumption | omega) only [p_some, p_gd, p_br, p_bi, p_nm, p_mp, p_Sl, p_Sr, p_bis, p_gdt, q_IL, q_IR, q_LI, q_LR, q_RI, q_RL, q_KI, q_KL, q_KR, q_NI, q_NL, q_NR, q_nI, q_nL, q_nR, q_okI, q_okL, q_okR, q_Ie, q_In, q_Le, q_Ln, SM_I, SM_L, s_c0, s_cg0, s_cl0, s_cge, s_cle, r_le, r_lt, r_eq, r_md, r_2, r_3, r_lit, r_litL, r_m1, nI_add, nI_1, nI_clamp, nI_leI, nI_ltI, nI_eq, pk_sub, q_ix, nI_l, lN_add, lN_mul, r_m1n, r_m1n', r_m1lt, r_m1nlt, r_m1le, r_m1nle, Nat.not_lt_zero, Nat.reduceEqDiff, Nat.reduceLT, Nat.reduceLeDiff, true_and, and_true, true_implies, false_implies, not_true_eq_false, not_false_eq_true, implies_true, and_self, ne_eq, decide_true, decide_false, Bool.not_true, Bool.not_false, if_true, if_false, reduceIte, mk0, mk1, mk2, mk3, mk4, mk5, mk6, mk7, mk8, mk9, mk10, mk11, mk12, mk13, mk14, mk15, mk16, mk17, mk18, mk19, mk20, mk21, mk22, mn1, mn2, mn3, mn4, mn5, mn6, mn7, mn8, mn9, mn10, mn11, mn12, mn13, mn14, mn15, mn16, mn17, mn18, mn19, mn20, mn21, mn22, mr1, mr6, mr7, mr8, mr9, mr10, mr21, mr22, mr23, mr25, mr26, mr29, mr30, mr32, mr33, mr34, mr43, mr47, mr53, mr54, mr55, mr56, m_throws1 s]
    exact thr (fun q => c q.1) h m_fr.rf
  · obtain ⟨w, hw, e⟩ := z_ixn c (by omega)
    refine m_hasLot s b hN.1 (fun h1 f1 e0 => ?_) (fun h1 f1 e0 L => ?_)
    · have s1 := f1.s s
      simp (disch := first | assumption | omega) only [p_some, p_gd, p_br, p_bi, p_nm, p_mp, p_Sl, p_Sr, p_bis, p_gdt, q_IL, q_IR, q_LI, q_LR, q_RI, q_RL, q_KI, q_KL, q_KR, q_NI, q_NL, q_NR, q_nI, q_nL, q_nR, q_okI, q_okL, q_okR, q_Ie, q_In, q_Le, q_Ln, SM_I, SM_L, s_c0, s_cg0, s_cl0, s_cge, s_cle, r_le, r_lt, r_eq, r_md, r_2, r_3, r_lit, r_litL, r_m1, nI_add, nI_1, nI_clamp, nI_leI, nI_ltI, nI_eq, pk_sub, q_ix, nI_l, lN_add, lN_mul, r_m1n, r_m1n', r_m1lt, r_m1nlt, r_m1le, r_m1nle, Nat.not_lt_zero, Nat.reduceEqDiff, Nat.reduceLT, Nat.reduceLeDiff, true_and, and_true, true_implies, false_implies, not_true_eq_false, not_false_eq_true, implies_true, and_self, ne_eq, decide_true, decide_false, Bool.not_true, Bool.not_false, if_true, if_false, reduceIte, mk0, mk1, mk2, mk3, mk4, mk5, mk6, mk7, mk8, mk9, mk10, mk11, mk12, mk13, mk14, mk15, mk16, mk17, mk18, mk19, mk20, mk21, mk22, mn1, mn2, mn3, mn4, mn5, mn6, mn7, mn8, mn9, mn10, mn11, mn12, mn13, mn14, mn15, mn16, mn17, mn18, mn19, mn20, mn21, mn22, mr1, mr6, mr7, mr8, mr9, mr10, mr21, mr22, mr23, mr25, mr26, mr29, mr30, mr32, mr33, mr34, mr43, mr47, mr53, mr54, mr55, mr56, m_throws1 s1]
      exact thr (fun q => q.2 e0) h1 (f1.w fk)
    · have s1 := f1.s s
      have s2 : SM (z_sI h1 0 0 (nI 0)) := s1
      have L2 : mLs (z_sI h1 0 0 (nI 0)) bk (a_lot0 bk) := ⟨(q_In (by omega)).trans L.1, L.2.1, L.2.2⟩
      have l38 := L2.2.1
      have l39 := L2.2.2
      have hpos := a_sgpos (hv e0)
      have h2 := (hv e0).1
      rw [if_pos ⟨Classical.not_not.mp c, e0⟩] at k
      rw [if_neg e0] at l38 l39
      subst e
      unfold a_side at k
      rw [nI_clamp (by omega)] at k
      simp (disch := first | assumption | omega) only [p_some, p_gd, p_br, p_bi, p_nm, p_mp, p_Sl, p_Sr, p_bis, p_gdt, q_IL, q_IR, q_LI, q_LR, q_RI, q_RL, q_KI, q_KL, q_KR, q_NI, q_NL, q_NR, q_nI, q_nL, q_nR, q_okI, q_okL, q_okR, q_Ie, q_In, q_Le, q_Ln, SM_I, SM_L, s_c0, s_cg0, s_cl0, s_cge, s_cle, r_le, r_lt, r_eq, r_md, r_2, r_3, r_lit, r_litL, r_m1, nI_add, nI_1, nI_clamp, nI_leI, nI_ltI, nI_eq, pk_sub, q_ix, nI_l, lN_add, lN_mul, r_m1n, r_m1n', r_m1lt, r_m1nlt, r_m1le, r_m1nle, Nat.not_lt_zero, Nat.reduceEqDiff, Nat.reduceLT, Nat.reduceLeDiff, true_and, and_true, true_implies, false_implies, not_true_eq_false, not_false_eq_true, implies_true, and_self, ne_eq, decide_true, decide_false, Bool.not_true, Bool.not_false, if_true, if_false, reduceIte, mk0, mk1, mk2, mk3, mk4, mk5, mk6, mk7, mk8, mk9, mk10, mk11, mk12, mk13, mk14, mk15, mk16, mk17, mk18, mk19, mk20, mk21, mk22, mn1, mn2, mn3, mn4, mn5, mn6, mn7, mn8, mn9, mn10, mn11, mn12, mn13, mn14, mn15, mn16, mn17, mn18, mn19, mn20, mn21, mn22, mr1, mr6, mr7, mr8, mr9, mr10, mr21, mr22, mr23, mr25, mr26, mr29, mr30, mr32, mr33, mr34, mr43, mr47, mr53, mr54, mr55, mr56, m_throws0 s1, l38, l39, m_part]
      exact k _ _ ((f1.w fk).tr m_fr.t0) ⟨q_Ie rfl rfl, rfl⟩
