/-! the reference's way to the best lot -/
theorem s_dv {a b : Nat} (ha : a < 2 ^ 62) (hb : b < 2 ^ 62) : (lN a - lN b).toInt = (a : Int) - (b : Int) := by
  rw [Int64.toInt_sub, r_toInt (by omega), r_toInt (by omega), Int.bmod_def]
  split <;> omega
theorem s_dlt {a b : Nat} (ha : a < 2 ^ 62) (hb : b < 2 ^ 62) : (lg_cmp (lN a - lN b) (lN 0) < nI 0) ↔ a < b := by
  show (lg_cmp (lN a - lN b) (lN 0) < 0) ↔ a < b
  rw [r_cmpl0, Int64.lt_iff_toInt_lt, s_dv ha hb, r_toInt (by decide)]
  omega
theorem s_deq {a b : Nat} (ha : a < 2 ^ 62) (hb : b < 2 ^ 62) : (lg_cmp (lN a - lN b) (lN 0) = nI 0) ↔ a = b := by
  show (lg_cmp (lN a - lN b) (lN 0) = 0) ↔ a = b
  rw [r_cmp0, ← Int64.toInt_inj, s_dv ha hb, r_toInt (by decide)]
  omega
def mLs (h : z_T) (bk : Nat → Nat) (B : Nat) : Prop := z_I h 0 40 = nI B ∧ z_L h 0 38 = lN (if B = 0 then 0 else (a_pc B - 1) * 2520) ∧ z_L h 0 39 = lN (if B = 0 then 1 else 9 * a_sg bk B 8)
def mLf (o k : Nat) : Prop := o ≠ 0 ∨ (k ≠ 38 ∧ k ≠ 39 ∧ k ≠ 40)
theorem m_lotCmp {h : z_T} {bk : Nat → Nat} {m B : Nat} {Q : (Int32 × z_T) ⊕ (Int32 × z_T) → Prop} (s : SM h) (hm : m < 256) (hB : B < 256) (vm : a_vl bk m) (vB : ¬ B = 0 → a_vl bk B) (L : mLs h bk B)
    (k0 : ¬ B = 0 → a_ge bk B m → Q (.inl (nI (m + 1), h)))
    (k1 : ∀ h', m_fr mLf h h' → mLs h' bk m → (¬ B = 0 → a_ge bk m B) → Q (.inl (nI (m + 1), h'))) :
    p_W (fX12_hasLot_b133 0 (nI m) (nI (a_pc m)) (lN (a_sg bk m 8)) (nI 1) h) Q := by
  obtain ⟨L1, L2, L3⟩ := L
  have p1 := a_pc_le m
  have p2 := vm.1
  have p3 := a_pc_le B
  have g1 := a_sg_le (bk := bk) (S := m) (Nat.le_refl 8)
  have g2 := a_sg_le (bk := bk) (S := B) (Nat.le_refl 8)
  have gp := a_sgpos vm
  have hm0 : ¬ m = 0 := fun e => by
    rw [e, a_pc_0] at p2
    omega
  have fin : p_W (fX12_hasLot_b199 0 (nI m) (lN (a_sg bk m 8)) (lN ((a_pc m - 1) * 2520)) h) (fun w => w = .inl (nI (m + 1), z_sL (z_sL (z_sI h 0 40 (nI m)) 0 38 (lN ((a_pc m - 1) * 2520))) 0 39 (lN (9 * a_sg bk m 8)))) := by
    unfold fX12_hasLot_b199 fX12_hasLot_b219
    simp (disch := first | assumption | omega) only [p_some, p_gd, p_br, p_bi, p_nm, p_mp, p_Sl, p_Sr, p_bis, p_gdt, q_IL, q_IR, q_LI, q_LR, q_RI, q_RL, q_KI, q_KL, q_KR, q_NI, q_NL, q_NR, q_nI, q_nL, q_nR, q_okI, q_okL, q_okR, q_Ie, q_In, q_Le, q_Ln, SM_I, SM_L, s_c0, s_cg0, s_cl0, s_cge, s_cle, r_le, r_lt, r_eq, r_md, r_2, r_3, r_lit, r_litL, r_m1, nI_add, nI_1, nI_clamp, nI_leI, nI_ltI, nI_eq, pk_sub, q_ix, nI_l, lN_add, lN_mul, r_m1n, r_m1n', r_m1lt, r_m1nlt, r_m1le, r_m1nle, Nat.not_lt_zero, Nat.reduceEqDiff, Nat.reduceLT, Nat.reduceLeDiff, true_and, and_true, true_implies, false_implies, not_true_eq_false, not_false_eq_true, implies_true, and_self, ne_eq, decide_true, decide_false, Bool.not_true, Bool.not_false, if_true, if_false, reduceIte, mk0, mk1, mk2, mk3, mk4, mk5, mk6, mk7, mk8, mk9, mk10, mk11, mk12, mk13, mk14, mk15, mk16, mk17, mk18, mk19, mk20, mk21, mk22, mn1, mn2, mn3, mn4, mn5, mn6, mn7, mn8, mn9, mn10, mn11, mn12, mn13, mn14, mn15, mn16, mn17, mn18, mn19, mn20, mn21, mn22, mr1, mr6, mr7, mr8, mr9, mr10, mr21, mr22, mr23, mr25, mr26, mr29, mr30, mr32, mr33, mr34, mr43, mr47, mr53, mr54, mr55, mr56]
  have fr : m_fr mLf h (z_sL (z_sL (z_sI h 0 40 (nI m)) 0 38 (lN ((a_pc m - 1) * 2520))) 0 39 (lN (9 * a_sg bk m 8))) := ((m_fr.rf.sI (by unfold mLf; omega)).sL (by unfold mLf; omega)).sL (by unfold mLf; omega)
  have Lm : mLs (z_sL (z_sL (z_sI h 0 40 (nI m)) 0 38 (lN ((a_pc m - 1) * 2520))) 0 39 (lN (9 * a_sg bk m 8))) bk m := by
    refine ⟨?_, ?_, ?_⟩
    · show z_I (z_sI h 0 40 (nI m)) 0 40 = nI m
      exact q_Ie rfl rfl
    · rw [if_neg hm0, q_Ln (by omega), q_Le rfl rfl]
    · rw [if_neg hm0, q_Le rfl rfl]
  have kk := k1 _ fr Lm
  have rep : (¬ B = 0 → a_ge bk m B) → p_W (fX12_hasLot_b199 0 (nI m) (lN (a_sg bk m 8)) (lN ((a_pc m - 1) * 2520)) h) Q := fun q => p_mono fin (fun w e => by
    rw [e]
    exact kk q)
  have hl38 : (if B = 0 then 0 else (a_pc B - 1) * 2520) ≤ 17640 := by split <;> omega
  have hl39 : (if B = 0 then 1 else 9 * a_sg bk B 8) ≤ 181440 := by split <;> omega
  have z38 : B = 0 → (if B = 0 then 0 else (a_pc B - 1) * 2520) = 0 := fun c => if_pos c
  have z39 : B = 0 → (if B = 0 then 1 else 9 * a_sg bk B 8) = 1 := fun c => if_pos c
  have n38 : ¬ B = 0 → (if B = 0 then 0 else (a_pc B - 1) * 2520) = (a_pc B - 1) * 2520 := fun c => if_neg c
  have n39 : ¬ B = 0 → (if B = 0 then 1 else 9 * a_sg bk B 8) = 9 * a_sg bk B 8 := fun c => if_neg c
  have bb := m_bits hB
  generalize (if B = 0 then 0 else (a_pc B - 1) * 2520) = l38 at *
  generalize (if B = 0 then 1 else 9 * a_sg bk B 8) = l39 at *
  have hX : (a_pc m - 1) * 2520 * l39 ≤ 17640 * 181440 := Nat.mul_le_mul (by omega) hl39
  have hY : l38 * 9 * a_sg bk m 8 ≤ 158760 * 20160 := Nat.mul_le_mul (by omega) g1
  have eX : ¬ B = 0 → (a_pc m - 1) * 2520 * l39 = (a_pc m - 1) * a_sg bk B 8 * 22680 := fun c => by
    rw [n39 c, Nat.mul_comm 9, Nat.mul_mul_mul_comm]
  have eY : ¬ B = 0 → l38 * 9 * a_sg bk m 8 = (a_pc B - 1) * a_sg bk m 8 * 22680 := fun c => by
    rw [n38 c, Nat.mul_assoc (a_pc B - 1) 2520 9, Nat.mul_right_comm]
  have e0 : B = 0 → l38 * 9 * a_sg bk m 8 = 0 ∧ 0 < (a_pc m - 1) * 2520 * l39 := fun c => by
    rw [z38 c, z39 c]
    exact ⟨by simp, by omega⟩
  unfold fX12_hasLot_b133
  rw [p_brF (show ¬ nI 1 = 0 by decide)]
  simp (disch := first | assumption | omega) only [p_some, p_gd, p_br, p_bi, p_nm, p_mp, p_Sl, p_Sr, p_bis, p_gdt, Nat.not_lt_zero, Nat.reduceEqDiff, Nat.reduceLT, Nat.reduceLeDiff, true_and, and_true, true_implies, false_implies, not_true_eq_false, not_false_eq_true, implies_true, and_self, ne_eq, decide_true, decide_false, Bool.not_true, Bool.not_false, if_true, if_false, reduceIte, r_lit, r_litL, mk0 s, nI_1, pk_sub, nI_l, lN_mul, L1, L2, L3]
  generalize hXe : (a_pc m - 1) * 2520 * l39 = X at *
  generalize hYe : l38 * 9 * a_sg bk m 8 = Y at *
  simp (disch := first | assumption | omega) only [p_some, p_gd, p_br, p_bi, p_nm, p_mp, p_Sl, p_Sr, p_bis, p_gdt, Nat.not_lt_zero, Nat.reduceEqDiff, Nat.reduceLT, Nat.reduceLeDiff, true_and, and_true, true_implies, false_implies, not_true_eq_false, not_false_eq_true, implies_true, and_self, ne_eq, decide_true, decide_false, Bool.not_true, Bool.not_false, if_true, if_false, reduceIte, s_dlt, s_deq, bb]
  refine ⟨fun c => ?_, fun c => ⟨fun c2 => ?_, fun c2 => ?_⟩⟩
  · have c0 : ¬ B = 0 := fun e => by
      have := e0 e
      omega
    have x1 := eX c0
    have x2 := eY c0
    unfold fX12_hasLot_b219
    simp (disch := first | assumption | omega) only [p_some, p_gd, p_br, p_bi, p_nm, p_mp, p_Sl, p_Sr, p_bis, p_gdt, Nat.not_lt_zero, Nat.reduceEqDiff, Nat.reduceLT, Nat.reduceLeDiff, true_and, and_true, true_implies, false_implies, not_true_eq_false, not_false_eq_true, implies_true, and_self, ne_eq, decide_true, decide_false, Bool.not_true, Bool.not_false, if_true, if_false, reduceIte, r_lit, nI_add, nI_1]
    exact k0 c0 ⟨by omega, fun e => by omega⟩
  · have c0 : ¬ B = 0 := fun e => by
      have := e0 e
      omega
    have x1 := eX c0
    have x2 := eY c0
    rw [nI_ltI (by omega) (by omega)]
    refine ⟨fun c3 => rep (fun _ => ⟨by omega, fun _ => by omega⟩), fun c3 => ?_⟩
    unfold fX12_hasLot_b219
    simp (disch := first | assumption | omega) only [p_some, p_gd, p_br, p_bi, p_nm, p_mp, p_Sl, p_Sr, p_bis, p_gdt, Nat.not_lt_zero, Nat.reduceEqDiff, Nat.reduceLT, Nat.reduceLeDiff, true_and, and_true, true_implies, false_implies, not_true_eq_false, not_false_eq_true, implies_true, and_self, ne_eq, decide_true, decide_false, Bool.not_true, Bool.not_false, if_true, if_false, reduceIte, r_lit, nI_add, nI_1]
    exact k0 c0 ⟨by omega, fun e => by omega⟩
  · refine rep (fun c0 => ?_)
    have x1 := eX c0
    have x2 := eY c0
    exact ⟨by omega, fun e => by omega⟩
