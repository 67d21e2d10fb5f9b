/-! a book, told once for both sides; the reference reads it -/
theorem a_lex_lt {by8 : Nat → Nat} {L lim p : Nat} (h : 2 ≤ (a_lex by8 L lim p).1) : p < (a_lex by8 L lim p).2.2.2 := by
  have r0 := a_run_le (P := fun i => a_B (by8 i)) (L - p) p
  unfold a_lex at h ⊢
  split at h
  · exact absurd h (by show ¬ (2 ≤ 1); omega)
  · rename_i c1
    rw [if_neg c1]
    split at h
    · exact absurd h (by show ¬ (2 ≤ 0); omega)
    · rename_i c2
      rw [if_neg c2]
      generalize a_run (fun i => a_B (by8 i)) (L - p) p = q at *
      have r := a_run_le (P := fun i => a_A (by8 i)) (L - q) q
      unfold a_tok at h ⊢
      split at h
      · rename_i hA
        rw [if_pos hA]
        have rq : q < a_run (fun i => a_A (by8 i)) (L - q) q := by
          obtain ⟨d, hd⟩ : ∃ d, L - q = d + 1 := ⟨L - q - 1, by omega⟩
          have l2 := a_run_le (P := fun i => a_A (by8 i)) d (q + 1)
          rw [hd, a_run, if_pos hA]
          omega
        generalize a_run (fun i => a_A (by8 i)) (L - q) q = e at *
        split at h
        · rename_i c
          rw [if_pos c]
          show p < e
          omega
        · rename_i c
          rw [if_neg c]
          split at h
          · rename_i c
            rw [if_pos c]
            show p < e
            omega
          · exact absurd h (by show ¬ (2 ≤ 1); omega)
      · rename_i hA
        rw [if_neg hA]
        split at h
        · rename_i hS
          rw [if_pos hS]
          show p < q + 1
          omega
        · exact absurd h (by show ¬ (2 ≤ 1); omega)
theorem a_ne_lt {by8 : Nat → Nat} {L lim : Nat} {t : Nat × Nat × Nat × Nat} (h : 2 ≤ (a_ne by8 L lim t).1) : t.2.2.2 < (a_ne by8 L lim t).2.2.2 := a_lex_lt h
theorem a_nw_2 {bk nm : Nat → Nat} {v : Nat} {t : Nat × Nat × Nat × Nat} (h : a_nw bk nm t = .inr v) : 2 ≤ t.1 := by
  unfold a_nw at h
  split at h
  · rename_i c
    have := a_kk1 (t := t) (by omega)
    omega
  · exact absurd h Sum.inl_ne_inr
theorem a_kept_lt {by8 : Nat → Nat} {L lim p n : Nat} {f : Nat → Nat} : ∀ m set t w, (2 ≤ t.1 → p < t.2.2.2) → a_kept (a_ne by8 L lim) f n m set t = .inr w → 2 ≤ w.2.1 → p < w.2.2.2.2
  | 0, set, t, w, hp, h, h2 => by
    have e := Sum.inr.inj h
    subst e
    exact hp h2
  | m + 1, set, t, w, hp, h, h2 => by
    rw [a_kept] at h
    split at h
    · rename_i c2
      have hp' := hp (by omega)
      split at h
      · split at h
        · exact a_kept_lt m _ _ w (fun q => Nat.lt_trans hp' (a_ne_lt q)) h h2
        · exact absurd h Sum.inl_ne_inr
      · exact absurd h Sum.inl_ne_inr
    · have e := Sum.inr.inj h
      subst e
      exact hp h2
theorem a_line_lt {by8 : Nat → Nat} {L lim : Nat} {bk nm : Nat → Nat} {told : Nat} {t : Nat × Nat × Nat × Nat} {w : a_BS} (h : a_line (a_ne by8 L lim) bk nm told t = .inr w) : 2 ≤ t.1 ∧ (2 ≤ w.2.1 → t.2.2.2 < w.2.2.2.2) := by
  unfold a_line at h
  split at h
  · rename_i ck
    refine ⟨by have := a_kk1 (t := t) (by omega); omega, fun h2 => ?_⟩
    unfold a_lnT at h
    split at h
    · exact absurd h Sum.inl_ne_inr
    · obtain ⟨n, e1, h⟩ := a_bd_i h
      obtain ⟨r, e2, h⟩ := a_bd_i h
      obtain ⟨d, e3, h⟩ := a_bd_i h
      have e := Sum.inr.inj h
      subst e
      have l1 := a_ne_lt (a_nw_2 e1)
      have l2 := a_ne_lt (by8 := by8) (L := L) (lim := lim) (t := a_ne by8 L lim t) (by have := (a_nb_i e2).1; omega)
      have l3 := a_ne_lt (by8 := by8) (L := L) (lim := lim) (t := a_ne by8 L lim (a_ne by8 L lim t)) (by have := (a_nb_i e3).1; omega)
      have l4 := a_ne_lt h2
      exact Nat.lt_trans l1 (Nat.lt_trans l2 (Nat.lt_trans l3 l4))
  · split at h
    · rename_i ck
      refine ⟨by have := a_kk1 (t := t) (by omega); omega, fun h2 => ?_⟩
      unfold a_lnD at h
      split at h
      · exact absurd h Sum.inl_ne_inr
      · obtain ⟨n, e1, h⟩ := a_bd_i h
        obtain ⟨r, e2, h⟩ := a_bd_i h
        obtain ⟨d, e3, h⟩ := a_bd_i h
        have e := Sum.inr.inj h
        subst e
        have l1 := a_ne_lt (a_nw_2 e1)
        have l2 := a_ne_lt (by8 := by8) (L := L) (lim := lim) (t := a_ne by8 L lim t) (by have := (a_nb_i e2).1; omega)
        exact a_kept_lt (p := t.2.2.2) 9 0 _ d (fun q => Nat.lt_trans l1 (Nat.lt_trans l2 (a_ne_lt q))) e3 h2
    · split at h
      · rename_i ck
        refine ⟨by have := a_kk1 (t := t) (by omega); omega, fun h2 => ?_⟩
        unfold a_lnS at h
        split at h
        · exact absurd h Sum.inl_ne_inr
        · split at h
          · have e := Sum.inr.inj h
            subst e
            exact a_ne_lt h2
          · obtain ⟨v, e1, h⟩ := a_bd_i h
            have e := Sum.inr.inj h
            subst e
            have l1 := a_ne_lt (by8 := by8) (L := L) (lim := lim) (t := t) (by have := (a_nb_i e1).1; omega)
            exact Nat.lt_trans l1 (a_ne_lt h2)
      · exact absurd h Sum.inl_ne_inr
def a_lines (ne : Nat × Nat × Nat × Nat → Nat × Nat × Nat × Nat) : Nat → (Nat → Nat) → (Nat → Nat) → Nat → Nat → (Nat × Nat × Nat × Nat) → (Nat × Nat) ⊕ ((Nat → Nat) × (Nat → Nat) × Nat)
  | 0, bk, nm, _, lines, _ => .inr (bk, nm, lines)
  | m + 1, bk, nm, told, lines, t => if t.1 = 0 then .inr (bk, nm, lines) else a_bd (a_line ne bk nm told t) fun w => if w.2.1 = 59 then a_lines ne m w.1.1 w.1.2.1 w.1.2.2 (lines + 1) (ne w.2) else .inl (1, w.2.2.2.1)
def a_bk0 : Nat → Nat := fun k => if k = 2 then 1 else if k = 4 then 8 else if k = 5 then 1 else if k = 6 then 1 else 0
def a_book (by8 : Nat → Nat) (L : Nat) : (Nat × Nat) ⊕ ((Nat → Nat) × (Nat → Nat) × Nat) := a_lines (a_ne by8 L 900) 480 a_bk0 (fun _ => 0) 0 0 (a_lex by8 L 900 0)
/-- how far the lines are: two bytes each -/
def LNK (L lines : Nat) (t : Nat × Nat × Nat × Nat) : Prop := ∃ e, e ≤ L ∧ 2 * lines ≤ e ∧ (2 ≤ t.1 → e < t.2.2.2)
theorem LNK.go {by8 : Nat → Nat} {L lim lines : Nat} {bk nm : Nat → Nat} {told : Nat} {t : Nat × Nat × Nat × Nat} {w : a_BS} (k : LNK L lines t) (h : a_line (a_ne by8 L lim) bk nm told t = .inr w) (h2 : 2 ≤ w.2.1) (hw : w.2.2.2.2 ≤ L) : LNK L (lines + 1) (a_ne by8 L lim w.2) := by
  obtain ⟨e, e1, e2, e3⟩ := k
  obtain ⟨g1, g2⟩ := a_line_lt h
  have e3' := e3 g1
  have g2' := g2 h2
  exact ⟨w.2.2.2.2, hw, by omega, fun q => a_ne_lt q⟩
theorem BKS0 : BKS a_bk0 (fun _ => 0) 0 := by
  refine ⟨?_, ⟨fun t ht => absurd ht (Nat.not_lt_zero _), fun t ht => absurd ht (Nat.not_lt_zero _)⟩, by decide⟩
  refine ⟨by decide, by decide, by decide, by decide, by decide, by decide, by decide, by decide, by decide, by decide, fun d hd => absurd hd (Nat.not_lt_zero _), fun d _ hd => ?_, fun t _ ht => ?_⟩
  · have : ∀ d, d < 6 → a_bk0 (24 + d) = 0 ∧ a_bk0 (30 + d) = 0 := by decide
    exact this d hd
  · have : ∀ t, t < 8 → a_bk0 (8 + t) = 0 ∧ a_bk0 (16 + t) = 0 := by decide
    exact this t ht
theorem a_lines_ok {by8 : Nat → Nat} {L lim : Nat} : ∀ m bk nm told lines t w, BKS bk nm told → a_lines (a_ne by8 L lim) m bk nm told lines t = .inr w → BOK w.1 ∧ NMO w.1 w.2.1
  | 0, bk, nm, told, lines, t, w, B, h => by
    have e := Sum.inr.inj h
    subst e
    exact ⟨B.1, B.2.1⟩
  | m + 1, bk, nm, told, lines, t, w, B, h => by
    rw [a_lines] at h
    split at h
    · have e := Sum.inr.inj h
      subst e
      exact ⟨B.1, B.2.1⟩
    · obtain ⟨v, e1, h⟩ := a_bd_i h
      split at h
      · exact a_lines_ok m _ _ _ _ _ w (a_line_ok B e1) h
      · exact absurd h Sum.inl_ne_inr
theorem m_taken {h : z_T} {L lim : Nat} {by8 : Nat → Nat} {TB : Nat → Int32} {Q : z_T → Prop} (s : SM h) (T : mTp h L TB) (hT : ∀ i, i < L → TB i = a_sb (by8 i)) (hb : BY L by8) (hl : lim ≤ 900) (k : ∀ h', m_fr (fun o k => o ≠ 0 ∨ (k ≠ 2 ∧ k ≠ 3 ∧ k ≠ 4 ∧ k ≠ 5)) h h' → mTape h' L lim by8 → z_I h' 0 4 = nI 0 → z_I h' 0 2 = nI 0 → Q h') : p_W (fX12_taken 0 (nI lim) h) Q := by
  have hL := hb.1
  unfold fX12_taken
  simp (disch := first | assumption | omega) only [p_some, p_gd, p_br, p_bi, p_nm, p_mp, p_Sl, p_Sr, p_bis, p_gdt, q_IL, q_IR, q_LI, q_LR, q_RI, q_RL, q_KI, q_KL, q_KR, q_NI, q_NL, q_NR, q_nI, q_nL, q_nR, q_okI, q_okL, q_okR, q_Ie, q_In, q_Le, q_Ln, SM_I, SM_L, s_c0, s_cg0, s_cl0, s_cge, s_cle, r_le, r_lt, r_eq, r_md, r_2, r_3, r_lit, r_litL, r_m1, nI_add, nI_1, nI_clamp, nI_leI, nI_ltI, nI_eq, pk_sub, q_ix, nI_l, lN_add, lN_mul, r_m1n, r_m1n', r_m1lt, r_m1nlt, r_m1le, r_m1nle, Nat.not_lt_zero, Nat.reduceEqDiff, Nat.reduceLT, Nat.reduceLeDiff, true_and, and_true, true_implies, false_implies, not_true_eq_false, not_false_eq_true, implies_true, and_self, ne_eq, decide_true, decide_false, Bool.not_true, Bool.not_false, if_true, if_false, reduceIte, mk0, mk1, mk2, mk3, mk4, mk5, mk6, mk7, mk8, mk9, mk10, mk11, mk12, mk13, mk14, mk15, mk16, mk17, mk18, mk19, mk20, mk21, mk22, mn1, mn2, mn3, mn4, mn5, mn6, mn7, mn8, mn9, mn10, mn11, mn12, mn13, mn14, mn15, mn16, mn17, mn18, mn19, mn20, mn21, mn22, mr1, mr6, mr7, mr8, mr9, mr10, mr21, mr22, mr23, mr25, mr26, mr29, mr30, mr32, mr33, mr34, mr43, mr47, mr53, mr54, mr55, mr56, T.1]
  refine k _ ((((m_fr.rf.sI (by omega)).sI (by omega)).sI (by omega)).sI (by omega)) ⟨?_, q_Ie rfl rfl, fun i hi => ?_⟩ ?_ ?_
  · rw [q_In (by omega), q_In (by omega), q_In (by omega), q_Ie rfl rfl]
  · rw [q_In (by omega), q_In (by omega), q_In (by omega), q_In (by omega), T.2 i hi, hT i hi]
  · rw [q_In (by omega), q_Ie rfl rfl]
  · rw [q_In (by omega), q_In (by omega), q_Ie rfl rfl]
theorem m_clears {h : z_T} {Q : z_T → Prop} (s : SM h) (k : ∀ h', m_fr (fun o _ => o ≠ 3) h h' → (∀ k, k < 36 → z_I h' 3 k = nI (a_bk0 k)) → Q h') : p_W (fX12_clears 0 h) Q := by
  unfold fX12_clears fX12_clears_b2
  refine p_for 36 (fun j w => w.1 = nI j ∧ m_fr (fun o _ => o ≠ 3) h w.2 ∧ ∀ i, i < j → z_I w.2 3 i = nI 0) ?_ ?_ 0 (by omega) ⟨rfl, m_fr.rf, fun i hi => absurd hi (Nat.not_lt_zero _)⟩
  · rintro j ⟨x, h1⟩ hj ⟨e1, f, g⟩
    dsimp only at e1 f g
    subst e1
    have s1 := f.s s
    unfold fX12_clears_b2_i
    simp (disch := first | assumption | omega) only [p_some, p_gd, p_br, p_bi, p_nm, p_mp, p_Sl, p_Sr, p_bis, p_gdt, q_IL, q_IR, q_LI, q_LR, q_RI, q_RL, q_KI, q_KL, q_KR, q_NI, q_NL, q_NR, q_nI, q_nL, q_nR, q_okI, q_okL, q_okR, q_Ie, q_In, q_Le, q_Ln, SM_I, SM_L, s_c0, s_cg0, s_cl0, s_cge, s_cle, r_le, r_lt, r_eq, r_md, r_2, r_3, r_lit, r_litL, r_m1, nI_add, nI_1, nI_clamp, nI_leI, nI_ltI, nI_eq, pk_sub, q_ix, nI_l, lN_add, lN_mul, r_m1n, r_m1n', r_m1lt, r_m1nlt, r_m1le, r_m1nle, Nat.not_lt_zero, Nat.reduceEqDiff, Nat.reduceLT, Nat.reduceLeDiff, true_and, and_true, true_implies, false_implies, not_true_eq_false, not_false_eq_true, implies_true, and_self, ne_eq, decide_true, decide_false, Bool.not_true, Bool.not_false, if_true, if_false, reduceIte, mk0, mk1, mk2, mk3, mk4, mk5, mk6, mk7, mk8, mk9, mk10, mk11, mk12, mk13, mk14, mk15, mk16, mk17, mk18, mk19, mk20, mk21, mk22, mn1, mn2, mn3, mn4, mn5, mn6, mn7, mn8, mn9, mn10, mn11, mn12, mn13, mn14, mn15, mn16, mn17, mn18, mn19, mn20, mn21, mn22, mr1, mr6, mr7, mr8, mr9, mr10, mr21, mr22, mr23, mr25, mr26, mr29, mr30, mr32, mr33, mr34, mr43, mr47, mr53, mr54, mr55, mr56, show ¬ 36 ≤ j by omega]
    refine ⟨f.sI (by omega), fun i hi => ?_⟩
    by_cases e : i = j
    · rw [q_Ie rfl e]
    · rw [q_In (by omega)]; exact g i (by omega)
  · rintro ⟨x, h1⟩ ⟨e1, f, g⟩
    dsimp only at e1 f g
    subst e1
    have s1 := f.s s
    unfold fX12_clears_b2_i
    simp (disch := first | assumption | omega) only [p_some, p_gd, p_br, p_bi, p_nm, p_mp, p_Sl, p_Sr, p_bis, p_gdt, q_IL, q_IR, q_LI, q_LR, q_RI, q_RL, q_KI, q_KL, q_KR, q_NI, q_NL, q_NR, q_nI, q_nL, q_nR, q_okI, q_okL, q_okR, q_Ie, q_In, q_Le, q_Ln, SM_I, SM_L, s_c0, s_cg0, s_cl0, s_cge, s_cle, r_le, r_lt, r_eq, r_md, r_2, r_3, r_lit, r_litL, r_m1, nI_add, nI_1, nI_clamp, nI_leI, nI_ltI, nI_eq, pk_sub, q_ix, nI_l, lN_add, lN_mul, r_m1n, r_m1n', r_m1lt, r_m1nlt, r_m1le, r_m1nle, Nat.not_lt_zero, Nat.reduceEqDiff, Nat.reduceLT, Nat.reduceLeDiff, true_and, and_true, true_implies, false_implies, not_true_eq_false, not_false_eq_true, implies_true, and_self, ne_eq, decide_true, decide_false, Bool.not_true, Bool.not_false, if_true, if_false, reduceIte, mk0, mk1, mk2, mk3, mk4, mk5, mk6, mk7, mk8, mk9, mk10, mk11, mk12, mk13, mk14, mk15, mk16, mk17, mk18, mk19, mk20, mk21, mk22, mn1, mn2, mn3, mn4, mn5, mn6, mn7, mn8, mn9, mn10, mn11, mn12, mn13, mn14, mn15, mn16, mn17, mn18, mn19, mn20, mn21, mn22, mr1, mr6, mr7, mr8, mr9, mr10, mr21, mr22, mr23, mr25, mr26, mr29, mr30, mr32, mr33, mr34, mr43, mr47, mr53, mr54, mr55, mr56, Nat.le_refl]
    refine k _ ((((f.sI (by omega)).sI (by omega)).sI (by omega)).sI (by omega)) (fun i hi => ?_)
    unfold a_bk0
    by_cases e6 : i = 6
    · subst e6; rw [q_Ie rfl rfl]; rfl
    · by_cases e5 : i = 5
      · subst e5; rw [q_In (by omega), q_Ie rfl rfl]; rfl
      · by_cases e4 : i = 4
        · subst e4; rw [q_In (by omega), q_In (by omega), q_Ie rfl rfl]; rfl
        · by_cases e2 : i = 2
          · subst e2; rw [q_In (by omega), q_In (by omega), q_In (by omega), q_Ie rfl rfl]; rfl
          · rw [q_In (by omega), q_In (by omega), q_In (by omega), q_In (by omega), g i hi, if_neg e2, if_neg e4, if_neg e5, if_neg e6]
def mBk2 (h' : z_T) (bk nm : Nat → Nat) : Prop := (∀ k, k < 36 → z_I h' 2 k = nI (bk k)) ∧ (∀ k, 36 ≤ k → k < 357 → z_I h' 2 k = nI 0) ∧ mNm h' bk nm ∧ z_I h' 0 24 = nI 0
theorem m_copies {h : z_T} {bk nm : Nat → Nat} {told lines : Nat} {Q : Int32 × z_T → Prop} (s : SM h) (b : BOK bk) (R : mBr h bk nm told) (hl : z_I h 0 19 = nI lines) (k : ∀ h', m_fr (fun o k => (o ≠ 0 ∨ k ≠ 24) ∧ o ≠ 2 ∧ (o ≠ 5 ∨ 14 ≤ k)) h h' → mBk2 h' bk nm → Q (nI lines, h')) : p_W (fX12_book_b80 0 (nI 0) h) Q := by
  have h8 := b.1
  have h6 := b.2.1
  unfold fX12_book_b80
  refine p_for 357 (fun j w => w.1 = nI j ∧ m_fr (fun o _ => o ≠ 2) h w.2 ∧ ∀ i, i < j → z_I w.2 2 i = if i < 36 then nI (bk i) else nI 0) ?_ ?_ 0 (by omega) ⟨rfl, m_fr.rf, fun i hi => absurd hi (Nat.not_lt_zero _)⟩
  · rintro j ⟨x, h1⟩ hj ⟨e1, f, g⟩
    dsimp only at e1 f g
    subst e1
    have s1 := f.s s
    unfold fX12_book_b80_i fX12_book_b108
    simp (disch := first | assumption | omega) only [p_some, p_gd, p_br, p_bi, p_nm, p_mp, p_Sl, p_Sr, p_bis, p_gdt, q_IL, q_IR, q_LI, q_LR, q_RI, q_RL, q_KI, q_KL, q_KR, q_NI, q_NL, q_NR, q_nI, q_nL, q_nR, q_okI, q_okL, q_okR, q_Ie, q_In, q_Le, q_Ln, SM_I, SM_L, s_c0, s_cg0, s_cl0, s_cge, s_cle, r_le, r_lt, r_eq, r_md, r_2, r_3, r_lit, r_litL, r_m1, nI_add, nI_1, nI_clamp, nI_leI, nI_ltI, nI_eq, pk_sub, q_ix, nI_l, lN_add, lN_mul, r_m1n, r_m1n', r_m1lt, r_m1nlt, r_m1le, r_m1nle, Nat.not_lt_zero, Nat.reduceEqDiff, Nat.reduceLT, Nat.reduceLeDiff, true_and, and_true, true_implies, false_implies, not_true_eq_false, not_false_eq_true, implies_true, and_self, ne_eq, decide_true, decide_false, Bool.not_true, Bool.not_false, if_true, if_false, reduceIte, mk0, mk1, mk2, mk3, mk4, mk5, mk6, mk7, mk8, mk9, mk10, mk11, mk12, mk13, mk14, mk15, mk16, mk17, mk18, mk19, mk20, mk21, mk22, mn1, mn2, mn3, mn4, mn5, mn6, mn7, mn8, mn9, mn10, mn11, mn12, mn13, mn14, mn15, mn16, mn17, mn18, mn19, mn20, mn21, mn22, mr1, mr6, mr7, mr8, mr9, mr10, mr21, mr22, mr23, mr25, mr26, mr29, mr30, mr32, mr33, mr34, mr43, mr47, mr53, mr54, mr55, mr56, show ¬ 357 ≤ j by omega]
    refine ⟨fun c => ?_, fun c => ?_⟩
    · refine ⟨f.sI (by omega), fun i hi => ?_⟩
      by_cases e : i = j
      · rw [q_Ie rfl e, if_neg (by omega)]
      · rw [q_In (by omega)]; exact g i (by omega)
    · have r3 := (f.I 3 j (by omega)).trans (R.1 j (by omega))
      simp (disch := first | assumption | omega) only [p_some, p_gd, p_br, p_bi, p_nm, p_mp, p_Sl, p_Sr, p_bis, p_gdt, q_IL, q_IR, q_LI, q_LR, q_RI, q_RL, q_KI, q_KL, q_KR, q_NI, q_NL, q_NR, q_nI, q_nL, q_nR, q_okI, q_okL, q_okR, q_Ie, q_In, q_Le, q_Ln, SM_I, SM_L, s_c0, s_cg0, s_cl0, s_cge, s_cle, r_le, r_lt, r_eq, r_md, r_2, r_3, r_lit, r_litL, r_m1, nI_add, nI_1, nI_clamp, nI_leI, nI_ltI, nI_eq, pk_sub, q_ix, nI_l, lN_add, lN_mul, r_m1n, r_m1n', r_m1lt, r_m1nlt, r_m1le, r_m1nle, Nat.not_lt_zero, Nat.reduceEqDiff, Nat.reduceLT, Nat.reduceLeDiff, true_and, and_true, true_implies, false_implies, not_true_eq_false, not_false_eq_true, implies_true, and_self, ne_eq, decide_true, decide_false, Bool.not_true, Bool.not_false, if_true, if_false, reduceIte, mk0, mk1, mk2, mk3, mk4, mk5, mk6, mk7, mk8, mk9, mk10, mk11, mk12, mk13, mk14, mk15, mk16, mk17, mk18, mk19, mk20, mk21, mk22, mn1, mn2, mn3, mn4, mn5, mn6, mn7, mn8, mn9, mn10, mn11, mn12, mn13, mn14, mn15, mn16, mn17, mn18, mn19, mn20, mn21, mn22, mr1, mr6, mr7, mr8, mr9, mr10, mr21, mr22, mr23, mr25, mr26, mr29, mr30, mr32, mr33, mr34, mr43, mr47, mr53, mr54, mr55, mr56, r3]
      refine ⟨f.sI (by omega), fun i hi => ?_⟩
      by_cases e : i = j
      · rw [q_Ie rfl e, if_pos (by omega), e]
      · rw [q_In (by omega)]; exact g i (by omega)
  · rintro ⟨x, h1⟩ ⟨e1, f, g⟩
    dsimp only at e1 f g
    subst e1
    have s1 := f.s s
    unfold fX12_book_b80_i
    simp (disch := first | assumption | omega) only [p_some, p_gd, p_br, p_bi, p_nm, p_mp, p_Sl, p_Sr, p_bis, p_gdt, q_IL, q_IR, q_LI, q_LR, q_RI, q_RL, q_KI, q_KL, q_KR, q_NI, q_NL, q_NR, q_nI, q_nL, q_nR, q_okI, q_okL, q_okR, q_Ie, q_In, q_Le, q_Ln, SM_I, SM_L, s_c0, s_cg0, s_cl0, s_cge, s_cle, r_le, r_lt, r_eq, r_md, r_2, r_3, r_lit, r_litL, r_m1, nI_add, nI_1, nI_clamp, nI_leI, nI_ltI, nI_eq, pk_sub, q_ix, nI_l, lN_add, lN_mul, r_m1n, r_m1n', r_m1lt, r_m1nlt, r_m1le, r_m1nle, Nat.not_lt_zero, Nat.reduceEqDiff, Nat.reduceLT, Nat.reduceLeDiff, true_and, and_true, true_implies, false_implies, not_true_eq_false, not_false_eq_true, implies_true, and_self, ne_eq, decide_true, decide_false, Bool.not_true, Bool.not_false, if_true, if_false, reduceIte, mk0, mk1, mk2, mk3, mk4, mk5, mk6, mk7, mk8, mk9, mk10, mk11, mk12, mk13, mk14, mk15, mk16, mk17, mk18, mk19, mk20, mk21, mk22, mn1, mn2, mn3, mn4, mn5, mn6, mn7, mn8, mn9, mn10, mn11, mn12, mn13, mn14, mn15, mn16, mn17, mn18, mn19, mn20, mn21, mn22, mr1, mr6, mr7, mr8, mr9, mr10, mr21, mr22, mr23, mr25, mr26, mr29, mr30, mr32, mr33, mr34, mr43, mr47, mr53, mr54, mr55, mr56, Nat.le_refl]
    unfold fX12_book_b117
    refine p_for 14 (fun j w => w.1 = nI j ∧ m_fr (fun o k => o ≠ 5 ∨ 14 ≤ k) h1 w.2 ∧ ∀ i, i < j → z_L w.2 5 i = z_L h 5 (14 + i)) ?_ ?_ 0 (by omega) ⟨rfl, m_fr.rf, fun i hi => absurd hi (Nat.not_lt_zero _)⟩
    · rintro j ⟨x, h2⟩ hj ⟨e1, f2, g2⟩
      dsimp only at e1 f2 g2
      subst e1
      have s2 := f2.s s1
      have e5 := (f2.L 5 (14 + j) (by omega)).trans (f.L 5 (14 + j) (by omega))
      unfold fX12_book_b117_i
      simp (disch := first | assumption | omega) only [p_some, p_gd, p_br, p_bi, p_nm, p_mp, p_Sl, p_Sr, p_bis, p_gdt, q_IL, q_IR, q_LI, q_LR, q_RI, q_RL, q_KI, q_KL, q_KR, q_NI, q_NL, q_NR, q_nI, q_nL, q_nR, q_okI, q_okL, q_okR, q_Ie, q_In, q_Le, q_Ln, SM_I, SM_L, s_c0, s_cg0, s_cl0, s_cge, s_cle, r_le, r_lt, r_eq, r_md, r_2, r_3, r_lit, r_litL, r_m1, nI_add, nI_1, nI_clamp, nI_leI, nI_ltI, nI_eq, pk_sub, q_ix, nI_l, lN_add, lN_mul, r_m1n, r_m1n', r_m1lt, r_m1nlt, r_m1le, r_m1nle, Nat.not_lt_zero, Nat.reduceEqDiff, Nat.reduceLT, Nat.reduceLeDiff, true_and, and_true, true_implies, false_implies, not_true_eq_false, not_false_eq_true, implies_true, and_self, ne_eq, decide_true, decide_false, Bool.not_true, Bool.not_false, if_true, if_false, reduceIte, mk0, mk1, mk2, mk3, mk4, mk5, mk6, mk7, mk8, mk9, mk10, mk11, mk12, mk13, mk14, mk15, mk16, mk17, mk18, mk19, mk20, mk21, mk22, mn1, mn2, mn3, mn4, mn5, mn6, mn7, mn8, mn9, mn10, mn11, mn12, mn13, mn14, mn15, mn16, mn17, mn18, mn19, mn20, mn21, mn22, mr1, mr6, mr7, mr8, mr9, mr10, mr21, mr22, mr23, mr25, mr26, mr29, mr30, mr32, mr33, mr34, mr43, mr47, mr53, mr54, mr55, mr56, show ¬ 14 ≤ j by omega, e5]
      refine ⟨f2.sL (by omega), fun i hi => ?_⟩
      by_cases e : i = j
      · rw [q_Le rfl e, e]
      · rw [q_Ln (by omega)]; exact g2 i (by omega)
    · rintro ⟨x, h2⟩ ⟨e1, f2, g2⟩
      dsimp only at e1 f2 g2
      subst e1
      have s2 := f2.s s1
      have l19 := (f2.I 0 19 (by omega)).trans ((f.I 0 19 (by omega)).trans hl)
      unfold fX12_book_b117_i
      simp (disch := first | assumption | omega) only [p_some, p_gd, p_br, p_bi, p_nm, p_mp, p_Sl, p_Sr, p_bis, p_gdt, q_IL, q_IR, q_LI, q_LR, q_RI, q_RL, q_KI, q_KL, q_KR, q_NI, q_NL, q_NR, q_nI, q_nL, q_nR, q_okI, q_okL, q_okR, q_Ie, q_In, q_Le, q_Ln, SM_I, SM_L, s_c0, s_cg0, s_cl0, s_cge, s_cle, r_le, r_lt, r_eq, r_md, r_2, r_3, r_lit, r_litL, r_m1, nI_add, nI_1, nI_clamp, nI_leI, nI_ltI, nI_eq, pk_sub, q_ix, nI_l, lN_add, lN_mul, r_m1n, r_m1n', r_m1lt, r_m1nlt, r_m1le, r_m1nle, Nat.not_lt_zero, Nat.reduceEqDiff, Nat.reduceLT, Nat.reduceLeDiff, true_and, and_true, true_implies, false_implies, not_true_eq_false, not_false_eq_true, implies_true, and_self, ne_eq, decide_true, decide_false, Bool.not_true, Bool.not_false, if_true, if_false, reduceIte, mk0, mk1, mk2, mk3, mk4, mk5, mk6, mk7, mk8, mk9, mk10, mk11, mk12, mk13, mk14, mk15, mk16, mk17, mk18, mk19, mk20, mk21, mk22, mn1, mn2, mn3, mn4, mn5, mn6, mn7, mn8, mn9, mn10, mn11, mn12, mn13, mn14, mn15, mn16, mn17, mn18, mn19, mn20, mn21, mn22, mr1, mr6, mr7, mr8, mr9, mr10, mr21, mr22, mr23, mr25, mr26, mr29, mr30, mr32, mr33, mr34, mr43, mr47, mr53, mr54, mr55, mr56, Nat.le_refl, l19]
      refine k _ (((f.w (fun o k c => c.2.1)).tr (f2.w (fun o k c => c.2.2))).sI (by omega)) ⟨fun i hi => ?_, fun i h1 h2 => ?_, ⟨fun t ht => ?_, fun d hd => ?_⟩, q_Ie rfl rfl⟩
      · rw [q_In (by omega), f2.I 2 i (by omega), g i (by omega), if_pos hi]
      · rw [q_In (by omega), f2.I 2 i (by omega), g i (by omega), if_neg (by omega)]
      · show z_L h2 5 t = _
        rw [g2 t (by omega)]
        exact R.2.1 t ht
      · show z_L h2 5 (8 + d) = _
        rw [g2 (8 + d) (by omega), show 14 + (8 + d) = 22 + d by omega]
        exact R.2.2.1 d hd
