/-! what reads by tokens: the reference's small steps -/
def a_ne (by8 : Nat → Nat) (L lim : Nat) (t : Nat × Nat × Nat × Nat) : Nat × Nat × Nat × Nat := a_lex by8 L lim t.2.2.2
def a_kk (t : Nat × Nat × Nat × Nat) : Nat := if t.1 = 2 then a_wi t.2.1 + 1 else 0
theorem a_tok_E {by8 : Nat → Nat} {L q : Nat} (hq : q < L) : (a_tok by8 L q).2.2.2 ≤ L ∧ (a_tok by8 L q).2.2.1 ≤ L := by
  have r := a_run_le (P := fun i => a_A (by8 i)) (L - q) q
  unfold a_tok
  generalize a_run (fun i => a_A (by8 i)) (L - q) q = e at *
  split
  · split
    · exact ⟨by show e ≤ L; omega, by show q ≤ L; omega⟩
    · split
      · exact ⟨by show e ≤ L; omega, by show q ≤ L; omega⟩
      · exact ⟨Nat.zero_le _, by show q ≤ L; omega⟩
  · split
    · exact ⟨by show q + 1 ≤ L; omega, by show q ≤ L; omega⟩
    · exact ⟨Nat.zero_le _, by show q ≤ L; omega⟩
theorem a_lex_E {by8 : Nat → Nat} {L lim p : Nat} : (a_lex by8 L lim p).2.2.2 ≤ L ∧ (a_lex by8 L lim p).2.2.1 ≤ L := by
  unfold a_lex
  split
  · rename_i c
    exact ⟨Nat.zero_le _, by show lim ≤ L; omega⟩
  · split
    · exact ⟨Nat.zero_le _, Nat.le_refl _⟩
    · rename_i c
      exact a_tok_E (by omega)
def mRs (h : z_T) : Prop := ∀ k, k < 22 → z_L h 6 k = lN (a_c8 7 (a_wn (k + 1)))
def mL (by8 : Nat → Nat) (L lim : Nat) (h : z_T) (t : Nat × Nat × Nat × Nat) : Prop := SM h ∧ mTape h L lim by8 ∧ mTok h t ∧ (t.2.2.2 ≤ L ∧ t.2.2.1 ≤ L) ∧ BY L by8 ∧ lim ≤ 900 ∧ (mRs h ∧ z_I h 0 15 = nI 0)
def mGF (o k : Nat) : Prop := o ≠ 0 ∨ (k ≠ 4 ∧ k ≠ 11 ∧ k ≠ 12 ∧ k ≠ 13 ∧ k ≠ 14 ∧ k ≠ 15 ∧ k ≠ 16 ∧ k ≠ 17 ∧ k ≠ 18)
def mF (h : z_T) (e : Nat × Nat) : Prop := z_I h 0 15 = nI e.1 ∧ z_I h 0 16 = nI e.2
/-- what the token rests on is kept -/
def mKt (o k : Nat) : Prop := (o = 0 ∧ (k = 3 ∨ k = 4 ∨ k = 5 ∨ k = 11 ∨ k = 12 ∨ k = 14 ∨ k = 15 ∨ k = 17)) ∨ o = 1 ∨ o = 6
theorem mL.fr {by8 : Nat → Nat} {L lim : Nat} {h h' : z_T} {t : Nat × Nat × Nat × Nat} (l : mL by8 L lim h t) {C : Nat → Nat → Prop} (f : m_fr C h h') (hC : ∀ o k, mKt o k → C o k) : mL by8 L lim h' t := by
  obtain ⟨s, ⟨T1, T2, T3⟩, tk, hE, hb, hl, hr⟩ := l
  refine ⟨f.s s, ⟨(f.I 0 3 (hC _ _ (by unfold mKt; omega))).trans T1, (f.I 0 5 (hC _ _ (by unfold mKt; omega))).trans T2, fun i hi => (f.I 1 i (hC _ _ (by unfold mKt; omega))).trans (T3 i hi)⟩, ?_, hE, hb, hl, fun k hk => (f.L 6 k (hC _ _ (by unfold mKt; omega))).trans (hr.1 k hk), (f.I 0 15 (hC _ _ (by unfold mKt; omega))).trans hr.2⟩
  unfold mTok at tk ⊢
  rw [f.I 0 12 (hC _ _ (by unfold mKt; omega)), f.I 0 11 (hC _ _ (by unfold mKt; omega)), f.I 0 4 (hC _ _ (by unfold mKt; omega)), f.I 0 14 (hC _ _ (by unfold mKt; omega)), f.L 0 17 (hC _ _ (by unfold mKt; omega))]
  exact tk
theorem mTok.k {h : z_T} {t : Nat × Nat × Nat × Nat} (tk : mTok h t) : z_I h 0 12 = nI t.2.2.1 ∧ (t.1 = 2 → z_I h 0 11 = nI 1 ∧ z_L h 0 17 = lN (a_c8 7 t.2.1) ∧ 0 < t.2.1 ∧ t.2.1 < 32 ^ 7) ∧ (¬ t.1 = 2 → ¬ z_I h 0 11 = nI 1) ∧ (t.1 = 3 → z_I h 0 11 = nI 2 ∧ z_I h 0 14 = nI t.2.1 ∧ t.2.1 < 100) ∧ (¬ t.1 = 3 → ¬ z_I h 0 11 = nI 2) ∧ (a_S t.1 = true → z_I h 0 11 = nI 3 ∧ z_I h 0 14 = nI t.1) ∧ (¬ a_S t.1 = true → ¬ z_I h 0 11 = nI 3) ∧ (2 ≤ t.1 → z_I h 0 4 = nI t.2.2.2) ∧ (t.1 = 0 → z_I h 0 11 = nI 0) ∧ (¬ t.1 = 0 → ¬ z_I h 0 11 = nI 0) := by
  obtain ⟨t12, h0⟩ := tk
  have nS0 : ∀ k, k < 4 → ¬ a_S k = true := by decide
  have n4 : ∀ a b : Nat, a < 5 → b < 5 → a ≠ b → ¬ nI a = nI b := fun a b ha hb hn q => hn (by rw [nI_eq (by omega) (by omega)] at q; exact q)
  rcases h0 with ⟨e, g⟩ | ⟨e, g⟩ | ⟨e, g, g1, g2, g3, g4⟩ | ⟨e, g, g1, g2, g4⟩ | ⟨e, g, g1, g4⟩
  · rw [e, g]
    exact ⟨t12, fun q => absurd q (by decide), fun _ => by decide, fun q => absurd q (by decide), fun _ => by decide, fun q => absurd q (nS0 0 (by decide)), fun _ => by decide, fun q => absurd q (by decide), fun _ => rfl, fun q => absurd rfl q⟩
  · rw [e, g]
    exact ⟨t12, fun q => absurd q (by decide), fun _ => by decide, fun q => absurd q (by decide), fun _ => by decide, fun q => absurd q (nS0 1 (by decide)), fun _ => by decide, fun q => absurd q (by decide), fun q => absurd q (by decide), fun _ => by decide⟩
  · rw [e, g]
    exact ⟨t12, fun _ => ⟨rfl, g1, g2, g3⟩, fun q => absurd rfl q, fun q => absurd q (by decide), fun _ => by decide, fun q => absurd q (nS0 2 (by decide)), fun _ => by decide, fun _ => g4, fun q => absurd q (by decide), fun _ => by decide⟩
  · rw [e, g]
    exact ⟨t12, fun q => absurd q (by decide), fun _ => by decide, fun _ => ⟨rfl, g1, g2⟩, fun q => absurd rfl q, fun q => absurd q (nS0 3 (by decide)), fun _ => by decide, fun _ => g4, fun q => absurd q (by decide), fun _ => by decide⟩
  · have hS := mTok.S e
    rw [g]
    exact ⟨t12, fun q => by omega, fun _ => by decide, fun q => by omega, fun _ => by decide, fun _ => ⟨rfl, g1⟩, fun q => absurd e q, fun _ => g4, fun q => by omega, fun _ => by decide⟩
theorem m_goL {by8 : Nat → Nat} {L lim : Nat} {h : z_T} {t : Nat × Nat × Nat × Nat} {Q : z_T → Prop} (l : mL by8 L lim h t) (h2 : 2 ≤ t.1) (k : ∀ h', m_fr mGo h h' → mL by8 L lim h' (a_ne by8 L lim t) → Q h') : p_W (fX12_go 0 h) Q := by
  obtain ⟨s, T, tk, hE, hb, hl, hr⟩ := l
  exact m_go s T hb hl hE.1 (tk.k.2.2.2.2.2.2.2.1 h2) (fun h' f t' => k h' f ⟨f.s s, T.fr f, t', a_lex_E, hb, hl, fun j hj => (f.L 6 j (by unfold mGo; omega)).trans (hr.1 j hj), (f.I 0 15 (by unfold mGo; omega)).trans hr.2⟩)
theorem m_isWord {by8 : Nat → Nat} {L lim : Nat} {h : z_T} {t : Nat × Nat × Nat × Nat} (l : mL by8 L lim h t) {i W : Nat} (hi : i < 23) (h0 : 0 < i) (e : W = a_c8 7 (a_wn i)) : fX12_isWord 0 (lN W) h = some (bI (a_kk t = i + 1)) := by
  have s := l.1
  have tk := l.2.2.1.k
  have wb := a_wn_b i hi
  have cb := a_c8_lt 7 (a_wn i)
  refine p_of ?_
  unfold fX12_isWord fX12_isWord_b21
  by_cases c : t.1 = 2
  · obtain ⟨g1, g2, g3, g4⟩ := tk.2.1 c
    have cb2 := a_c8_lt 7 t.2.1
    have key : (a_kk t = i + 1) ↔ a_c8 7 t.2.1 = W := by
      unfold a_kk
      rw [if_pos c, e]
      have := a_wi_is (V := t.2.1) hi h0
      constructor
      · intro q
        rw [this.mp (by omega)]
      · intro q
        rw [this.mpr (a_c8_inj 7 _ _ g4 wb q)]
    rw [← e] at cb
    clear e
    generalize a_c8 7 t.2.1 = V at *
    simp (disch := first | assumption | omega) only [p_some, p_gd, p_br, p_bi, p_nm, p_mp, p_Sl, p_Sr, p_bis, p_gdt, Nat.not_lt_zero, Nat.reduceEqDiff, Nat.reduceLT, Nat.reduceLeDiff, true_and, and_true, true_implies, false_implies, not_true_eq_false, not_false_eq_true, implies_true, and_self, ne_eq, decide_true, decide_false, Bool.not_true, Bool.not_false, if_true, if_false, reduceIte, mk0 s, r_lit, g1, g2, s_c0, r_eq]
    refine ⟨fun q => ?_, fun q => ?_⟩
    · rw [bI_t (key.mpr q)]
    · rw [bI_f (fun z => q (key.mp z))]
  · have nk : ¬ a_kk t = i + 1 := by unfold a_kk; rw [if_neg c]; omega
    have g1 := tk.2.2.1 c
    rw [bI_f nk]
    simp (disch := first | assumption | omega) only [p_some, p_gd, p_br, p_bi, p_nm, p_mp, p_Sl, p_Sr, p_bis, p_gdt, Nat.not_lt_zero, Nat.reduceEqDiff, Nat.reduceLT, Nat.reduceLeDiff, true_and, and_true, true_implies, false_implies, not_true_eq_false, not_false_eq_true, implies_true, and_self, ne_eq, decide_true, decide_false, Bool.not_true, Bool.not_false, if_true, if_false, reduceIte, mk0 s, r_lit, g1]
theorem m_isName {by8 : Nat → Nat} {L lim : Nat} {h : z_T} {t : Nat × Nat × Nat × Nat} (l : mL by8 L lim h t) : fX12_isName 0 h = some (bI (a_kk t = 1)) := by
  have s := l.1
  have tk := l.2.2.1.k
  have hr := l.2.2.2.2.2.2.1
  have loop : ∀ b : Bool, (b = true → t.1 = 2) → fX12_isName_b13 0 (bI (b = true)) h = some (bI (b = true ∧ a_kk t = 1)) := fun b hb => by
    refine p_of ?_
    unfold fX12_isName_b13 fX12_isName_b16
    have k24 : a_kk t ≤ 23 := by
      have := a_wi_lt (V := t.2.1)
      unfold a_kk
      split <;> omega
    refine p_for 22 (fun j w => w = (bI (b = true ∧ ¬ (2 ≤ a_kk t ∧ a_kk t ≤ j + 1)), nI j)) ?_ ?_ 0 (by omega) (by
      refine Prod.ext (bI_c ?_) rfl
      exact ⟨fun q => ⟨q, fun z => by omega⟩, fun q => q.1⟩)
    · rintro j w hj rfl
      have rj := hr j hj
      have cb := a_c8_lt 7 (a_wn (j + 1))
      unfold fX12_isName_b16_i fX12_isName_b44 fX12_isName_b45
      simp (disch := first | assumption | omega) only [p_some, p_gd, p_br, p_bi, p_nm, p_mp, p_Sl, p_Sr, p_bis, p_gdt, q_IL, q_IR, q_LI, q_LR, q_RI, q_RL, q_KI, q_KL, q_KR, q_NI, q_NL, q_NR, q_nI, q_nL, q_nR, q_okI, q_okL, q_okR, q_Ie, q_In, q_Le, q_Ln, SM_I, SM_L, s_c0, s_cg0, s_cl0, s_cge, s_cle, r_le, r_lt, r_eq, r_md, r_2, r_3, r_lit, r_litL, r_m1, nI_add, nI_1, nI_clamp, nI_leI, nI_ltI, nI_eq, pk_sub, q_ix, nI_l, lN_add, lN_mul, r_m1n, r_m1n', r_m1lt, r_m1nlt, r_m1le, r_m1nle, Nat.not_lt_zero, Nat.reduceEqDiff, Nat.reduceLT, Nat.reduceLeDiff, true_and, and_true, true_implies, false_implies, not_true_eq_false, not_false_eq_true, implies_true, and_self, ne_eq, decide_true, decide_false, Bool.not_true, Bool.not_false, if_true, if_false, reduceIte, mk0, mk1, mk2, mk3, mk4, mk5, mk6, mk7, mk8, mk9, mk10, mk11, mk12, mk13, mk14, mk15, mk16, mk17, mk18, mk19, mk20, mk21, mk22, mn1, mn2, mn3, mn4, mn5, mn6, mn7, mn8, mn9, mn10, mn11, mn12, mn13, mn14, mn15, mn16, mn17, mn18, mn19, mn20, mn21, mn22, mr1, mr6, mr7, mr8, mr9, mr10, mr21, mr22, mr23, mr25, mr26, mr29, mr30, mr32, mr33, mr34, mr43, mr47, mr53, mr54, mr55, mr56, bI_0, show ¬ 22 ≤ j by omega]
      refine ⟨fun c => ?_, fun c => ?_⟩
      · refine Prod.ext ?_ rfl
        rw [bI_f (fun q => c ⟨q.1, fun z => q.2 (by omega)⟩)]
      · have c' := Classical.not_not.mp c
        obtain ⟨g1, g2, g3, g4⟩ := tk.2.1 (hb c'.1)
        have cb2 := a_c8_lt 7 t.2.1
        have key : (a_kk t = j + 1 + 1) ↔ a_c8 7 t.2.1 = a_c8 7 (a_wn (j + 1)) := by
          unfold a_kk
          rw [if_pos (hb c'.1)]
          have := a_wi_is (V := t.2.1) (i := j + 1) (by omega) (by omega)
          constructor
          · intro q
            rw [this.mp (by omega)]
          · intro q
            rw [this.mpr (a_c8_inj 7 _ _ g4 (a_wn_b _ (by omega)) q)]
        generalize a_c8 7 t.2.1 = V at *
        generalize a_c8 7 (a_wn (j + 1)) = W at *
        simp (disch := first | assumption | omega) only [p_some, p_gd, p_br, p_bi, p_nm, p_mp, p_Sl, p_Sr, p_bis, p_gdt, q_IL, q_IR, q_LI, q_LR, q_RI, q_RL, q_KI, q_KL, q_KR, q_NI, q_NL, q_NR, q_nI, q_nL, q_nR, q_okI, q_okL, q_okR, q_Ie, q_In, q_Le, q_Ln, SM_I, SM_L, s_c0, s_cg0, s_cl0, s_cge, s_cle, r_le, r_lt, r_eq, r_md, r_2, r_3, r_lit, r_litL, r_m1, nI_add, nI_1, nI_clamp, nI_leI, nI_ltI, nI_eq, pk_sub, q_ix, nI_l, lN_add, lN_mul, r_m1n, r_m1n', r_m1lt, r_m1nlt, r_m1le, r_m1nle, Nat.not_lt_zero, Nat.reduceEqDiff, Nat.reduceLT, Nat.reduceLeDiff, true_and, and_true, true_implies, false_implies, not_true_eq_false, not_false_eq_true, implies_true, and_self, ne_eq, decide_true, decide_false, Bool.not_true, Bool.not_false, if_true, if_false, reduceIte, mk0, mk1, mk2, mk3, mk4, mk5, mk6, mk7, mk8, mk9, mk10, mk11, mk12, mk13, mk14, mk15, mk16, mk17, mk18, mk19, mk20, mk21, mk22, mn1, mn2, mn3, mn4, mn5, mn6, mn7, mn8, mn9, mn10, mn11, mn12, mn13, mn14, mn15, mn16, mn17, mn18, mn19, mn20, mn21, mn22, mr1, mr6, mr7, mr8, mr9, mr10, mr21, mr22, mr23, mr25, mr26, mr29, mr30, mr32, mr33, mr34, mr43, mr47, mr53, mr54, mr55, mr56, rj, g2]
        refine ⟨fun q => ?_, fun q => ?_⟩
        · refine Prod.ext ?_ rfl
          have := key.mpr q
          rw [bI_f (fun z => z.2 (by omega))]
        · refine Prod.ext ?_ rfl
          have nk := fun z => q (key.mp z)
          rw [bI_t ⟨c'.1, fun z => c'.2 (by omega)⟩]
    · rintro w rfl
      unfold fX12_isName_b16_i
      simp (disch := first | assumption | omega) only [p_some, p_gd, p_br, p_bi, p_nm, p_mp, p_Sl, p_Sr, p_bis, p_gdt, Nat.not_lt_zero, Nat.reduceEqDiff, Nat.reduceLT, Nat.reduceLeDiff, true_and, and_true, true_implies, false_implies, not_true_eq_false, not_false_eq_true, implies_true, and_self, ne_eq, decide_true, decide_false, Bool.not_true, Bool.not_false, if_true, if_false, reduceIte, r_lit, nI_leI, Nat.le_refl, bI_y]
      have hk1 : b = true → 1 ≤ a_kk t := fun q => by
        unfold a_kk
        rw [if_pos (hb q)]
        omega
      exact bI_c ⟨fun q => ⟨q.1, by have := hk1 q.1; have := q.2; omega⟩, fun q => ⟨q.1, fun z => by omega⟩⟩
  refine p_of ?_
  unfold fX12_isName
  by_cases c : t.1 = 2
  · obtain ⟨g1, -⟩ := tk.2.1 c
    have := loop true (fun _ => c)
    rw [show bI (true = true) = nI 1 from rfl] at this
    simp (disch := first | assumption | omega) only [p_some, p_gd, p_br, p_bi, p_nm, p_mp, p_Sl, p_Sr, p_bis, p_gdt, Nat.not_lt_zero, Nat.reduceEqDiff, Nat.reduceLT, Nat.reduceLeDiff, true_and, and_true, true_implies, false_implies, not_true_eq_false, not_false_eq_true, implies_true, and_self, ne_eq, decide_true, decide_false, Bool.not_true, Bool.not_false, if_true, if_false, reduceIte, mk0 s, r_lit, g1, this]
  · have g1 := tk.2.2.1 c
    have := loop false (fun q => absurd q (by decide))
    rw [show bI (false = true) = nI 0 from rfl] at this
    have nk : ¬ a_kk t = 1 := by unfold a_kk; rw [if_neg c]; omega
    rw [bI_f nk]
    rw [bI_f (fun q => absurd q.1 (by decide))] at this
    simp (disch := first | assumption | omega) only [p_some, p_gd, p_br, p_bi, p_nm, p_mp, p_Sl, p_Sr, p_bis, p_gdt, Nat.not_lt_zero, Nat.reduceEqDiff, Nat.reduceLT, Nat.reduceLeDiff, true_and, and_true, true_implies, false_implies, not_true_eq_false, not_false_eq_true, implies_true, and_self, ne_eq, decide_true, decide_false, Bool.not_true, Bool.not_false, if_true, if_false, reduceIte, mk0 s, r_lit, g1, this]
theorem m_isSign {by8 : Nat → Nat} {L lim : Nat} {h : z_T} {t : Nat × Nat × Nat × Nat} (l : mL by8 L lim h t) {c : Nat} (hc : a_S c = true) : fX12_isSign 0 (nI c) h = some (bI (t.1 = c)) := by
  have s := l.1
  have tk := l.2.2.1.k
  have cS := mTok.S (t := (c, 0, 0, 0)) hc
  dsimp only at cS
  refine p_of ?_
  unfold fX12_isSign fX12_isSign_b20
  by_cases c2 : a_S t.1 = true
  · obtain ⟨g1, g2⟩ := tk.2.2.2.2.2.1 c2
    have tS := mTok.S c2
    simp (disch := first | assumption | omega) only [p_some, p_gd, p_br, p_bi, p_nm, p_mp, p_Sl, p_Sr, p_bis, p_gdt, Nat.not_lt_zero, Nat.reduceEqDiff, Nat.reduceLT, Nat.reduceLeDiff, true_and, and_true, true_implies, false_implies, not_true_eq_false, not_false_eq_true, implies_true, and_self, ne_eq, decide_true, decide_false, Bool.not_true, Bool.not_false, if_true, if_false, reduceIte, mk0 s, r_lit, g1, g2, nI_eq]
    refine ⟨fun q => ?_, fun q => ?_⟩
    · rw [bI_t q]
    · rw [bI_f q]
  · have g1 := tk.2.2.2.2.2.2.1 c2
    rw [bI_f (fun q => c2 (by rw [q]; exact hc))]
    simp (disch := first | assumption | omega) only [p_some, p_gd, p_br, p_bi, p_nm, p_mp, p_Sl, p_Sr, p_bis, p_gdt, Nat.not_lt_zero, Nat.reduceEqDiff, Nat.reduceLT, Nat.reduceLeDiff, true_and, and_true, true_implies, false_implies, not_true_eq_false, not_false_eq_true, implies_true, and_self, ne_eq, decide_true, decide_false, Bool.not_true, Bool.not_false, if_true, if_false, reduceIte, mk0 s, r_lit, g1]
theorem m_bad {by8 : Nat → Nat} {L lim : Nat} {h : z_T} {t : Nat × Nat × Nat × Nat} {F : Nat} {Q : Int32 × z_T → Prop} (l : mL by8 L lim h t) (k : ∀ h', m_fr mGF h h' → mF h' (F, t.2.2.1) → Q (nI 0, h')) : p_W (fX12_bad 0 (nI F) h) Q := by
  have s := l.1
  have tk := l.2.2.1.k.1
  unfold fX12_bad
  simp (disch := first | assumption | omega) only [p_some, p_gd, p_br, p_bi, p_nm, p_mp, p_Sl, p_Sr, p_bis, p_gdt, q_IL, q_IR, q_LI, q_LR, q_RI, q_RL, q_KI, q_KL, q_KR, q_NI, q_NL, q_NR, q_nI, q_nL, q_nR, q_okI, q_okL, q_okR, q_Ie, q_In, q_Le, q_Ln, SM_I, SM_L, s_c0, s_cg0, s_cl0, s_cge, s_cle, r_le, r_lt, r_eq, r_md, r_2, r_3, r_lit, r_litL, r_m1, nI_add, nI_1, nI_clamp, nI_leI, nI_ltI, nI_eq, pk_sub, q_ix, nI_l, lN_add, lN_mul, r_m1n, r_m1n', r_m1lt, r_m1nlt, r_m1le, r_m1nle, Nat.not_lt_zero, Nat.reduceEqDiff, Nat.reduceLT, Nat.reduceLeDiff, true_and, and_true, true_implies, false_implies, not_true_eq_false, not_false_eq_true, implies_true, and_self, ne_eq, decide_true, decide_false, Bool.not_true, Bool.not_false, if_true, if_false, reduceIte, mk0, mk1, mk2, mk3, mk4, mk5, mk6, mk7, mk8, mk9, mk10, mk11, mk12, mk13, mk14, mk15, mk16, mk17, mk18, mk19, mk20, mk21, mk22, mn1, mn2, mn3, mn4, mn5, mn6, mn7, mn8, mn9, mn10, mn11, mn12, mn13, mn14, mn15, mn16, mn17, mn18, mn19, mn20, mn21, mn22, mr1, mr6, mr7, mr8, mr9, mr10, mr21, mr22, mr23, mr25, mr26, mr29, mr30, mr32, mr33, mr34, mr43, mr47, mr53, mr54, mr55, mr56, tk]
  refine k _ ((m_fr.rf.sI (by unfold mGF; omega)).sI (by unfold mGF; omega)) ⟨(q_In (by omega)).trans (q_Ie rfl rfl), q_Ie rfl rfl⟩
theorem mGF.go {h h' : z_T} (f : m_fr mGo h h') : m_fr mGF h h' := f.w (fun o k c => by unfold mGF at c; unfold mGo; omega)
theorem m_sign {by8 : Nat → Nat} {L lim : Nat} {h : z_T} {t : Nat × Nat × Nat × Nat} {c : Nat} {Q : Int32 × z_T → Prop} (l : mL by8 L lim h t) (hc : a_S c = true) (k0 : ∀ h', ¬ t.1 = c → m_fr mGF h h' → mF h' (1, t.2.2.1) → Q (nI 0, h')) (k1 : ∀ h', t.1 = c → m_fr mGF h h' → mL by8 L lim h' (a_ne by8 L lim t) → Q (nI 1, h')) : p_W (fX12_sign 0 (nI c) h) Q := by
  have s := l.1
  have cS := mTok.S (t := (c, 0, 0, 0)) hc
  dsimp only at cS
  unfold fX12_sign
  simp (disch := first | assumption | omega) only [p_some, p_gd, p_br, p_bi, p_nm, p_mp, p_Sl, p_Sr, p_bis, p_gdt, Nat.not_lt_zero, Nat.reduceEqDiff, Nat.reduceLT, Nat.reduceLeDiff, true_and, and_true, true_implies, false_implies, not_true_eq_false, not_false_eq_true, implies_true, and_self, ne_eq, decide_true, decide_false, Bool.not_true, Bool.not_false, if_true, if_false, reduceIte, mk0 s, r_lit, m_isSign l hc, bI_0]
  refine ⟨fun q => ?_, fun q => ?_⟩
  · refine m_bad l (fun h1 f1 g1 => ?_)
    simp (disch := first | assumption | omega) only [p_some, p_gd, p_br, p_bi, p_nm, p_mp, p_Sl, p_Sr, p_bis, p_gdt, Nat.not_lt_zero, Nat.reduceEqDiff, Nat.reduceLT, Nat.reduceLeDiff, true_and, and_true, true_implies, false_implies, not_true_eq_false, not_false_eq_true, implies_true, and_self, ne_eq, decide_true, decide_false, Bool.not_true, Bool.not_false, if_true, if_false, reduceIte, show y_b (nI 0) = true from by decide]
    exact k0 h1 q f1 g1
  · have q' := Classical.not_not.mp q
    refine m_goL l (by omega) (fun h1 f1 l1 => ?_)
    exact k1 h1 q' (mGF.go f1) l1
theorem m_takes {by8 : Nat → Nat} {L lim : Nat} {h : z_T} {t : Nat × Nat × Nat × Nat} {lo hi : Nat} {Q : Int32 × z_T → Prop} (l : mL by8 L lim h t) (h1 : lo < 1000) (h2 : hi < 1000) (k0 : ∀ h' F, ((¬ t.1 = 3 ∧ F = 1) ∨ (t.1 = 3 ∧ ¬ (lo ≤ t.2.1 ∧ t.2.1 ≤ hi) ∧ F = 2)) → m_fr mGF h h' → mF h' (F, t.2.2.1) → Q (nI 0, h')) (k1 : ∀ h', t.1 = 3 → lo ≤ t.2.1 → t.2.1 ≤ hi → m_fr mGF h h' → mL by8 L lim h' (a_ne by8 L lim t) → z_I h' 0 18 = nI t.2.1 → Q (nI 1, h')) : p_W (fX12_takes 0 (nI lo) (nI hi) h) Q := by
  have s := l.1
  have tk := l.2.2.1.k
  unfold fX12_takes
  by_cases c : t.1 = 3
  · obtain ⟨g1, g2, g3⟩ := tk.2.2.2.1 c
    simp (disch := first | assumption | omega) only [p_some, p_gd, p_br, p_bi, p_nm, p_mp, p_Sl, p_Sr, p_bis, p_gdt, Nat.not_lt_zero, Nat.reduceEqDiff, Nat.reduceLT, Nat.reduceLeDiff, true_and, and_true, true_implies, false_implies, not_true_eq_false, not_false_eq_true, implies_true, and_self, ne_eq, decide_true, decide_false, Bool.not_true, Bool.not_false, if_true, if_false, reduceIte, mk0 s, r_lit, g1, g2, m_isIn, bI_0, nI_ltI]
    refine ⟨fun q => ?_, fun q => ?_⟩
    · refine m_bad l (fun h1 f1 b1 => ?_)
      simp (disch := first | assumption | omega) only [p_some, p_gd, p_br, p_bi, p_nm, p_mp, p_Sl, p_Sr, p_bis, p_gdt, Nat.not_lt_zero, Nat.reduceEqDiff, Nat.reduceLT, Nat.reduceLeDiff, true_and, and_true, true_implies, false_implies, not_true_eq_false, not_false_eq_true, implies_true, and_self, ne_eq, decide_true, decide_false, Bool.not_true, Bool.not_false, if_true, if_false, reduceIte, show y_b (nI 0) = true from by decide]
      exact k0 h1 2 (Or.inr ⟨c, fun z => q ⟨by omega, by omega⟩, rfl⟩) f1 b1
    · have q' := Classical.not_not.mp q
      have f0 : m_fr mGF h (z_sI h 0 18 (nI t.2.1)) := m_fr.rf.sI (by unfold mGF; omega)
      have l0 : mL by8 L lim (z_sI h 0 18 (nI t.2.1)) t := l.fr (C := fun o k => o ≠ 0 ∨ k ≠ 18) (m_fr.rf.sI (by omega)) (fun o k c => by unfold mKt at c; omega)
      have i0 : z_I (z_sI h 0 18 (nI t.2.1)) 0 18 = nI t.2.1 := q_Ie rfl rfl
      generalize z_sI h 0 18 (nI t.2.1) = h0 at *
      refine m_goL l0 (by omega) (fun h1 f1 l1 => ?_)
      exact k1 h1 c (by omega) (by omega) (f0.tr (mGF.go f1)) l1 ((f1.I 0 18 (by unfold mGo; omega)).trans i0)
  · have g1 := tk.2.2.2.2.1 c
    simp (disch := first | assumption | omega) only [p_some, p_gd, p_br, p_bi, p_nm, p_mp, p_Sl, p_Sr, p_bis, p_gdt, Nat.not_lt_zero, Nat.reduceEqDiff, Nat.reduceLT, Nat.reduceLeDiff, true_and, and_true, true_implies, false_implies, not_true_eq_false, not_false_eq_true, implies_true, and_self, ne_eq, decide_true, decide_false, Bool.not_true, Bool.not_false, if_true, if_false, reduceIte, mk0 s, r_lit, g1]
    refine m_bad l (fun h1 f1 b1 => ?_)
    simp (disch := first | assumption | omega) only [p_some, p_gd, p_br, p_bi, p_nm, p_mp, p_Sl, p_Sr, p_bis, p_gdt, Nat.not_lt_zero, Nat.reduceEqDiff, Nat.reduceLT, Nat.reduceLeDiff, true_and, and_true, true_implies, false_implies, not_true_eq_false, not_false_eq_true, implies_true, and_self, ne_eq, decide_true, decide_false, Bool.not_true, Bool.not_false, if_true, if_false, reduceIte, show y_b (nI 0) = true from by decide]
    exact k0 h1 1 (Or.inl ⟨c, rfl⟩) f1 b1
/-- the first of n names that is this word -/
def a_fi (f : Nat → Nat) (n V : Nat) : Int32 := if fa_first (fun k => decide (f k = V)) n < n then nI (fa_first (fun k => decide (f k = V)) n) else m1
theorem m_find {by8 : Nat → Nat} {L lim : Nat} {h : z_T} {t : Nat × Nat × Nat × Nat} {from0 n : Nat} {f : Nat → Nat} (l : mL by8 L lim h t) (h2 : t.1 = 2) (hf : ∀ k, k < n → z_L h 5 (from0 + k) = lN (a_c8 7 (f k)) ∧ f k < 32 ^ 7) (hn : from0 + n ≤ 28) : fX12_find 0 (nI from0) (nI n) h = some (a_fi f n t.2.1) := by
  have s := l.1
  obtain ⟨g1, g2, g3, g4⟩ := l.2.2.1.k.2.1 h2
  have cb2 := a_c8_lt 7 t.2.1
  refine p_of ?_
  unfold fX12_find fX12_find_b2
  refine p_for n (fun j w => w = nI j ∧ ∀ i, i < j → ¬ f i = t.2.1) ?_ ?_ 0 (by omega) ⟨rfl, fun i hi => absurd hi (Nat.not_lt_zero _)⟩
  · rintro j w hj ⟨rfl, g⟩
    obtain ⟨e1, e2⟩ := hf j hj
    have cb := a_c8_lt 7 (f j)
    have key : a_c8 7 (f j) = a_c8 7 t.2.1 ↔ f j = t.2.1 := ⟨a_c8_inj 7 _ _ e2 g4, fun q => by rw [q]⟩
    have fj : f j = t.2.1 → a_fi f n t.2.1 = nI j := fun q => by
      have le := fa_first_le (fun k => decide (f k = t.2.1)) n
      have lt : fa_first (fun k => decide (f k = t.2.1)) n ≤ j := by
        refine Classical.byContradiction (fun z => ?_)
        have := fa_first_no (fun k => decide (f k = t.2.1)) n j (by omega)
        exact absurd q (of_decide_eq_false this)
      have yes := of_decide_eq_true (fa_first_yes (fun k => decide (f k = t.2.1)) n (by omega))
      unfold a_fi
      rw [if_pos (by omega)]
      congr 1
      by_cases z : fa_first (fun k => decide (f k = t.2.1)) n = j
      · exact z
      · exact absurd yes (g _ (by omega))
    generalize a_c8 7 t.2.1 = V at *
    generalize a_c8 7 (f j) = W at *
    unfold fX12_find_b2_i
    simp (disch := first | assumption | omega) only [p_some, p_gd, p_br, p_bi, p_nm, p_mp, p_Sl, p_Sr, p_bis, p_gdt, q_IL, q_IR, q_LI, q_LR, q_RI, q_RL, q_KI, q_KL, q_KR, q_NI, q_NL, q_NR, q_nI, q_nL, q_nR, q_okI, q_okL, q_okR, q_Ie, q_In, q_Le, q_Ln, SM_I, SM_L, s_c0, s_cg0, s_cl0, s_cge, s_cle, r_le, r_lt, r_eq, r_md, r_2, r_3, r_lit, r_litL, r_m1, nI_add, nI_1, nI_clamp, nI_leI, nI_ltI, nI_eq, pk_sub, q_ix, nI_l, lN_add, lN_mul, r_m1n, r_m1n', r_m1lt, r_m1nlt, r_m1le, r_m1nle, Nat.not_lt_zero, Nat.reduceEqDiff, Nat.reduceLT, Nat.reduceLeDiff, true_and, and_true, true_implies, false_implies, not_true_eq_false, not_false_eq_true, implies_true, and_self, ne_eq, decide_true, decide_false, Bool.not_true, Bool.not_false, if_true, if_false, reduceIte, mk0, mk1, mk2, mk3, mk4, mk5, mk6, mk7, mk8, mk9, mk10, mk11, mk12, mk13, mk14, mk15, mk16, mk17, mk18, mk19, mk20, mk21, mk22, mn1, mn2, mn3, mn4, mn5, mn6, mn7, mn8, mn9, mn10, mn11, mn12, mn13, mn14, mn15, mn16, mn17, mn18, mn19, mn20, mn21, mn22, mr1, mr6, mr7, mr8, mr9, mr10, mr21, mr22, mr23, mr25, mr26, mr29, mr30, mr32, mr33, mr34, mr43, mr47, mr53, mr54, mr55, mr56, e1, g2, show ¬ n ≤ j by omega]
    refine ⟨fun q => ?_, fun q => ?_⟩
    · exact (fj (key.mp q)).symm
    · exact fun i hi => by
        by_cases e : i = j
        · rw [e]; exact fun z => q (key.mpr z)
        · exact g i (by omega)
  · rintro w ⟨rfl, g⟩
    unfold fX12_find_b2_i
    simp (disch := first | assumption | omega) only [p_some, p_gd, p_br, p_bi, p_nm, p_mp, p_Sl, p_Sr, p_bis, p_gdt, Nat.not_lt_zero, Nat.reduceEqDiff, Nat.reduceLT, Nat.reduceLeDiff, true_and, and_true, true_implies, false_implies, not_true_eq_false, not_false_eq_true, implies_true, and_self, ne_eq, decide_true, decide_false, Bool.not_true, Bool.not_false, if_true, if_false, reduceIte, r_lit, nI_leI, Nat.le_refl, r_m1]
    unfold a_fi
    rw [if_neg]
    intro c
    exact g _ c (of_decide_eq_true (fa_first_yes (fun k => decide (f k = t.2.1)) n c))
