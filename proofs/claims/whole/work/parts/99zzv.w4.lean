/-! nights as they are judged, all lines, the reference -/
def mJg (o k : Nat) : Prop := mJf o k ∧ (o ≠ 17 ∨ k ≠ 0)
theorem m_jgLoop {bk ac va : Nat → Nat} {n asked : Nat} {Q : Int32 × z_T → Prop} (b : BOK bk) (W : WL bk ac va n asked) : ∀ m (h : z_T) i (st : a_JS), m + i = n → JI bk ac i st → SM h → mB h bk → mRd h ac va n → z_I h 0 41 = nI n → z_I h 17 0 = nI 0 → z_I h 17 1 = nI st.2.2.2.1 → z_I h 17 2 = nI st.2.2.2.2 → (¬ i = 0 → mJs h bk st) →
    (∀ h', m_fr mJg h h' → z_I h' 17 0 = nI (a_jl bk ac va m i st).2.1 → z_I h' 17 1 = nI (a_jl bk ac va m i st).2.2.2.2.2.1 → z_I h' 17 2 = nI (a_jl bk ac va m i st).2.2.2.2.2.2 → p_W (fX12_nights_b165 0 (a_jI (a_jl bk ac va m i st).1) h') Q) →
    p_W (y_lp (fun q : Int32 × Int32 × z_T => fX12_nights_b108_i 0 q.1 q.2.1 q.2.2) (m1, nI i, h)) Q := by
  intro m
  have n40 := W.1
  induction m with
  | zero =>
    intro h i st hm JJ s hB rd h41 h5 j1 j2 J k
    refine p_unP (fun P hP => ?_)
    unfold fX12_nights_b108_i
    rw [a_jl] at k
    have kk := k h m_fr.rf h5 j1 j2
    simp (disch := first | assumption | omega) only [p_some, p_gd, p_br, p_bi, p_nm, p_mp, p_Sl, p_Sr, p_bis, p_gdt, Nat.not_lt_zero, Nat.reduceEqDiff, Nat.reduceLT, Nat.reduceLeDiff, true_and, and_true, true_implies, false_implies, not_true_eq_false, not_false_eq_true, implies_true, and_self, ne_eq, decide_true, decide_false, Bool.not_true, Bool.not_false, if_true, if_false, reduceIte, mk0 s, h41, r_lit, nI_leI, show n ≤ i by omega]
    exact kk
  | succ m ih =>
    intro h i st hm JJ s hB rd h41 h5 j1 j2 J k
    have hi : i < n := by omega
    obtain ⟨ra, rv⟩ := rd i hi
    obtain ⟨c3, v0, v1⟩ := W.2.2.2.2 i hi
    refine p_unP (fun P hP => ?_)
    unfold fX12_nights_b108_i
    rw [a_jl] at k
    simp (disch := first | assumption | omega) only [p_some, p_gd, p_br, p_bi, p_nm, p_mp, p_Sl, p_Sr, p_bis, p_gdt, q_IL, q_IR, q_LI, q_LR, q_RI, q_RL, q_KI, q_KL, q_KR, q_NI, q_NL, q_NR, q_nI, q_nL, q_nR, q_okI, q_okL, q_okR, q_Ie, q_In, q_Le, q_Ln, SM_I, SM_L, s_c0, s_cg0, s_cl0, s_cge, s_cle, r_le, r_lt, r_eq, r_md, r_2, r_3, r_lit, r_litL, r_m1, nI_add, nI_1, nI_clamp, nI_leI, nI_ltI, nI_eq, pk_sub, q_ix, nI_l, lN_add, lN_mul, r_m1n, r_m1n', r_m1lt, r_m1nlt, r_m1le, r_m1nle, Nat.not_lt_zero, Nat.reduceEqDiff, Nat.reduceLT, Nat.reduceLeDiff, true_and, and_true, true_implies, false_implies, not_true_eq_false, not_false_eq_true, implies_true, and_self, ne_eq, decide_true, decide_false, Bool.not_true, Bool.not_false, if_true, if_false, reduceIte, mk0, mk1, mk2, mk3, mk4, mk5, mk6, mk7, mk8, mk9, mk10, mk11, mk12, mk13, mk14, mk15, mk16, mk17, mk18, mk19, mk20, mk21, mk22, mn1, mn2, mn3, mn4, mn5, mn6, mn7, mn8, mn9, mn10, mn11, mn12, mn13, mn14, mn15, mn16, mn17, mn18, mn19, mn20, mn21, mn22, mr1, mr6, mr7, mr8, mr9, mr10, mr21, mr22, mr23, mr25, mr26, mr29, mr30, mr32, mr33, mr34, mr43, mr47, mr53, mr54, mr55, mr56, h41, pk_mul, ra, show ¬ n ≤ i by omega]
    have i0 : ¬ ac i = 0 → ¬ i = 0 := fun q z => by subst z; exact q (W.2.2.2.1 hi)
    have g3 := JJ.2.2
    refine m_wrongIn (m := i) (v := va i) s b hB j1 j2 JJ.1 JJ.2.1 (fun q => ⟨J (i0 q), (g3 (i0 q)).1⟩) (by omega) c3 rv v0 (fun q => ⟨(v1 q).1, by have := (g3 (i0 (by omega))).2; have := (v1 q).2; omega⟩) (fun h1 f J1 => ?_)
    have s1 := f.s s
    have wle := a_jg_le (bk := bk) (c := ac i) (v := va i) (st := st)
    have JG := JI.go W hi JJ
    generalize a_jg bk (ac i) (va i) st = w at *
    obtain ⟨N1, i4, i6, i7⟩ := J1
    have F : m_fr mJg h (z_sI h1 17 0 (nI w.1)) := (f.w (fun o k c => c.1)).sI (by unfold mJg; omega)
    have J2 : mJs (z_sI h1 17 0 (nI w.1)) bk w.2 := ⟨N1.fr (C := fun o _ => o ≠ 17) (m_fr.rf.sI (by omega)) (fun k => by omega), (q_In (by omega)).trans i4, (q_In (by omega)).trans i6, (q_In (by omega)).trans i7⟩
    have y5 : z_I (z_sI h1 17 0 (nI w.1)) 17 0 = nI w.1 := q_Ie rfl rfl
    have s2 : SM (z_sI h1 17 0 (nI w.1)) := s1
    have y2 : z_I (z_sI h1 17 0 (nI w.1)) 0 41 = nI n := (F.I 0 41 (by unfold mJg mJf; omega)).trans h41
    have rd2 : mRd (z_sI h1 17 0 (nI w.1)) ac va n := fun j hj => ⟨(F.I 4 _ (by unfold mJg mJf; omega)).trans (rd j hj).1, fun z => (F.I 4 _ (by unfold mJg mJf; omega)).trans ((rd j hj).2 z)⟩
    simp (disch := first | assumption | omega) only [p_some, p_gd, p_br, p_bi, p_nm, p_mp, p_Sl, p_Sr, p_bis, p_gdt, q_IL, q_IR, q_LI, q_LR, q_RI, q_RL, q_KI, q_KL, q_KR, q_NI, q_NL, q_NR, q_nI, q_nL, q_nR, q_okI, q_okL, q_okR, q_Ie, q_In, q_Le, q_Ln, SM_I, SM_L, s_c0, s_cg0, s_cl0, s_cge, s_cle, r_le, r_lt, r_eq, r_md, r_2, r_3, r_lit, r_litL, r_m1, nI_add, nI_1, nI_clamp, nI_leI, nI_ltI, nI_eq, pk_sub, q_ix, nI_l, lN_add, lN_mul, r_m1n, r_m1n', r_m1lt, r_m1nlt, r_m1le, r_m1nle, Nat.not_lt_zero, Nat.reduceEqDiff, Nat.reduceLT, Nat.reduceLeDiff, true_and, and_true, true_implies, false_implies, not_true_eq_false, not_false_eq_true, implies_true, and_self, ne_eq, decide_true, decide_false, Bool.not_true, Bool.not_false, if_true, if_false, reduceIte, mk17 s1, mn17 s1, mk0 s1, mr43 s1, y5]
    generalize z_sI h1 17 0 (nI w.1) = h3 at *
    refine ⟨fun z => ?_, fun z => ?_⟩
    · have z : w.1 = 0 := by omega
      rw [if_pos z] at k
      unfold fX12_nights_b159
      simp (disch := first | assumption | omega) only [p_some, p_gd, p_br, p_bi, p_nm, p_mp, p_Sl, p_Sr, p_bis, p_gdt, q_IL, q_IR, q_LI, q_LR, q_RI, q_RL, q_KI, q_KL, q_KR, q_NI, q_NL, q_NR, q_nI, q_nL, q_nR, q_okI, q_okL, q_okR, q_Ie, q_In, q_Le, q_Ln, SM_I, SM_L, s_c0, s_cg0, s_cl0, s_cge, s_cle, r_le, r_lt, r_eq, r_md, r_2, r_3, r_lit, r_litL, r_m1, nI_add, nI_1, nI_clamp, nI_leI, nI_ltI, nI_eq, pk_sub, q_ix, nI_l, lN_add, lN_mul, r_m1n, r_m1n', r_m1lt, r_m1nlt, r_m1le, r_m1nle, Nat.not_lt_zero, Nat.reduceEqDiff, Nat.reduceLT, Nat.reduceLeDiff, true_and, and_true, true_implies, false_implies, not_true_eq_false, not_false_eq_true, implies_true, and_self, ne_eq, decide_true, decide_false, Bool.not_true, Bool.not_false, if_true, if_false, reduceIte]
      refine hP _ ?_
      rw [z] at y5
      exact ih h3 (i + 1) w.2 (by omega) (JG z) s2 J2.1.1 rd2 y2 y5 J2.2.2.1 J2.2.2.2 (fun _ => J2) (fun h4 f4 a1 a2 a3 => k h4 (F.tr f4) a1 a2 a3)
    · rw [if_neg (by omega)] at k
      have kk := k h3 F y5 J2.2.2.1 J2.2.2.2
      unfold fX12_nights_b159
      simp (disch := first | assumption | omega) only [p_some, p_gd, p_br, p_bi, p_nm, p_mp, p_Sl, p_Sr, p_bis, p_gdt, q_IL, q_IR, q_LI, q_LR, q_RI, q_RL, q_KI, q_KL, q_KR, q_NI, q_NL, q_NR, q_nI, q_nL, q_nR, q_okI, q_okL, q_okR, q_Ie, q_In, q_Le, q_Ln, SM_I, SM_L, s_c0, s_cg0, s_cl0, s_cge, s_cle, r_le, r_lt, r_eq, r_md, r_2, r_3, r_lit, r_litL, r_m1, nI_add, nI_1, nI_clamp, nI_leI, nI_ltI, nI_eq, pk_sub, q_ix, nI_l, lN_add, lN_mul, r_m1n, r_m1n', r_m1lt, r_m1nlt, r_m1le, r_m1nle, Nat.not_lt_zero, Nat.reduceEqDiff, Nat.reduceLT, Nat.reduceLeDiff, true_and, and_true, true_implies, false_implies, not_true_eq_false, not_false_eq_true, implies_true, and_self, ne_eq, decide_true, decide_false, Bool.not_true, Bool.not_false, if_true, if_false, reduceIte]
      refine hP _ (p_unP (fun P hP => ?_))
      unfold fX12_nights_b108_i
      rw [show a_jI (some i) = nI i from rfl] at kk
      simp (disch := first | assumption | omega) only [p_some, p_gd, p_br, p_bi, p_nm, p_mp, p_Sl, p_Sr, p_bis, p_gdt, q_IL, q_IR, q_LI, q_LR, q_RI, q_RL, q_KI, q_KL, q_KR, q_NI, q_NL, q_NR, q_nI, q_nL, q_nR, q_okI, q_okL, q_okR, q_Ie, q_In, q_Le, q_Ln, SM_I, SM_L, s_c0, s_cg0, s_cl0, s_cge, s_cle, r_le, r_lt, r_eq, r_md, r_2, r_3, r_lit, r_litL, r_m1, nI_add, nI_1, nI_clamp, nI_leI, nI_ltI, nI_eq, pk_sub, q_ix, nI_l, lN_add, lN_mul, r_m1n, r_m1n', r_m1lt, r_m1nlt, r_m1le, r_m1nle, Nat.not_lt_zero, Nat.reduceEqDiff, Nat.reduceLT, Nat.reduceLeDiff, true_and, and_true, true_implies, false_implies, not_true_eq_false, not_false_eq_true, implies_true, and_self, ne_eq, decide_true, decide_false, Bool.not_true, Bool.not_false, if_true, if_false, reduceIte, mk0 s2, y2, show 0 ≤ i from Nat.zero_le i]
      exact ⟨fun _ => kk, fun _ => kk⟩
