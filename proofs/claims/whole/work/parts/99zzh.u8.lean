/-! leads of the class -/
theorem m_leads0 {h : z_T} {Q : Int32 × z_T → Prop} (s : SM h) (M0 : z_I h 2 49 = nI 0) (k : ∀ h', m_fr mKp h h' → Q (m1, h')) : p_W (fX12_leads 0 h) Q := by
  unfold fX12_leads
  simp (disch := first | assumption | omega) only [p_some, p_gd, p_br, p_bi, p_nm, p_mp, p_Sl, p_Sr, p_bis, p_gdt, q_IL, q_IR, q_LI, q_LR, q_RI, q_RL, q_KI, q_KL, q_KR, q_NI, q_NL, q_NR, q_nI, q_nL, q_nR, q_okI, q_okL, q_okR, q_Ie, q_In, q_Le, q_Ln, SM_I, SM_L, s_c0, s_cg0, s_cl0, s_cge, s_cle, r_le, r_lt, r_eq, r_md, r_2, r_3, r_lit, r_litL, r_m1, nI_add, nI_1, nI_clamp, nI_leI, nI_ltI, nI_eq, pk_sub, q_ix, nI_l, lN_add, lN_mul, r_m1n, r_m1n', r_m1lt, r_m1nlt, r_m1le, r_m1nle, Nat.not_lt_zero, Nat.reduceEqDiff, Nat.reduceLT, Nat.reduceLeDiff, true_and, and_true, true_implies, false_implies, not_true_eq_false, not_false_eq_true, implies_true, and_self, ne_eq, decide_true, decide_false, Bool.not_true, Bool.not_false, if_true, if_false, reduceIte, mk0, mk1, mk2, mk3, mk4, mk5, mk6, mk7, mk8, mk9, mk10, mk11, mk12, mk13, mk14, mk15, mk16, mk17, mk18, mk19, mk20, mk21, mk22, mn1, mn2, mn3, mn4, mn5, mn6, mn7, mn8, mn9, mn10, mn11, mn12, mn13, mn14, mn15, mn16, mn17, mn18, mn19, mn20, mn21, mn22, mr1, mr6, mr7, mr8, mr9, mr10, mr21, mr22, mr23, mr25, mr26, mr29, mr30, mr32, mr33, mr34, mr43, mr47, mr53, mr54, mr55, mr56, M0]
  exact k _ m_fr.t0
theorem x_nodeAt {h : z_T} {to cnt p : Nat} {nd : Nat → Nat} (T : xTn h to nd cnt) (hp : p < 32) : fX9_nodeAt to (nI p) h = some (a_nv (nd p)) := by
  obtain ⟨t1, t2, t3, t4, t5, t6⟩ := T
  have v := t5 p hp
  refine p_of ?_
  generalize a_nv (nd p) = c at *
  unfold fX9_nodeAt fX9_nodeAt_b22
  simp (disch := first | assumption | omega) only [p_some, p_gd, p_br, p_bi, p_nm, p_mp, p_Sl, p_Sr, p_bis, p_gdt, q_IL, q_IR, q_LI, q_LR, q_RI, q_RL, q_KI, q_KL, q_KR, q_NI, q_NL, q_NR, q_nI, q_nL, q_nR, q_okI, q_okL, q_okR, q_Ie, q_In, q_Le, q_Ln, SM_I, SM_L, s_c0, s_cg0, s_cl0, s_cge, s_cle, r_le, r_lt, r_eq, r_md, r_2, r_3, r_lit, r_litL, r_m1, nI_add, nI_1, nI_clamp, nI_leI, nI_ltI, nI_eq, pk_sub, q_ix, nI_l, lN_add, lN_mul, r_m1n, r_m1n', r_m1lt, r_m1nlt, r_m1le, r_m1nle, Nat.not_lt_zero, Nat.reduceEqDiff, Nat.reduceLT, Nat.reduceLeDiff, true_and, and_true, true_implies, false_implies, not_true_eq_false, not_false_eq_true, implies_true, and_self, ne_eq, decide_true, decide_false, Bool.not_true, Bool.not_false, if_true, if_false, reduceIte, t1, t2, t3, t4, v, show ¬ 32 ≤ p by omega, r_nlt0]
theorem x_leads0 {h : z_T} {bo n : Nat} {bk ans : Nat → Nat} (W : xNow h bo bk ans n) (r : z_R h 14 1 = none) : fX11_leads 0 h = some m1 := by
  obtain ⟨s, N, -⟩ := W
  refine p_of ?_
  unfold fX11_leads
  simp (disch := first | assumption | omega) only [p_some, p_gd, p_br, p_bi, p_nm, p_mp, p_Sl, p_Sr, p_bis, p_gdt, Nat.not_lt_zero, Nat.reduceEqDiff, Nat.reduceLT, Nat.reduceLeDiff, true_and, and_true, true_implies, false_implies, not_true_eq_false, not_false_eq_true, implies_true, and_self, ne_eq, decide_true, decide_false, Bool.not_true, Bool.not_false, if_true, if_false, reduceIte, xk0 s, xr0_3 s, xk14 s, r]
  refine p_op.mpr ⟨fun _ => p_some.mpr rfl, fun x e => (by cases e)⟩
theorem x_leads {h : z_T} {bo n to cnt : Nat} {bk ans nd : Nat → Nat} (W : xNow h bo bk ans n) (b : BOK bk) (hn : n ≤ 12) (ha : ∀ i, i < n → ans i < 2 * bk 0) (r : z_R h 14 1 = some to) (T : xTn h to nd cnt) (K : TOK (bk 0) nd) (Mb : ∀ q, nd q ≤ 10) : fX11_leads 0 h = some (a_leads nd ans n) := by
  obtain ⟨s, N, -⟩ := W
  have h8 := b.1
  refine p_of ?_
  generalize hQ : (fun w => w = a_leads nd ans n) = Q
  have kk : Q (a_leads nd ans n) := by rw [← hQ]
  clear hQ
  unfold fX11_leads
  simp (disch := first | assumption | omega) only [p_some, p_gd, p_br, p_bi, p_nm, p_mp, p_Sl, p_Sr, p_bis, p_gdt, Nat.not_lt_zero, Nat.reduceEqDiff, Nat.reduceLT, Nat.reduceLeDiff, true_and, and_true, true_implies, false_implies, not_true_eq_false, not_false_eq_true, implies_true, and_self, ne_eq, decide_true, decide_false, Bool.not_true, Bool.not_false, if_true, if_false, reduceIte, xk0 s, xr0_3 s, xk14 s, r]
  refine p_op.mpr ⟨fun e => (by cases e), fun x e => ?_⟩
  have e2 : x = to := (Option.some.inj e).symm
  subst e2
  simp (disch := first | assumption | omega) only [p_some, p_gd, p_br, p_bi, p_nm, p_mp, p_Sl, p_Sr, p_bis, p_gdt, Nat.not_lt_zero, Nat.reduceEqDiff, Nat.reduceLT, Nat.reduceLeDiff, true_and, and_true, true_implies, false_implies, not_true_eq_false, not_false_eq_true, implies_true, and_self, ne_eq, decide_true, decide_false, Bool.not_true, Bool.not_false, if_true, if_false, reduceIte, xr14_0 s, T.1]
  unfold fX9_actBehind fX9_actBehind_b4
  refine p_for n (fun i w => w = (nI (a_lp nd ans i), nI i) ∧ a_lp nd ans i ≠ 0) ?_ ?_ 0 (by omega) ⟨rfl, by show (1 : Nat) ≠ 0; omega⟩
  · rintro i w hi ⟨rfl, hp0⟩
    have an := ha i hi
    obtain ⟨p1, p2⟩ := a_lp_ok (ans := ans) K i hp0
    have na := x_nodeAt T p2
    have aa := x_answerAt N hn (nI i)
    unfold a_answer at aa
    rw [if_pos (q_ix hi (by omega)), nI_clamp (by omega)] at aa
    have vk := a_nv_k (nd (a_lp nd ans i)) (Mb _) (ans i / 2) (by omega)
    have vl := a_nv_lt (nd (a_lp nd ans i)) (Mb _)
    have lz := fun c => a_leads_0 (nd := nd) (ans := ans) (n := n) (i := i) hi c
    have ls : a_lp nd ans (i + 1) = if a_lp nd ans i ≠ 0 ∧ nd (a_lp nd ans i) = 3 + ans i / 2 then 2 * a_lp nd ans i + (1 - ans i % 2) else 0 := rfl
    have t1 := T.1
    have v1 := N.2.2.2.1
    have sh := s_h1 (a := ans i) (by omega)
    have an1 : nI (ans i) &&& nI 1 = nI (ans i % 2) := fa_mask (ans i) 1
    have m2 : ans i % 2 = 0 ∨ ans i % 2 = 1 := by omega
    generalize a_lp nd ans (i + 1) = p' at *
    generalize a_lp nd ans i = p at *
    generalize hc : nd p = c at *
    unfold fX9_actBehind_b4_i
    simp (disch := first | assumption | omega) only [p_some, p_gd, p_br, p_bi, p_nm, p_mp, p_Sl, p_Sr, p_bis, p_gdt, Nat.not_lt_zero, Nat.reduceEqDiff, Nat.reduceLT, Nat.reduceLeDiff, true_and, and_true, true_implies, false_implies, not_true_eq_false, not_false_eq_true, implies_true, and_self, ne_eq, decide_true, decide_false, Bool.not_true, Bool.not_false, if_true, if_false, reduceIte, xo_0 N.1, v1, r_lit, nI_leI, show ¬ n ≤ i by omega, aa, t1, na, sh]
    refine ⟨fun q => ?_, fun q => ⟨fun q2 => ?_, fun q2 => ?_⟩⟩
    · rw [lz (fun z => by have := vl.mp q; omega)] at kk
      exact kk
    · have e3 := (vk.mp ⟨q2, p1⟩)
      rw [if_pos ⟨hp0, e3⟩] at ls
      simp (disch := first | assumption | omega) only [p_some, p_gd, p_br, p_bi, p_nm, p_mp, p_Sl, p_Sr, p_bis, p_gdt, Nat.not_lt_zero, Nat.reduceEqDiff, Nat.reduceLT, Nat.reduceLeDiff, true_and, and_true, true_implies, false_implies, not_true_eq_false, not_false_eq_true, implies_true, and_self, ne_eq, decide_true, decide_false, Bool.not_true, Bool.not_false, if_true, if_false, reduceIte, pk_mul, nI_add, an1]
      refine ⟨Prod.ext ?_ rfl, by omega⟩
      rw [pk_sub (by omega), ls, show 2 * p + 1 - ans i % 2 = 2 * p + (1 - ans i % 2) by omega]
    · rw [lz (fun z => q2 (vk.mpr z.2).1)] at kk
      exact kk
  · rintro w ⟨rfl, hp0⟩
    obtain ⟨p1, p2⟩ := a_lp_ok (ans := ans) K n hp0
    have na := x_nodeAt T p2
    have c1 := a_nv_m1 (nd (a_lp nd ans n)) (Mb _)
    have cl := a_nv_lt (nd (a_lp nd ans n)) (Mb _)
    have c3 := a_nv_e (nd (a_lp nd ans n)) (Mb _) p1
    have t1 := T.1
    have v1 := N.2.2.2.1
    unfold a_leads at kk
    rw [if_neg hp0] at kk
    generalize a_lp nd ans n = p at *
    generalize nd p = c at *
    unfold fX9_actBehind_b4_i
    simp (disch := first | assumption | omega) only [p_some, p_gd, p_br, p_bi, p_nm, p_mp, p_Sl, p_Sr, p_bis, p_gdt, Nat.not_lt_zero, Nat.reduceEqDiff, Nat.reduceLT, Nat.reduceLeDiff, true_and, and_true, true_implies, false_implies, not_true_eq_false, not_false_eq_true, implies_true, and_self, ne_eq, decide_true, decide_false, Bool.not_true, Bool.not_false, if_true, if_false, reduceIte, xo_0 N.1, v1, r_lit, nI_leI, Nat.le_refl, t1, na]
    refine p_br.mpr ⟨fun q => p_some.mpr ?_, fun q => ?_⟩
    · have nl : ¬ (c = 1 ∨ c = 2) := fun z => absurd (cl.mpr z) (Int32.not_lt.mpr q)
      rw [if_neg (fun z => nl (Or.inl z)), if_neg (fun z => nl (Or.inr z))] at kk
      rw [c3 (fun z => nl (Or.inl z)) (fun z => nl (Or.inr z))]
      exact kk
    · have l := cl.mp (Int32.not_le.mp q)
      refine p_br.mpr ⟨fun q2 => p_some.mpr ?_, fun q2 => p_some.mpr ?_⟩
      · rw [if_pos (c1.mp q2)] at kk; exact kk
      · rw [if_neg (fun z => q2 (c1.mpr z)), if_pos (l.resolve_left (fun z => q2 (c1.mpr z)))] at kk; exact kk
