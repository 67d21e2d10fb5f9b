/-! nights as they are judged: a line, the reference -/
/-- a judge's state: the place, the night's answers, the nights begun, the answers given -/
abbrev a_JS := Nat × Nat × (Nat → Nat) × Nat × Nat
abbrev a_ws (bk ans : Nat → Nat) (p n : Nat) : Prop := ¬ 9 * (if p = 0 then a_all bk ans n - a_lk bk ans 0 n else a_lk bk ans 0 n) < bk 4 * a_all bk ans n
def a_jg (bk : Nat → Nat) (c v : Nat) (s : a_JS) : Nat × a_JS :=
  if c = 0 then (0, (v, 0, s.2.2.1, s.2.2.2.1 + 1, s.2.2.2.2))
  else if c = 1 then (if a_fa (a_od bk s.2.2.1 s.2.1 s.1 (v / 2)) (v % 2) = 0 then (1, s)
    else if a_ws bk (a_u s.2.2.1 s.2.1 v) s.1 (s.2.1 + 1) then (2, (s.1, s.2.1 + 1, a_u s.2.2.1 s.2.1 v, s.2.2.2.1, s.2.2.2.2))
    else (0, (s.1, s.2.1 + 1, a_u s.2.2.1 s.2.1 v, s.2.2.2.1, s.2.2.2.2 + 1)))
  else if (bk 6 * (a_all bk s.2.2.1 s.2.1 - a_lk bk s.2.2.1 0 s.2.1) ≤ bk 5 * a_lk bk s.2.2.1 0 s.2.1 ↔ c = 2) then (0, s) else (3, s)
theorem a_ws_b {bk ans : Nat → Nat} {n : Nat} (b : BOK bk) (hn : n ≤ 12) (ha : ∀ i, i < n → ans i < 2 * bk 0) : a_lk bk ans 0 n ≤ a_all bk ans n ∧ a_all bk ans n ≤ 39540135107340 ∧ bk 4 * a_all bk ans n ≤ 9 * 39540135107340 := by
  obtain ⟨b1, b2, b3, b4⟩ := a_up_b b hn ha
  refine ⟨b1, b2, Nat.mul_le_mul ?_ b2⟩
  have := b.2.2.2.2.1
  omega
def mJs (h : z_T) (bk : Nat → Nat) (s : a_JS) : Prop := mNi h bk s.2.1 s.2.2.1 ∧ z_I h 0 45 = nI s.1 ∧ z_I h 17 1 = nI s.2.2.2.1 ∧ z_I h 17 2 = nI s.2.2.2.2
def JOK (bk : Nat → Nat) (m : Nat) (s : a_JS) : Prop := s.1 ≤ bk 1 ∧ s.2.1 ≤ 12 ∧ (∀ i, i < s.2.1 → s.2.2.1 i < 2 * bk 0) ∧ s.2.2.2.1 ≤ m ∧ s.2.2.2.2 ≤ m
theorem mNi.add2 {h : z_T} {bk ans : Nat → Nat} {n v : Nat} (hN : mNi h bk n ans) (hn : n < 12) : mNi (z_sI (z_sI h 2 (37 + n) (nI v)) 2 36 (nI (n + 1))) bk (n + 1) (a_u ans n v) ∧ m_fr (fun o k => o ≠ 2 ∨ k < 36 ∨ 49 ≤ k) h (z_sI (z_sI h 2 (37 + n) (nI v)) 2 36 (nI (n + 1))) := ⟨(hN.add hn).1, (m_fr.rf.sI (by omega)).sI (by omega)⟩
def mJf (o k : Nat) : Prop := (o ≠ 0 ∨ k ≠ 45) ∧ (o ≠ 2 ∨ k < 36 ∨ 49 ≤ k) ∧ o ≠ 7 ∧ (o ≠ 17 ∨ (k ≠ 1 ∧ k ≠ 2))
theorem m_wrongIn {h : z_T} {bk : Nat → Nat} {st : a_JS} {c v m : Nat} {x2 : Int32} {Q : Int32 × z_T → Prop} (s : SM h) (b : BOK bk) (hB : mB h bk) (j1 : z_I h 17 1 = nI st.2.2.2.1) (j2 : z_I h 17 2 = nI st.2.2.2.2) (g1 : st.2.2.2.1 ≤ m) (g2 : st.2.2.2.2 ≤ m) (J : ¬ c = 0 → mJs h bk st ∧ JOK bk m st) (hm : m ≤ 40) (hc : c ≤ 3) (hx : c ≤ 1 → x2 = nI v) (hv0 : c = 0 → v ≤ bk 1) (hv1 : c = 1 → v < 2 * bk 0 ∧ st.2.1 < 12)
    (k : ∀ h', m_fr mJf h h' → mJs h' bk (a_jg bk c v st).2 → Q (nI (a_jg bk c v st).1, h')) : p_W (fX12_wrongIn 0 (nI c) x2 h) Q := by
  obtain ⟨p, n, ans, bg, aw⟩ := st
  dsimp only at j1 j2 g1 g2 hv1
  have h8 := b.1
  have h6 := b.2.1
  unfold a_jg at k
  dsimp only at k
  unfold fX12_wrongIn
  by_cases c0 : c = 0
  · subst c0
    have hv := hv0 rfl
    obtain rfl := hx (by omega)
    rw [if_pos rfl] at k
    simp (disch := first | assumption | omega) only [p_some, p_gd, p_br, p_bi, p_nm, p_mp, p_Sl, p_Sr, p_bis, p_gdt, q_IL, q_IR, q_LI, q_LR, q_RI, q_RL, q_KI, q_KL, q_KR, q_NI, q_NL, q_NR, q_nI, q_nL, q_nR, q_okI, q_okL, q_okR, q_Ie, q_In, q_Le, q_Ln, SM_I, SM_L, s_c0, s_cg0, s_cl0, s_cge, s_cle, r_le, r_lt, r_eq, r_md, r_2, r_3, r_lit, r_litL, r_m1, nI_add, nI_1, nI_clamp, nI_leI, nI_ltI, nI_eq, pk_sub, q_ix, nI_l, lN_add, lN_mul, r_m1n, r_m1n', r_m1lt, r_m1nlt, r_m1le, r_m1nle, Nat.not_lt_zero, Nat.reduceEqDiff, Nat.reduceLT, Nat.reduceLeDiff, true_and, and_true, true_implies, false_implies, not_true_eq_false, not_false_eq_true, implies_true, and_self, ne_eq, decide_true, decide_false, Bool.not_true, Bool.not_false, if_true, if_false, reduceIte, mk0, mk1, mk2, mk3, mk4, mk5, mk6, mk7, mk8, mk9, mk10, mk11, mk12, mk13, mk14, mk15, mk16, mk17, mk18, mk19, mk20, mk21, mk22, mn1, mn2, mn3, mn4, mn5, mn6, mn7, mn8, mn9, mn10, mn11, mn12, mn13, mn14, mn15, mn16, mn17, mn18, mn19, mn20, mn21, mn22, mr1, mr6, mr7, mr8, mr9, mr10, mr21, mr22, mr23, mr25, mr26, mr29, mr30, mr32, mr33, mr34, mr43, mr47, mr53, mr54, mr55, mr56, j1]
    refine k _ ((((m_fr.rf.sI (by unfold mJf; omega)).sI (by unfold mJf; omega)).sI (by unfold mJf; omega))) ⟨⟨fun k hk => ?_, ?_, fun i hi => absurd hi (Nat.not_lt_zero i)⟩, ?_, ?_, ?_⟩
    · rw [q_In (by omega), q_In (by omega), q_In (by omega)]; exact hB k hk
    · rw [q_In (by omega), q_Ie rfl rfl]
    · rw [q_In (by omega), q_In (by omega), q_Ie rfl rfl]
    · rw [q_Ie rfl rfl]
    · rw [q_In (by omega), q_In (by omega), q_In (by omega)]; exact j2
  · rw [if_neg c0] at k
    obtain ⟨⟨hN, h45, -, -⟩, hp, hn, ha, -, -⟩ := J c0
    dsimp only at hN h45 hp hn ha
    by_cases c1 : c = 1
    · subst c1
      obtain ⟨hv, hn2⟩ := hv1 rfl
      obtain rfl := hx (by omega)
      rw [if_pos rfl] at k
      have ho := b.od (ans := ans) (n := n) (q := p) (t := v / 2) (by omega)
      have hod := m_oddsOf (ans := ans) (q := p) (t := v / 2) (m := n) s b hN.1 hN.2.2 (fun j hj => by have := ha j hj; omega) (by omega) (by omega) (by omega)
      have ha1 : ∀ i, i < n + 1 → a_u ans n v i < 2 * bk 0 := fun i hi => by
        unfold a_u
        split
        · exact hv
        · exact ha i (by omega)
      obtain ⟨N3, f3⟩ := hN.add2 (v := v) hn2
      obtain ⟨w1, w2, w3⟩ := a_ws_b (ans := a_u ans n v) (n := n + 1) b (by omega) ha1
      have s3 : SM (z_sI (z_sI h 2 (37 + n) (nI v)) 2 36 (nI (n + 1))) := s
      have h4 := b.2.2.2.2.1
      have key : ∀ o, o = a_fa (a_od bk ans n p (v / 2)) (v % 2) → p_W (fX12_wrongIn_b91 0 (nI v) (nI o) h) Q := fun o eo => by
        rw [← eo] at k
        have o9 : o ≤ 9 := by rw [eo]; unfold a_fa; split <;> omega
        unfold fX12_wrongIn_b91
        simp (disch := first | assumption | omega) only [p_some, p_gd, p_br, p_bi, p_nm, p_mp, p_Sl, p_Sr, p_bis, p_gdt, q_IL, q_IR, q_LI, q_LR, q_RI, q_RL, q_KI, q_KL, q_KR, q_NI, q_NL, q_NR, q_nI, q_nL, q_nR, q_okI, q_okL, q_okR, q_Ie, q_In, q_Le, q_Ln, SM_I, SM_L, s_c0, s_cg0, s_cl0, s_cge, s_cle, r_le, r_lt, r_eq, r_md, r_2, r_3, r_lit, r_litL, r_m1, nI_add, nI_1, nI_clamp, nI_leI, nI_ltI, nI_eq, pk_sub, q_ix, nI_l, lN_add, lN_mul, r_m1n, r_m1n', r_m1lt, r_m1nlt, r_m1le, r_m1nle, Nat.not_lt_zero, Nat.reduceEqDiff, Nat.reduceLT, Nat.reduceLeDiff, true_and, and_true, true_implies, false_implies, not_true_eq_false, not_false_eq_true, implies_true, and_self, ne_eq, decide_true, decide_false, Bool.not_true, Bool.not_false, if_true, if_false, reduceIte, mk0, mk1, mk2, mk3, mk4, mk5, mk6, mk7, mk8, mk9, mk10, mk11, mk12, mk13, mk14, mk15, mk16, mk17, mk18, mk19, mk20, mk21, mk22, mn1, mn2, mn3, mn4, mn5, mn6, mn7, mn8, mn9, mn10, mn11, mn12, mn13, mn14, mn15, mn16, mn17, mn18, mn19, mn20, mn21, mn22, mr1, mr6, mr7, mr8, mr9, mr10, mr21, mr22, mr23, mr25, mr26, mr29, mr30, mr32, mr33, mr34, mr43, mr47, mr53, mr54, mr55, mr56, m_adds s hN hn2]
        refine ⟨fun q => ?_, fun q => ?_⟩
        · rw [if_pos q] at k
          exact k h m_fr.rf ⟨hN, h45, j1, j2⟩
        · rw [if_neg q] at k
          generalize z_sI (z_sI h 2 (37 + n) (nI v)) 2 36 (nI (n + 1)) = h3 at *
          refine m_likesQ s3 b N3.1 N3.2.2 ha1 (by omega) (fun h4 f4 hj => ?_)
          have s4 := f4.s s3
          have N4 : mNi h4 bk (n + 1) (a_u ans n v) := N3.fr f4 (fun k => by decide)
          have F4 : m_fr mJf h h4 := (f3.w (fun o k c => by unfold mJf at c; omega)).tr (f4.w (fun o k c => c.2.2.1))
          have i45 : z_I h4 0 45 = nI p := (f4.I 0 45 (by omega)).trans ((f3.I 0 45 (by omega)).trans h45)
          have i1 : z_I h4 17 1 = nI bg := (f4.I 17 1 (by omega)).trans ((f3.I 17 1 (by omega)).trans j1)
          have i2 : z_I h4 17 2 = nI aw := (f4.I 17 2 (by omega)).trans ((f3.I 17 2 (by omega)).trans j2)
          have e0 := hj 0 (Nat.zero_le _)
          have b4 := N4.1 4 (by decide)
          have fin : ∀ S, S = (if p = 0 then a_all bk (a_u ans n v) (n + 1) - a_lk bk (a_u ans n v) 0 (n + 1) else a_lk bk (a_u ans n v) 0 (n + 1)) → p_W (fX12_wrongIn_b139 0 (lN (a_all bk (a_u ans n v) (n + 1))) (lN S) h4) Q := fun S eS => by
            have S9 : S ≤ 39540135107340 := by rw [eS]; split <;> omega
            unfold a_ws at k
            rw [← eS] at k
            unfold fX12_wrongIn_b139
            simp (disch := first | assumption | omega) only [p_some, p_gd, p_br, p_bi, p_nm, p_mp, p_Sl, p_Sr, p_bis, p_gdt, q_IL, q_IR, q_LI, q_LR, q_RI, q_RL, q_KI, q_KL, q_KR, q_NI, q_NL, q_NR, q_nI, q_nL, q_nR, q_okI, q_okL, q_okR, q_Ie, q_In, q_Le, q_Ln, SM_I, SM_L, s_c0, s_cg0, s_cl0, s_cge, s_cle, r_le, r_lt, r_eq, r_md, r_2, r_3, r_lit, r_litL, r_m1, nI_add, nI_1, nI_clamp, nI_leI, nI_ltI, nI_eq, pk_sub, q_ix, nI_l, lN_add, lN_mul, r_m1n, r_m1n', r_m1lt, r_m1nlt, r_m1le, r_m1nle, Nat.not_lt_zero, Nat.reduceEqDiff, Nat.reduceLT, Nat.reduceLeDiff, true_and, and_true, true_implies, false_implies, not_true_eq_false, not_false_eq_true, implies_true, and_self, ne_eq, decide_true, decide_false, Bool.not_true, Bool.not_false, if_true, if_false, reduceIte, mk0, mk1, mk2, mk3, mk4, mk5, mk6, mk7, mk8, mk9, mk10, mk11, mk12, mk13, mk14, mk15, mk16, mk17, mk18, mk19, mk20, mk21, mk22, mn1, mn2, mn3, mn4, mn5, mn6, mn7, mn8, mn9, mn10, mn11, mn12, mn13, mn14, mn15, mn16, mn17, mn18, mn19, mn20, mn21, mn22, mr1, mr6, mr7, mr8, mr9, mr10, mr21, mr22, mr23, mr25, mr26, mr29, mr30, mr32, mr33, mr34, mr43, mr47, mr53, mr54, mr55, mr56, b4, i2]
            refine ⟨fun z => ?_, fun z => ?_⟩
            · rw [if_neg (fun q => q (by omega))] at k
              refine k _ (F4.sI (by unfold mJf; omega)) ⟨⟨fun k hk => (q_In (by omega)).trans (N4.1 k hk), (q_In (by omega)).trans N4.2.1, fun i hi => (q_In (by omega)).trans (N4.2.2 i hi)⟩, (q_In (by omega)).trans i45, (q_In (by omega)).trans i1, q_Ie rfl rfl⟩
            · rw [if_pos (by omega)] at k
              exact k _ F4 ⟨N4, i45, i1, i2⟩
          simp (disch := first | assumption | omega) only [p_some, p_gd, p_br, p_bi, p_nm, p_mp, p_Sl, p_Sr, p_bis, p_gdt, q_IL, q_IR, q_LI, q_LR, q_RI, q_RL, q_KI, q_KL, q_KR, q_NI, q_NL, q_NR, q_nI, q_nL, q_nR, q_okI, q_okL, q_okR, q_Ie, q_In, q_Le, q_Ln, SM_I, SM_L, s_c0, s_cg0, s_cl0, s_cge, s_cle, r_le, r_lt, r_eq, r_md, r_2, r_3, r_lit, r_litL, r_m1, nI_add, nI_1, nI_clamp, nI_leI, nI_ltI, nI_eq, pk_sub, q_ix, nI_l, lN_add, lN_mul, r_m1n, r_m1n', r_m1lt, r_m1nlt, r_m1le, r_m1nle, Nat.not_lt_zero, Nat.reduceEqDiff, Nat.reduceLT, Nat.reduceLeDiff, true_and, and_true, true_implies, false_implies, not_true_eq_false, not_false_eq_true, implies_true, and_self, ne_eq, decide_true, decide_false, Bool.not_true, Bool.not_false, if_true, if_false, reduceIte, mk0, mk1, mk2, mk3, mk4, mk5, mk6, mk7, mk8, mk9, mk10, mk11, mk12, mk13, mk14, mk15, mk16, mk17, mk18, mk19, mk20, mk21, mk22, mn1, mn2, mn3, mn4, mn5, mn6, mn7, mn8, mn9, mn10, mn11, mn12, mn13, mn14, mn15, mn16, mn17, mn18, mn19, mn20, mn21, mn22, mr1, mr6, mr7, mr8, mr9, mr10, mr21, mr22, mr23, mr25, mr26, mr29, mr30, mr32, mr33, mr34, mr43, mr47, mr53, mr54, mr55, mr56, i45, e0, lN_sub]
          refine ⟨fun z => ?_, fun z => ?_⟩
          · exact fin _ (by rw [if_pos z])
          · exact fin _ (by rw [if_neg z])
      simp (disch := first | assumption | omega) only [p_some, p_gd, p_br, p_bi, p_nm, p_mp, p_Sl, p_Sr, p_bis, p_gdt, q_IL, q_IR, q_LI, q_LR, q_RI, q_RL, q_KI, q_KL, q_KR, q_NI, q_NL, q_NR, q_nI, q_nL, q_nR, q_okI, q_okL, q_okR, q_Ie, q_In, q_Le, q_Ln, SM_I, SM_L, s_c0, s_cg0, s_cl0, s_cge, s_cle, r_le, r_lt, r_eq, r_md, r_2, r_3, r_lit, r_litL, r_m1, nI_add, nI_1, nI_clamp, nI_leI, nI_ltI, nI_eq, pk_sub, q_ix, nI_l, lN_add, lN_mul, r_m1n, r_m1n', r_m1lt, r_m1nlt, r_m1le, r_m1nle, Nat.not_lt_zero, Nat.reduceEqDiff, Nat.reduceLT, Nat.reduceLeDiff, true_and, and_true, true_implies, false_implies, not_true_eq_false, not_false_eq_true, implies_true, and_self, ne_eq, decide_true, decide_false, Bool.not_true, Bool.not_false, if_true, if_false, reduceIte, mk0, mk1, mk2, mk3, mk4, mk5, mk6, mk7, mk8, mk9, mk10, mk11, mk12, mk13, mk14, mk15, mk16, mk17, mk18, mk19, mk20, mk21, mk22, mn1, mn2, mn3, mn4, mn5, mn6, mn7, mn8, mn9, mn10, mn11, mn12, mn13, mn14, mn15, mn16, mn17, mn18, mn19, mn20, mn21, mn22, mr1, mr6, mr7, mr8, mr9, mr10, mr21, mr22, mr23, mr25, mr26, mr29, mr30, mr32, mr33, mr34, mr43, mr47, mr53, mr54, mr55, mr56, h45, hN.2.1, pk_div, pk_mul, hod]
      refine ⟨fun z => ?_, fun z => ?_⟩
      · exact key _ (by unfold a_fa; rw [if_pos (by omega)])
      · exact key _ (by unfold a_fa; rw [if_neg (by omega)])
    · rw [if_neg c1] at k
      simp (disch := first | assumption | omega) only [p_some, p_gd, p_br, p_bi, p_nm, p_mp, p_Sl, p_Sr, p_bis, p_gdt, q_IL, q_IR, q_LI, q_LR, q_RI, q_RL, q_KI, q_KL, q_KR, q_NI, q_NL, q_NR, q_nI, q_nL, q_nR, q_okI, q_okL, q_okR, q_Ie, q_In, q_Le, q_Ln, SM_I, SM_L, s_c0, s_cg0, s_cl0, s_cge, s_cle, r_le, r_lt, r_eq, r_md, r_2, r_3, r_lit, r_litL, r_m1, nI_add, nI_1, nI_clamp, nI_leI, nI_ltI, nI_eq, pk_sub, q_ix, nI_l, lN_add, lN_mul, r_m1n, r_m1n', r_m1lt, r_m1nlt, r_m1le, r_m1nle, Nat.not_lt_zero, Nat.reduceEqDiff, Nat.reduceLT, Nat.reduceLeDiff, true_and, and_true, true_implies, false_implies, not_true_eq_false, not_false_eq_true, implies_true, and_self, ne_eq, decide_true, decide_false, Bool.not_true, Bool.not_false, if_true, if_false, reduceIte, mk0, mk1, mk2, mk3, mk4, mk5, mk6, mk7, mk8, mk9, mk10, mk11, mk12, mk13, mk14, mk15, mk16, mk17, mk18, mk19, mk20, mk21, mk22, mn1, mn2, mn3, mn4, mn5, mn6, mn7, mn8, mn9, mn10, mn11, mn12, mn13, mn14, mn15, mn16, mn17, mn18, mn19, mn20, mn21, mn22, mr1, mr6, mr7, mr8, mr9, mr10, mr21, mr22, mr23, mr25, mr26, mr29, mr30, mr32, mr33, mr34, mr43, mr47, mr53, mr54, mr55, mr56, c0, show ¬ c ≤ 1 by omega]
      refine m_isUp s b hN hn ha (fun h1 f u => ?_) (fun h1 f u => ?_)
      · have F : m_fr mJf h h1 := f.w (fun o k c => c.2.2.1)
        have J1 : mJs h1 bk (p, n, ans, bg, aw) := ⟨hN.fr f (fun k => by decide), (f.I 0 45 (by decide)).trans h45, (f.I 17 1 (by decide)).trans j1, (f.I 17 2 (by decide)).trans j2⟩
        unfold fX12_wrongIn_b48
        simp (disch := first | assumption | omega) only [p_some, p_gd, p_br, p_bi, p_nm, p_mp, p_Sl, p_Sr, p_bis, p_gdt, q_IL, q_IR, q_LI, q_LR, q_RI, q_RL, q_KI, q_KL, q_KR, q_NI, q_NL, q_NR, q_nI, q_nL, q_nR, q_okI, q_okL, q_okR, q_Ie, q_In, q_Le, q_Ln, SM_I, SM_L, s_c0, s_cg0, s_cl0, s_cge, s_cle, r_le, r_lt, r_eq, r_md, r_2, r_3, r_lit, r_litL, r_m1, nI_add, nI_1, nI_clamp, nI_leI, nI_ltI, nI_eq, pk_sub, q_ix, nI_l, lN_add, lN_mul, r_m1n, r_m1n', r_m1lt, r_m1nlt, r_m1le, r_m1nle, Nat.not_lt_zero, Nat.reduceEqDiff, Nat.reduceLT, Nat.reduceLeDiff, true_and, and_true, true_implies, false_implies, not_true_eq_false, not_false_eq_true, implies_true, and_self, ne_eq, decide_true, decide_false, Bool.not_true, Bool.not_false, if_true, if_false, reduceIte, mk0, mk1, mk2, mk3, mk4, mk5, mk6, mk7, mk8, mk9, mk10, mk11, mk12, mk13, mk14, mk15, mk16, mk17, mk18, mk19, mk20, mk21, mk22, mn1, mn2, mn3, mn4, mn5, mn6, mn7, mn8, mn9, mn10, mn11, mn12, mn13, mn14, mn15, mn16, mn17, mn18, mn19, mn20, mn21, mn22, mr1, mr6, mr7, mr8, mr9, mr10, mr21, mr22, mr23, mr25, mr26, mr29, mr30, mr32, mr33, mr34, mr43, mr47, mr53, mr54, mr55, mr56]
        refine ⟨fun z => ?_, fun z => ?_⟩
        · rw [if_pos ⟨fun _ => z, fun _ => u⟩] at k
          exact k h1 F J1
        · rw [if_neg (fun q => z (q.mp u))] at k
          exact k h1 F J1
      · have F : m_fr mJf h h1 := f.w (fun o k c => c.2.2.1)
        have J1 : mJs h1 bk (p, n, ans, bg, aw) := ⟨hN.fr f (fun k => by decide), (f.I 0 45 (by decide)).trans h45, (f.I 17 1 (by decide)).trans j1, (f.I 17 2 (by decide)).trans j2⟩
        unfold fX12_wrongIn_b48
        simp (disch := first | assumption | omega) only [p_some, p_gd, p_br, p_bi, p_nm, p_mp, p_Sl, p_Sr, p_bis, p_gdt, q_IL, q_IR, q_LI, q_LR, q_RI, q_RL, q_KI, q_KL, q_KR, q_NI, q_NL, q_NR, q_nI, q_nL, q_nR, q_okI, q_okL, q_okR, q_Ie, q_In, q_Le, q_Ln, SM_I, SM_L, s_c0, s_cg0, s_cl0, s_cge, s_cle, r_le, r_lt, r_eq, r_md, r_2, r_3, r_lit, r_litL, r_m1, nI_add, nI_1, nI_clamp, nI_leI, nI_ltI, nI_eq, pk_sub, q_ix, nI_l, lN_add, lN_mul, r_m1n, r_m1n', r_m1lt, r_m1nlt, r_m1le, r_m1nle, Nat.not_lt_zero, Nat.reduceEqDiff, Nat.reduceLT, Nat.reduceLeDiff, true_and, and_true, true_implies, false_implies, not_true_eq_false, not_false_eq_true, implies_true, and_self, ne_eq, decide_true, decide_false, Bool.not_true, Bool.not_false, if_true, if_false, reduceIte, mk0, mk1, mk2, mk3, mk4, mk5, mk6, mk7, mk8, mk9, mk10, mk11, mk12, mk13, mk14, mk15, mk16, mk17, mk18, mk19, mk20, mk21, mk22, mn1, mn2, mn3, mn4, mn5, mn6, mn7, mn8, mn9, mn10, mn11, mn12, mn13, mn14, mn15, mn16, mn17, mn18, mn19, mn20, mn21, mn22, mr1, mr6, mr7, mr8, mr9, mr10, mr21, mr22, mr23, mr25, mr26, mr29, mr30, mr32, mr33, mr34, mr43, mr47, mr53, mr54, mr55, mr56]
        refine ⟨fun z => ?_, fun z => ?_⟩
        · rw [if_neg (fun q => u (q.mpr z))] at k
          exact k h1 F J1
        · rw [if_pos ⟨fun q => absurd q u, fun q => absurd q z⟩] at k
          exact k h1 F J1
