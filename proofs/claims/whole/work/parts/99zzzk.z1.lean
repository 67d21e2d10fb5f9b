/-! the reference reads an operand's beginning -/
def mSf (n o k : Nat) : Prop := mGF o k ∧ (o ≠ 0 ∨ (k ≠ 48 ∧ k ≠ 49 ∧ k ≠ 50 ∧ k ≠ 51 ∧ k ≠ 52)) ∧ o ≠ 4 ∧ (o ≠ 18 ∨ k < n)
theorem mSf.gf {n : Nat} {h h' : z_T} (f : m_fr mGF h h') : m_fr (mSf n) h h' := f.w (fun o k c => c.1)
theorem mSf.df {n : Nat} {h h' : z_T} (f : m_fr mDf h h') : m_fr (mSf n) h h' := f.w (fun o k c => by obtain ⟨c1, c2, c3, c4⟩ := c; unfold mDf; omega)
theorem mSf.up {n n' : Nat} {h h' : z_T} (hn : n ≤ n') (f : m_fr (mSf n') h h') : m_fr (mSf n) h h' := f.w (fun o k c => by obtain ⟨c1, c2, c3, c4⟩ := c; exact ⟨c1, c2, c3, by omega⟩)
theorem mL.df {by8 : Nat → Nat} {L lim : Nat} {h h' : z_T} {t : a_tk} (l : mL by8 L lim h t) (f : m_fr mDf h h') : mL by8 L lim h' t := l.fr f (fun o k c => by unfold mKt at c; unfold mDf; omega)
def a_lfI (k : Nat) : Int32 := if k = 18 then nI 0 else if k = 20 then nI 1 else if k = 19 then nI 2 else if 21 ≤ k then nI (k - 18) else m1
theorem m_leafOf {by8 : Nat → Nat} {L lim : Nat} {h : z_T} {t : a_tk} (l : mL by8 L lim h t) : fX12_leafOf 0 h = some (a_lfI (a_kk t)) := by
  have s := l.1
  have w17 := m_isWord l (i := 17) (W := 1735356260) (by decide) (by decide) (by decide)
  have w18 := m_isWord l (i := 18) (W := 1801810036) (by decide) (by decide) (by decide)
  have w19 := m_isWord l (i := 19) (W := 418548245860) (by decide) (by decide) (by decide)
  have w20 := m_isWord l (i := 20) (W := 491495845235) (by decide) (by decide) (by decide)
  have w21 := m_isWord l (i := 21) (W := 110442489933171) (by decide) (by decide) (by decide)
  have w22 := m_isWord l (i := 22) (W := 482854658917) (by decide) (by decide) (by decide)
  have k23 := a_kk23 t
  unfold fX12_leafOf
  simp only [mk0 s, p_gdt, r_litL, w17, w18, w19, w20, w21, w22, p_bis]
  generalize a_kk t = K at *
  clear w17 w18 w19 w20 w21 w22 l s
  have key : ∀ K, K < 24 → (y_br (bI (K = 17 + 1) = 0) (y_br (bI (K = 19 + 1) = 0) (y_br (bI (K = 18 + 1) = 0) (y_br (bI (K = 20 + 1) = 0) (y_br (bI (K = 21 + 1) = 0) (y_br (bI (K = 22 + 1) = 0) (some (-1 : Int32)) (some (5 : Int32))) (some (4 : Int32))) (some (3 : Int32))) (some (2 : Int32))) (some (1 : Int32))) (some (0 : Int32))) = some (a_lfI K) := by decide +kernel
  exact key K (by omega)
theorem mCd.pu {h : z_T} {cf : Nat → Nat} {c w s n : Nat} (C : mCd h cf c) : mCd h (a_cpu cf c w s n) c := ⟨C.1, fun i hi => by rw [a_cpu_lo hi]; exact C.2 i hi⟩
theorem mCd.fr {C : Nat → Nat → Prop} {h h' : z_T} {cf : Nat → Nat} {c : Nat} (d : mCd h cf c) (f : m_fr C h h') (h1 : C 0 48) (h2 : ∀ i, C 4 i) : mCd h' cf c := ⟨(f.I 0 48 h1).trans d.1, fun i hi => (f.I 4 i (h2 i)).trans (d.2 i hi)⟩
theorem m_code' {h : z_T} {cf : Nat → Nat} {c w s n : Nat} {x1 x2 x3 : Int32} {Q : z_T → Prop} (sm : SM h) (hC : mCd h cf c) (hc : c < 45) (e1 : x1 = nI w) (e2 : x2 = nI s) (e3 : x3 = nI n)
    (k : ∀ h', m_fr (fun o k => o ≠ 4 ∧ (o ≠ 0 ∨ k ≠ 48)) h h' → mCd h' (a_cpu cf c w s n) (c + 1) → Q h') : p_W (fX12_code 0 x1 x2 x3 h) Q :=
  m_code sm hC.pu hc (by rw [a_cpu_0]; exact e1) (by rw [a_cpu_1]; exact e2) (by rw [a_cpu_2]; exact e3) k
theorem m_open84 {h : z_T} {n D x v : Nat} {Q : Int32 × z_T → Prop} (s : SM h) (i50 : z_I h 0 50 = nI n) (i51 : z_I h 0 51 = nI D) (hn : n < 45) (hD : D < 100) (hv : (x = 0 ∧ v = 23) ∨ (x = 1 ∧ v = 20))
    (k : ∀ h', m_fr (fun o k => (o ≠ 0 ∨ (k ≠ 50 ∧ k ≠ 51)) ∧ (o ≠ 18 ∨ k ≠ n)) h h' → z_I h' 0 50 = nI (n + 1) → z_I h' 0 51 = nI (D + 1) → z_I h' 18 n = nI v → Q (nI 1, h')) : p_W (fX12_operand_b84 0 (nI x) h) Q := by
  have fin : p_W (fX12_operand_b103 0 18 (nI n) (nI v) h) Q := by
    unfold fX12_operand_b103
    simp (disch := first | assumption | omega) only [p_some, p_gd, p_br, p_bi, p_nm, p_mp, p_Sl, p_Sr, p_bis, p_gdt, q_IL, q_IR, q_LI, q_LR, q_RI, q_RL, q_KI, q_KL, q_KR, q_NI, q_NL, q_NR, q_nI, q_nL, q_nR, q_okI, q_okL, q_okR, q_Ie, q_In, q_Le, q_Ln, SM_I, SM_L, s_c0, s_cg0, s_cl0, s_cge, s_cle, r_le, r_lt, r_eq, r_md, r_2, r_3, r_lit, r_litL, r_m1, nI_add, nI_1, nI_clamp, nI_leI, nI_ltI, nI_eq, pk_sub, q_ix, nI_l, lN_add, lN_mul, r_m1n, r_m1n', r_m1lt, r_m1nlt, r_m1le, r_m1nle, Nat.not_lt_zero, Nat.reduceEqDiff, Nat.reduceLT, Nat.reduceLeDiff, true_and, and_true, true_implies, false_implies, not_true_eq_false, not_false_eq_true, implies_true, and_self, ne_eq, decide_true, decide_false, Bool.not_true, Bool.not_false, if_true, if_false, reduceIte, mk0, mk1, mk2, mk3, mk4, mk5, mk6, mk7, mk8, mk9, mk10, mk11, mk12, mk13, mk14, mk15, mk16, mk17, mk18, mk19, mk20, mk21, mk22, mn1, mn2, mn3, mn4, mn5, mn6, mn7, mn8, mn9, mn10, mn11, mn12, mn13, mn14, mn15, mn16, mn17, mn18, mn19, mn20, mn21, mn22, mr1, mr6, mr7, mr8, mr9, mr10, mr21, mr22, mr23, mr25, mr26, mr29, mr30, mr32, mr33, mr34, mr43, mr47, mr53, mr54, mr55, mr56, i50, i51]
    refine k _ (((m_fr.rf.sI (by omega)).sI (by omega)).sI (by omega)) ((q_In (by omega)).trans (q_Ie rfl rfl)) (q_Ie rfl rfl) ?_
    rw [q_In (by omega), q_In (by omega), q_Ie rfl rfl]
  unfold fX12_operand_b84
  rcases hv with ⟨rfl, rfl⟩ | ⟨rfl, rfl⟩
  · simp (disch := first | assumption | omega) only [p_some, p_gd, p_br, p_bi, p_nm, p_mp, p_Sl, p_Sr, p_bis, p_gdt, q_IL, q_IR, q_LI, q_LR, q_RI, q_RL, q_KI, q_KL, q_KR, q_NI, q_NL, q_NR, q_nI, q_nL, q_nR, q_okI, q_okL, q_okR, q_Ie, q_In, q_Le, q_Ln, SM_I, SM_L, s_c0, s_cg0, s_cl0, s_cge, s_cle, r_le, r_lt, r_eq, r_md, r_2, r_3, r_lit, r_litL, r_m1, nI_add, nI_1, nI_clamp, nI_leI, nI_ltI, nI_eq, pk_sub, q_ix, nI_l, lN_add, lN_mul, r_m1n, r_m1n', r_m1lt, r_m1nlt, r_m1le, r_m1nle, Nat.not_lt_zero, Nat.reduceEqDiff, Nat.reduceLT, Nat.reduceLeDiff, true_and, and_true, true_implies, false_implies, not_true_eq_false, not_false_eq_true, implies_true, and_self, ne_eq, decide_true, decide_false, Bool.not_true, Bool.not_false, if_true, if_false, reduceIte, mk0, mk1, mk2, mk3, mk4, mk5, mk6, mk7, mk8, mk9, mk10, mk11, mk12, mk13, mk14, mk15, mk16, mk17, mk18, mk19, mk20, mk21, mk22, mn1, mn2, mn3, mn4, mn5, mn6, mn7, mn8, mn9, mn10, mn11, mn12, mn13, mn14, mn15, mn16, mn17, mn18, mn19, mn20, mn21, mn22, mr1, mr6, mr7, mr8, mr9, mr10, mr21, mr22, mr23, mr25, mr26, mr29, mr30, mr32, mr33, mr34, mr43, mr47, mr53, mr54, mr55, mr56, i50]
    exact fin
  · simp (disch := first | assumption | omega) only [p_some, p_gd, p_br, p_bi, p_nm, p_mp, p_Sl, p_Sr, p_bis, p_gdt, q_IL, q_IR, q_LI, q_LR, q_RI, q_RL, q_KI, q_KL, q_KR, q_NI, q_NL, q_NR, q_nI, q_nL, q_nR, q_okI, q_okL, q_okR, q_Ie, q_In, q_Le, q_Ln, SM_I, SM_L, s_c0, s_cg0, s_cl0, s_cge, s_cle, r_le, r_lt, r_eq, r_md, r_2, r_3, r_lit, r_litL, r_m1, nI_add, nI_1, nI_clamp, nI_leI, nI_ltI, nI_eq, pk_sub, q_ix, nI_l, lN_add, lN_mul, r_m1n, r_m1n', r_m1lt, r_m1nlt, r_m1le, r_m1nle, Nat.not_lt_zero, Nat.reduceEqDiff, Nat.reduceLT, Nat.reduceLeDiff, true_and, and_true, true_implies, false_implies, not_true_eq_false, not_false_eq_true, implies_true, and_self, ne_eq, decide_true, decide_false, Bool.not_true, Bool.not_false, if_true, if_false, reduceIte, mk0, mk1, mk2, mk3, mk4, mk5, mk6, mk7, mk8, mk9, mk10, mk11, mk12, mk13, mk14, mk15, mk16, mk17, mk18, mk19, mk20, mk21, mk22, mn1, mn2, mn3, mn4, mn5, mn6, mn7, mn8, mn9, mn10, mn11, mn12, mn13, mn14, mn15, mn16, mn17, mn18, mn19, mn20, mn21, mn22, mr1, mr6, mr7, mr8, mr9, mr10, mr21, mr22, mr23, mr25, mr26, mr29, mr30, mr32, mr33, mr34, mr43, mr47, mr53, mr54, mr55, mr56, i50, s_10]
    exact fin
section MOPER
variable {by8 : Nat → Nat} {L lim : Nat} {h : z_T} {t : a_tk} {bk nm cf : Nat → Nat} {c o n d : Nat} {Q : Int32 × z_T → Prop}
theorem m_leafB (b : BOK bk) (N : NMO bk nm) (l : mL by8 L lim h t) (hB : mB h bk) (hM : mNm h bk nm) (hC : mCd h cf c) (hc : c < 44) (K : Nat) (hK : 17 < K ∧ K ≤ 23) (x3 : Int32) (e3 : x3 = a_lfI K)
    (k0 : ∀ h' e, a_lfo (a_ne by8 L lim) (fun d => nm (8 + d)) (bk 1) K cf c o t = .inl e → m_fr (mSf n) h h' → mF h' e → Q (nI 0, h'))
    (k1 : ∀ h' v, a_lfo (a_ne by8 L lim) (fun d => nm (8 + d)) (bk 1) K cf c o t = .inr v → v.2.2.1 = o → m_fr (fun o k => mGF o k ∧ (o ≠ 0 ∨ k ≠ 48) ∧ o ≠ 4) h h' → mL by8 L lim h' v.2.2.2 → mCd h' v.1 v.2.1 → Q (nI 1, h')) :
    p_W (y_br ((2 : Int32) ≤ x3)
            (y_br (x3 = (2 : Int32))
              (y_bi (fX12_isName 0 h) fun r59 =>
              y_br (r59 = 0)
                (y_bi (fX12_bad 0 (1 : Int32) h) fun ⟨r86, h90⟩ =>
                y_gd (y_b r86) <|
                some (r86, h90))
                (y_bi (z_R h 0 6) fun o64 =>
                y_gd (z_ok h o64 13) <|
                y_gd (z_ix (1 : Int32) (z_N h o64)) <|
                y_bi (fX12_find 0 (8 : Int32) (z_I h o64 (1 : Int32).toNatClampNeg) h) fun r68 =>
                y_br (0 ≤ r68)
                  (y_bi (fX12_code 0 x3 (0 : Int32) r68 h) fun h74 =>
                  y_gd (z_ok h74 0 11) <|
                  y_bi (fX12_go 0 h74) fun h76 =>
                  some ((1 : Int32), h76))
                  (y_bi (fX12_bad 0 (3 : Int32) h) fun ⟨r79, h83⟩ =>
                  y_gd (y_b r79) <|
                  some (r79, h83))))
              (y_br ((z_I h 0 11) = (3 : Int32))
                (y_br ((z_I h 0 14) < (60 : Int32))
                  (fX12_operand_b228 0 h)
                  (y_br ((z_I h 0 14) ≤ (62 : Int32))
                    (y_nm ((z_I h 0 14)) fun v41 =>
                    y_bi (fX12_go 0 h) fun h43 =>
                    y_gd (z_ok h43 0 11) <|
                    y_br ((z_I h43 0 11) = (2 : Int32))
                      (y_bi (fX12_code 0 x3 v41 (z_I h43 0 14) h43) fun h47 =>
                      y_gd (z_ok h47 0 11) <|
                      y_bi (fX12_go 0 h47) fun h49 =>
                      some ((1 : Int32), h49))
                      (y_bi (fX12_bad 0 (1 : Int32) h43) fun ⟨r52, h56⟩ =>
                      y_gd (y_b r52) <|
                      some (r52, h56)))
                    (fX12_operand_b228 0 h)))
                (fX12_operand_b228 0 h)))
            (y_bi (fX12_code 0 x3 (0 : Int32) (0 : Int32) h) fun h93 =>
            some ((1 : Int32), h93))) Q := by
  have s := l.1
  have h6 := b.2.1
  have hB1 := hB 1 (by decide)
  have tk := l.2.2.1.k
  unfold a_lfo at k0 k1
  have leaf : ∀ w, w ≤ 1 → (∀ (v : a_CS), v = (a_cpu cf c w 0 0, c + 1, o, t) → ∀ h', m_fr (fun o k => mGF o k ∧ (o ≠ 0 ∨ k ≠ 48) ∧ o ≠ 4) h h' → mL by8 L lim h' v.2.2.2 → mCd h' v.1 v.2.1 → Q (nI 1, h')) → p_W (fX12_code 0 (nI w) (nI 0) (nI 0) h) (fun h93 => Q (nI 1, h93)) := fun w hw k2 => by
    refine m_code' s hC (by omega) rfl rfl rfl (fun h1 f1 C1 => ?_)
    exact k2 _ rfl h1 (f1.w (fun o k c => by obtain ⟨c1, c2, c3⟩ := c; omega)) (l.fr f1 (fun o k c => by unfold mKt at c; omega)) C1
  by_cases k18 : K = 18
  · rw [if_pos k18] at k1
    have e3' : x3 = nI 0 := by rw [e3]; unfold a_lfI; rw [if_pos k18]
    subst e3'
    simp (disch := first | assumption | omega) only [p_some, p_gd, p_br, p_bi, p_nm, p_mp, p_Sl, p_Sr, p_bis, p_gdt, Nat.not_lt_zero, Nat.reduceEqDiff, Nat.reduceLT, Nat.reduceLeDiff, true_and, and_true, true_implies, false_implies, not_true_eq_false, not_false_eq_true, implies_true, and_self, ne_eq, decide_true, decide_false, Bool.not_true, Bool.not_false, if_true, if_false, reduceIte, r_lit, nI_leI]
    exact leaf 0 (by omega) (fun v e h' f l' C => k1 h' v (by rw [e]) (by rw [e]) f l' C)
  · rw [if_neg k18] at k0 k1
    by_cases k20 : K = 20
    · rw [if_pos k20] at k1
      have e3' : x3 = nI 1 := by rw [e3]; unfold a_lfI; rw [if_neg k18, if_pos k20]
      subst e3'
      simp (disch := first | assumption | omega) only [p_some, p_gd, p_br, p_bi, p_nm, p_mp, p_Sl, p_Sr, p_bis, p_gdt, Nat.not_lt_zero, Nat.reduceEqDiff, Nat.reduceLT, Nat.reduceLeDiff, true_and, and_true, true_implies, false_implies, not_true_eq_false, not_false_eq_true, implies_true, and_self, ne_eq, decide_true, decide_false, Bool.not_true, Bool.not_false, if_true, if_false, reduceIte, r_lit, nI_leI]
      exact leaf 1 (by omega) (fun v e h' f l' C => k1 h' v (by rw [e]) (by rw [e]) f l' C)
    · rw [if_neg k20] at k0 k1
      by_cases k19 : K = 19
      · rw [if_pos k19] at k0 k1
        have e3' : x3 = nI 2 := by rw [e3]; unfold a_lfI; rw [if_neg k18, if_neg k20, if_pos k19]
        subst e3'
        have nmE := m_isName l
        by_cases ck : a_kk t = 1
        · have c2 := a_kk1 (t := t) (by omega)
          rw [if_pos ck] at k0 k1
          rw [bI_t ck] at nmE
          have fd := m_find (from0 := 8) (n := bk 1) (f := fun d => nm (8 + d)) l c2 (fun k hk => ⟨hM.2 k hk, (N.2 k hk).2⟩) (by omega)
          rw [a_fi_fx] at fd
          by_cases cT : a_fx (fun d => nm (8 + d)) (bk 1) t.2.1 < bk 1
          · rw [if_pos cT] at fd k1
            obtain ⟨F, hF⟩ : ∃ F, a_fx (fun d => nm (8 + d)) (bk 1) t.2.1 = F := ⟨_, rfl⟩
            rw [hF] at cT fd k1
            simp (disch := first | assumption | omega) only [p_some, p_gd, p_br, p_bi, p_nm, p_mp, p_Sl, p_Sr, p_bis, p_gdt, q_IL, q_IR, q_LI, q_LR, q_RI, q_RL, q_KI, q_KL, q_KR, q_NI, q_NL, q_NR, q_nI, q_nL, q_nR, q_okI, q_okL, q_okR, q_Ie, q_In, q_Le, q_Ln, SM_I, SM_L, s_c0, s_cg0, s_cl0, s_cge, s_cle, r_le, r_lt, r_eq, r_md, r_2, r_3, r_lit, r_litL, r_m1, nI_add, nI_1, nI_clamp, nI_leI, nI_ltI, nI_eq, pk_sub, q_ix, nI_l, lN_add, lN_mul, r_m1n, r_m1n', r_m1lt, r_m1nlt, r_m1le, r_m1nle, Nat.not_lt_zero, Nat.reduceEqDiff, Nat.reduceLT, Nat.reduceLeDiff, true_and, and_true, true_implies, false_implies, not_true_eq_false, not_false_eq_true, implies_true, and_self, ne_eq, decide_true, decide_false, Bool.not_true, Bool.not_false, if_true, if_false, reduceIte, mk0, mk1, mk2, mk3, mk4, mk5, mk6, mk7, mk8, mk9, mk10, mk11, mk12, mk13, mk14, mk15, mk16, mk17, mk18, mk19, mk20, mk21, mk22, mn1, mn2, mn3, mn4, mn5, mn6, mn7, mn8, mn9, mn10, mn11, mn12, mn13, mn14, mn15, mn16, mn17, mn18, mn19, mn20, mn21, mn22, mr1, mr6, mr7, mr8, mr9, mr10, mr21, mr22, mr23, mr25, mr26, mr29, mr30, mr32, mr33, mr34, mr43, mr47, mr53, mr54, mr55, mr56, nmE, s_10, hB1, fd, Nat.zero_le]
            refine m_code' s hC (by omega) rfl rfl rfl (fun h1 f1 C1 => ?_)
            have l1 : mL by8 L lim h1 t := l.fr f1 (fun o k c => by unfold mKt at c; omega)
            simp (disch := first | assumption | omega) only [p_some, p_gd, p_br, p_bi, p_nm, p_mp, p_Sl, p_Sr, p_bis, p_gdt, Nat.not_lt_zero, Nat.reduceEqDiff, Nat.reduceLT, Nat.reduceLeDiff, true_and, and_true, true_implies, false_implies, not_true_eq_false, not_false_eq_true, implies_true, and_self, ne_eq, decide_true, decide_false, Bool.not_true, Bool.not_false, if_true, if_false, reduceIte, mk0 (f1.s s)]
            refine m_goL l1 (by omega) (fun h2 f2 l2 => ?_)
            exact k1 h2 _ rfl rfl ((f1.w (fun o k c => by obtain ⟨c1, c2, c3⟩ := c; omega)).tr (f2.w (fun o k c => by have c1 := c.1; unfold mGF at c1; unfold mGo; omega))) l2 (C1.fr f2 (by unfold mGo; omega) (fun i => by unfold mGo; omega))
          · rw [if_neg cT] at fd k0
            simp (disch := first | assumption | omega) only [p_some, p_gd, p_br, p_bi, p_nm, p_mp, p_Sl, p_Sr, p_bis, p_gdt, q_IL, q_IR, q_LI, q_LR, q_RI, q_RL, q_KI, q_KL, q_KR, q_NI, q_NL, q_NR, q_nI, q_nL, q_nR, q_okI, q_okL, q_okR, q_Ie, q_In, q_Le, q_Ln, SM_I, SM_L, s_c0, s_cg0, s_cl0, s_cge, s_cle, r_le, r_lt, r_eq, r_md, r_2, r_3, r_lit, r_litL, r_m1, nI_add, nI_1, nI_clamp, nI_leI, nI_ltI, nI_eq, pk_sub, q_ix, nI_l, lN_add, lN_mul, r_m1n, r_m1n', r_m1lt, r_m1nlt, r_m1le, r_m1nle, Nat.not_lt_zero, Nat.reduceEqDiff, Nat.reduceLT, Nat.reduceLeDiff, true_and, and_true, true_implies, false_implies, not_true_eq_false, not_false_eq_true, implies_true, and_self, ne_eq, decide_true, decide_false, Bool.not_true, Bool.not_false, if_true, if_false, reduceIte, mk0, mk1, mk2, mk3, mk4, mk5, mk6, mk7, mk8, mk9, mk10, mk11, mk12, mk13, mk14, mk15, mk16, mk17, mk18, mk19, mk20, mk21, mk22, mn1, mn2, mn3, mn4, mn5, mn6, mn7, mn8, mn9, mn10, mn11, mn12, mn13, mn14, mn15, mn16, mn17, mn18, mn19, mn20, mn21, mn22, mr1, mr6, mr7, mr8, mr9, mr10, mr21, mr22, mr23, mr25, mr26, mr29, mr30, mr32, mr33, mr34, mr43, mr47, mr53, mr54, mr55, mr56, nmE, s_10, hB1, fd]
            refine m_bad (F := 3) l (fun h1 f1 g1 => ?_)
            simp (disch := first | assumption | omega) only [p_some, p_gd, p_br, p_bi, p_nm, p_mp, p_Sl, p_Sr, p_bis, p_gdt, Nat.not_lt_zero, Nat.reduceEqDiff, Nat.reduceLT, Nat.reduceLeDiff, true_and, and_true, true_implies, false_implies, not_true_eq_false, not_false_eq_true, implies_true, and_self, ne_eq, decide_true, decide_false, Bool.not_true, Bool.not_false, if_true, if_false, reduceIte, s_yb0]
            exact k0 h1 _ rfl (mSf.gf f1) g1
        · rw [if_neg ck] at k0
          rw [bI_f ck] at nmE
          simp (disch := first | assumption | omega) only [p_some, p_gd, p_br, p_bi, p_nm, p_mp, p_Sl, p_Sr, p_bis, p_gdt, Nat.not_lt_zero, Nat.reduceEqDiff, Nat.reduceLT, Nat.reduceLeDiff, true_and, and_true, true_implies, false_implies, not_true_eq_false, not_false_eq_true, implies_true, and_self, ne_eq, decide_true, decide_false, Bool.not_true, Bool.not_false, if_true, if_false, reduceIte, r_lit, nI_leI, nmE, Nat.le_refl]
          refine m_bad (F := 1) l (fun h1 f1 g1 => ?_)
          simp (disch := first | assumption | omega) only [p_some, p_gd, p_br, p_bi, p_nm, p_mp, p_Sl, p_Sr, p_bis, p_gdt, Nat.not_lt_zero, Nat.reduceEqDiff, Nat.reduceLT, Nat.reduceLeDiff, true_and, and_true, true_implies, false_implies, not_true_eq_false, not_false_eq_true, implies_true, and_self, ne_eq, decide_true, decide_false, Bool.not_true, Bool.not_false, if_true, if_false, reduceIte, s_yb0]
          exact k0 h1 _ rfl (mSf.gf f1) g1
      · rw [if_neg k19] at k0 k1
        have e3' : x3 = nI (K - 18) := by rw [e3]; unfold a_lfI; rw [if_neg k18, if_neg k20, if_neg k19, if_pos (by omega)]
        subst e3'
        have bad1 : ¬ (60 ≤ t.1 ∧ t.1 ≤ 62) → p_W (fX12_operand_b228 0 h) Q := fun cc => by
          rw [if_neg cc] at k0
          unfold fX12_operand_b228
          simp (disch := first | assumption | omega) only [p_some, p_gd, p_br, p_bi, p_nm, p_mp, p_Sl, p_Sr, p_bis, p_gdt, Nat.not_lt_zero, Nat.reduceEqDiff, Nat.reduceLT, Nat.reduceLeDiff, true_and, and_true, true_implies, false_implies, not_true_eq_false, not_false_eq_true, implies_true, and_self, ne_eq, decide_true, decide_false, Bool.not_true, Bool.not_false, if_true, if_false, reduceIte, mk0 s, r_lit]
          refine m_bad (F := 1) l (fun h1 f1 g1 => ?_)
          simp (disch := first | assumption | omega) only [p_some, p_gd, p_br, p_bi, p_nm, p_mp, p_Sl, p_Sr, p_bis, p_gdt, Nat.not_lt_zero, Nat.reduceEqDiff, Nat.reduceLT, Nat.reduceLeDiff, true_and, and_true, true_implies, false_implies, not_true_eq_false, not_false_eq_true, implies_true, and_self, ne_eq, decide_true, decide_false, Bool.not_true, Bool.not_false, if_true, if_false, reduceIte, s_yb0]
          exact k0 h1 _ rfl (mSf.gf f1) g1
        simp (disch := first | assumption | omega) only [p_some, p_gd, p_br, p_bi, p_nm, p_mp, p_Sl, p_Sr, p_bis, p_gdt, Nat.not_lt_zero, Nat.reduceEqDiff, Nat.reduceLT, Nat.reduceLeDiff, true_and, and_true, true_implies, false_implies, not_true_eq_false, not_false_eq_true, implies_true, and_self, ne_eq, decide_true, decide_false, Bool.not_true, Bool.not_false, if_true, if_false, reduceIte, r_lit, nI_leI, nI_eq, show 2 ≤ K - 18 by omega, show ¬ K - 18 = 2 by omega]
        by_cases cS : a_S t.1 = true
        · obtain ⟨g1, g2⟩ := tk.2.2.2.2.2.1 cS
          have tS := mTok.S cS
          simp (disch := first | assumption | omega) only [p_some, p_gd, p_br, p_bi, p_nm, p_mp, p_Sl, p_Sr, p_bis, p_gdt, Nat.not_lt_zero, Nat.reduceEqDiff, Nat.reduceLT, Nat.reduceLeDiff, true_and, and_true, true_implies, false_implies, not_true_eq_false, not_false_eq_true, implies_true, and_self, ne_eq, decide_true, decide_false, Bool.not_true, Bool.not_false, if_true, if_false, reduceIte, g1, g2, r_lit, nI_leI, nI_ltI]
          refine ⟨fun q => bad1 (by omega), fun q => ⟨fun q2 => ?_, fun q2 => bad1 (by omega)⟩⟩
          rw [if_pos ⟨by omega, q2⟩] at k0 k1
          refine m_goL l (by omega) (fun h1 f1 l1 => ?_)
          have s1 := l1.1
          have G1 := mGF.go f1
          have tk1 := l1.2.2.1.k
          have C1 : mCd h1 cf c := hC.fr G1 (by unfold mGF; omega) (fun i => by unfold mGF; omega)
          by_cases c3 : (a_ne by8 L lim t).1 = 3
          · obtain ⟨j1, j2, j3⟩ := tk1.2.2.2.1 c3
            unfold a_nb at k1
            rw [if_pos c3, if_pos ⟨Nat.zero_le _, by omega⟩, a_bdr] at k1
            simp (disch := first | assumption | omega) only [p_some, p_gd, p_br, p_bi, p_nm, p_mp, p_Sl, p_Sr, p_bis, p_gdt, Nat.not_lt_zero, Nat.reduceEqDiff, Nat.reduceLT, Nat.reduceLeDiff, true_and, and_true, true_implies, false_implies, not_true_eq_false, not_false_eq_true, implies_true, and_self, ne_eq, decide_true, decide_false, Bool.not_true, Bool.not_false, if_true, if_false, reduceIte, mk0 s1, j1, j2, r_lit]
            refine m_code' s1 C1 (by omega) rfl rfl rfl (fun h2 f2 C2 => ?_)
            have l2 : mL by8 L lim h2 (a_ne by8 L lim t) := l1.fr f2 (fun o k c => by unfold mKt at c; omega)
            simp (disch := first | assumption | omega) only [p_some, p_gd, p_br, p_bi, p_nm, p_mp, p_Sl, p_Sr, p_bis, p_gdt, Nat.not_lt_zero, Nat.reduceEqDiff, Nat.reduceLT, Nat.reduceLeDiff, true_and, and_true, true_implies, false_implies, not_true_eq_false, not_false_eq_true, implies_true, and_self, ne_eq, decide_true, decide_false, Bool.not_true, Bool.not_false, if_true, if_false, reduceIte, mk0 (f2.s s1)]
            refine m_goL l2 (by omega) (fun h3 f3 l3 => ?_)
            exact k1 h3 _ rfl rfl ((G1.w (fun o k c => c.1)).tr ((f2.w (fun o k c => by obtain ⟨c1, c2, c3⟩ := c; omega)).tr (f3.w (fun o k c => by have c1 := c.1; unfold mGF at c1; unfold mGo; omega)))) l3 (C2.fr f3 (by unfold mGo; omega) (fun i => by unfold mGo; omega))
          · have j1 := tk1.2.2.2.2.1 c3
            unfold a_nb at k0
            rw [if_neg c3, a_bdl] at k0
            simp (disch := first | assumption | omega) only [p_some, p_gd, p_br, p_bi, p_nm, p_mp, p_Sl, p_Sr, p_bis, p_gdt, Nat.not_lt_zero, Nat.reduceEqDiff, Nat.reduceLT, Nat.reduceLeDiff, true_and, and_true, true_implies, false_implies, not_true_eq_false, not_false_eq_true, implies_true, and_self, ne_eq, decide_true, decide_false, Bool.not_true, Bool.not_false, if_true, if_false, reduceIte, mk0 s1, j1, r_lit]
            refine m_bad (F := 1) l1 (fun h2 f2 g2 => ?_)
            simp (disch := first | assumption | omega) only [p_some, p_gd, p_br, p_bi, p_nm, p_mp, p_Sl, p_Sr, p_bis, p_gdt, Nat.not_lt_zero, Nat.reduceEqDiff, Nat.reduceLT, Nat.reduceLeDiff, true_and, and_true, true_implies, false_implies, not_true_eq_false, not_false_eq_true, implies_true, and_self, ne_eq, decide_true, decide_false, Bool.not_true, Bool.not_false, if_true, if_false, reduceIte, s_yb0]
            exact k0 h2 _ rfl (mSf.gf (G1.tr f2)) g2
        · have g1 := tk.2.2.2.2.2.2.1 cS
          simp (disch := first | assumption | omega) only [p_some, p_gd, p_br, p_bi, p_nm, p_mp, p_Sl, p_Sr, p_bis, p_gdt, Nat.not_lt_zero, Nat.reduceEqDiff, Nat.reduceLT, Nat.reduceLeDiff, true_and, and_true, true_implies, false_implies, not_true_eq_false, not_false_eq_true, implies_true, and_self, ne_eq, decide_true, decide_false, Bool.not_true, Bool.not_false, if_true, if_false, reduceIte, g1, r_lit]
          refine bad1 (fun q => cS ?_)
          unfold a_S
          exact decide_eq_true (by omega)
theorem m_operand (b : BOK bk) (N : NMO bk nm) (l : mL by8 L lim h t) (hB : mB h bk) (hM : mNm h bk nm) (hC : mCd h cf c) (h49 : z_I h 0 49 = nI o) (h50 : z_I h 0 50 = nI n) (h51 : z_I h 0 51 = nI (9 - d)) (ho : o ≤ 20) (hd : d ≤ 8) (hn : n < 44) (hc : c < 44)
    (k0 : ∀ h' e, a_one (a_ne by8 L lim) (fun d => nm (8 + d)) (bk 1) d cf c o t = .inl e → m_fr (mSf n) h h' → mF h' e → Q (nI 0, h'))
    (kb : ∀ h' d', d = d' + 1 → ¬ 20 ≤ o → ((t.1 = 40 ∧ z_I h' 18 n = nI 23) ∨ (a_kk t = 17 ∧ z_I h' 18 n = nI 20)) → m_fr (mSf n) h h' → mL by8 L lim h' (a_ne by8 L lim t) → mCd h' cf c → z_I h' 0 49 = nI (o + 1) → z_I h' 0 50 = nI (n + 1) → z_I h' 0 51 = nI (9 - d') → z_I h' 0 52 = z_I h 0 52 → Q (nI 1, h'))
    (kl : ∀ h' d' v, d = d' + 1 → ¬ 20 ≤ o → 17 < a_kk t → a_lfo (a_ne by8 L lim) (fun d => nm (8 + d)) (bk 1) (a_kk t) cf c (o + 1) (a_ne by8 L lim t) = .inr v → m_fr (mSf n) h h' → mL by8 L lim h' v.2.2.2 → mCd h' v.1 v.2.1 → z_I h' 0 49 = nI v.2.2.1 → z_I h' 0 50 = nI n → z_I h' 0 51 = nI (9 - d) → z_I h' 0 52 = nI 1 → Q (nI 1, h')) : p_W (fX12_operand 0 h) Q := by
  have s := l.1
  have k23 := a_kk23 t
  have w16 := m_isWord l (i := 16) (W := 7237492) (by decide) (by decide) (by decide)
  have sg := m_isSign l (c := 40) (by decide)
  have lf := m_leafOf l
  have bad4 : ∀ x1 x2 x3, (t.1 = 40 ∨ 17 ≤ a_kk t) → (20 ≤ o ∨ d = 0) → p_W (fX12_operand_b38 0 x1 x2 x3 h) Q := fun x1 x2 x3 cb c4 => by
    have e : a_one (a_ne by8 L lim) (fun d => nm (8 + d)) (bk 1) d cf c o t = .inl (4, t.2.2.1) := by
      rcases c4 with q | q
      · exact a_one_20 cb q
      · subst q; exact a_one_0 cb
    have bad : p_W (fX12_operand_b56 0 h) Q := by
      unfold fX12_operand_b56
      simp (disch := first | assumption | omega) only [p_some, p_gd, p_br, p_bi, p_nm, p_mp, p_Sl, p_Sr, p_bis, p_gdt, Nat.not_lt_zero, Nat.reduceEqDiff, Nat.reduceLT, Nat.reduceLeDiff, true_and, and_true, true_implies, false_implies, not_true_eq_false, not_false_eq_true, implies_true, and_self, ne_eq, decide_true, decide_false, Bool.not_true, Bool.not_false, if_true, if_false, reduceIte, mk0 s, r_lit]
      refine m_bad (F := 4) l (fun h1 f1 g1 => ?_)
      simp (disch := first | assumption | omega) only [p_some, p_gd, p_br, p_bi, p_nm, p_mp, p_Sl, p_Sr, p_bis, p_gdt, Nat.not_lt_zero, Nat.reduceEqDiff, Nat.reduceLT, Nat.reduceLeDiff, true_and, and_true, true_implies, false_implies, not_true_eq_false, not_false_eq_true, implies_true, and_self, ne_eq, decide_true, decide_false, Bool.not_true, Bool.not_false, if_true, if_false, reduceIte, s_yb0]
      exact k0 h1 _ e (mSf.gf f1) g1
    unfold fX12_operand_b38
    simp (disch := first | assumption | omega) only [p_some, p_gd, p_br, p_bi, p_nm, p_mp, p_Sl, p_Sr, p_bis, p_gdt, Nat.not_lt_zero, Nat.reduceEqDiff, Nat.reduceLT, Nat.reduceLeDiff, true_and, and_true, true_implies, false_implies, not_true_eq_false, not_false_eq_true, implies_true, and_self, ne_eq, decide_true, decide_false, Bool.not_true, Bool.not_false, if_true, if_false, reduceIte, mk0 s, r_lit, h49, h51, nI_eq, nI_leI]
    refine ⟨fun _ => bad, fun q => ⟨fun q2 => ?_, fun _ => bad⟩⟩
    exact absurd q2 (by omega)
  have go : ∀ d', d = d' + 1 → ¬ 20 ≤ o → 2 ≤ t.1 → ∀ Q' : z_T → Prop, (∀ h31, m_fr (fun o k => mGF o k ∧ (o ≠ 0 ∨ k ≠ 49)) h h31 → mL by8 L lim h31 (a_ne by8 L lim t) → z_I h31 0 49 = nI (o + 1) → Q' h31) → p_W (fX12_go 0 (z_sI h 0 49 (nI (o + 1)))) Q' := fun d' _ _ t2 Q' k => by
    have f0 : m_fr (fun o k => o ≠ 0 ∨ k ≠ 49) h (z_sI h 0 49 (nI (o + 1))) := m_fr.rf.sI (by omega)
    have l0 : mL by8 L lim (z_sI h 0 49 (nI (o + 1))) t := l.fr f0 (fun o k c => by unfold mKt at c; omega)
    have i49 : z_I (z_sI h 0 49 (nI (o + 1))) 0 49 = nI (o + 1) := q_Ie rfl rfl
    generalize z_sI h 0 49 (nI (o + 1)) = h0 at *
    refine m_goL l0 t2 (fun h1 f1 l1 => ?_)
    exact k h1 ((f0.w (fun o k c => c.2)).tr ((mGF.go f1).w (fun o k c => c.1))) l1 ((f1.I 0 49 (by unfold mGo; omega)).trans i49)
  unfold fX12_operand
  by_cases cb : t.1 = 40 ∨ 17 ≤ a_kk t
  · by_cases c4 : 20 ≤ o ∨ d = 0
    · by_cases c40 : t.1 = 40
      · have k0' : a_kk t = 0 := a_kk0 (by omega)
        rw [bI_f (show ¬ a_kk t = 16 + 1 by omega)] at w16
        rw [bI_t c40] at sg
        simp (disch := first | assumption | omega) only [p_some, p_gd, p_br, p_bi, p_nm, p_mp, p_Sl, p_Sr, p_bis, p_gdt, Nat.not_lt_zero, Nat.reduceEqDiff, Nat.reduceLT, Nat.reduceLeDiff, true_and, and_true, true_implies, false_implies, not_true_eq_false, not_false_eq_true, implies_true, and_self, ne_eq, decide_true, decide_false, Bool.not_true, Bool.not_false, if_true, if_false, reduceIte, mk0 s, r_lit, r_litL, w16, sg, lf, s_10]
        exact bad4 _ _ _ cb c4
      · rw [bI_f c40] at sg
        by_cases c17 : a_kk t = 17
        · rw [bI_t (show a_kk t = 16 + 1 by omega)] at w16
          simp (disch := first | assumption | omega) only [p_some, p_gd, p_br, p_bi, p_nm, p_mp, p_Sl, p_Sr, p_bis, p_gdt, Nat.not_lt_zero, Nat.reduceEqDiff, Nat.reduceLT, Nat.reduceLeDiff, true_and, and_true, true_implies, false_implies, not_true_eq_false, not_false_eq_true, implies_true, and_self, ne_eq, decide_true, decide_false, Bool.not_true, Bool.not_false, if_true, if_false, reduceIte, mk0 s, r_lit, r_litL, w16, sg, lf, s_10]
          exact bad4 _ _ _ cb c4
        · rw [bI_f (show ¬ a_kk t = 16 + 1 by omega)] at w16
          have ge : (nI 0 ≤ a_lfI (a_kk t)) = True := by
            unfold a_lfI
            refine eq_true ?_
            split
            · decide
            · split
              · decide
              · split
                · decide
                · rw [if_pos (by omega), nI_leI (by omega) (by omega)]; omega
          simp (disch := first | assumption | omega) only [p_some, p_gd, p_br, p_bi, p_nm, p_mp, p_Sl, p_Sr, p_bis, p_gdt, Nat.not_lt_zero, Nat.reduceEqDiff, Nat.reduceLT, Nat.reduceLeDiff, true_and, and_true, true_implies, false_implies, not_true_eq_false, not_false_eq_true, implies_true, and_self, ne_eq, decide_true, decide_false, Bool.not_true, Bool.not_false, if_true, if_false, reduceIte, mk0 s, r_lit, r_litL, w16, sg, lf, ge]
          exact bad4 _ _ _ cb c4
    · obtain ⟨d', rfl⟩ : ∃ d', d = d' + 1 := ⟨d - 1, by omega⟩
      have ho2 : ¬ 20 ≤ o := by omega
      have e9 : 9 - (d' + 1) + 1 = 9 - d' := by omega
      by_cases c40 : t.1 = 40
      · have k0' : a_kk t = 0 := a_kk0 (by omega)
        rw [bI_f (show ¬ a_kk t = 16 + 1 by omega)] at w16
        rw [bI_t c40] at sg
        simp (disch := first | assumption | omega) only [p_some, p_gd, p_br, p_bi, p_nm, p_mp, p_Sl, p_Sr, p_bis, p_gdt, Nat.not_lt_zero, Nat.reduceEqDiff, Nat.reduceLT, Nat.reduceLeDiff, true_and, and_true, true_implies, false_implies, not_true_eq_false, not_false_eq_true, implies_true, and_self, ne_eq, decide_true, decide_false, Bool.not_true, Bool.not_false, if_true, if_false, reduceIte, mk0 s, r_lit, r_litL, w16, sg, lf, s_10]
        unfold fX12_operand_b38
        simp (disch := first | assumption | omega) only [p_some, p_gd, p_br, p_bi, p_nm, p_mp, p_Sl, p_Sr, p_bis, p_gdt, Nat.not_lt_zero, Nat.reduceEqDiff, Nat.reduceLT, Nat.reduceLeDiff, true_and, and_true, true_implies, false_implies, not_true_eq_false, not_false_eq_true, implies_true, and_self, ne_eq, decide_true, decide_false, Bool.not_true, Bool.not_false, if_true, if_false, reduceIte, mk0 s, r_lit, h49, h51, nI_eq, nI_leI, nI_add, s_10, show ¬ o = 20 by omega, show 9 - (d' + 1) ≤ 8 by omega]
        refine go d' rfl ho2 (by omega) _ (fun h1 f1 l1 i49 => ?_)
        refine m_open84 l1.1 ((f1.I 0 50 (by unfold mGF; omega)).trans h50) ((f1.I 0 51 (by unfold mGF; omega)).trans h51) (by omega) (by omega) (Or.inl ⟨rfl, rfl⟩) (fun h2 f2 j50 j51 j18 => ?_)
        rw [e9] at j51
        exact kb h2 d' rfl ho2 (Or.inl ⟨c40, j18⟩) ((f1.w (fun o k c => ⟨c.1, by have := c.2.1; omega⟩)).tr (f2.w (fun o k c => by obtain ⟨c1, c2, c3, c4⟩ := c; omega))) (l1.fr f2 (fun o k c => by unfold mKt at c; omega)) ((hC.fr f1 (by unfold mGF; omega) (fun i => by unfold mGF; omega)).fr f2 (by omega) (fun i => by omega)) ((f2.I 0 49 (by omega)).trans i49) j50 j51 ((f2.I 0 52 (by omega)).trans (f1.I 0 52 (by unfold mGF; omega)))
      · rw [bI_f c40] at sg
        by_cases c17 : a_kk t = 17
        · have t2 := a_kk1 (t := t) (by omega)
          rw [bI_t (show a_kk t = 16 + 1 by omega)] at w16
          simp (disch := first | assumption | omega) only [p_some, p_gd, p_br, p_bi, p_nm, p_mp, p_Sl, p_Sr, p_bis, p_gdt, Nat.not_lt_zero, Nat.reduceEqDiff, Nat.reduceLT, Nat.reduceLeDiff, true_and, and_true, true_implies, false_implies, not_true_eq_false, not_false_eq_true, implies_true, and_self, ne_eq, decide_true, decide_false, Bool.not_true, Bool.not_false, if_true, if_false, reduceIte, mk0 s, r_lit, r_litL, w16, sg, lf, s_10]
          unfold fX12_operand_b38
          simp (disch := first | assumption | omega) only [p_some, p_gd, p_br, p_bi, p_nm, p_mp, p_Sl, p_Sr, p_bis, p_gdt, Nat.not_lt_zero, Nat.reduceEqDiff, Nat.reduceLT, Nat.reduceLeDiff, true_and, and_true, true_implies, false_implies, not_true_eq_false, not_false_eq_true, implies_true, and_self, ne_eq, decide_true, decide_false, Bool.not_true, Bool.not_false, if_true, if_false, reduceIte, mk0 s, r_lit, h49, h51, nI_eq, nI_leI, nI_add, s_10, show ¬ o = 20 by omega, show 9 - (d' + 1) ≤ 8 by omega]
          refine go d' rfl ho2 (by omega) _ (fun h1 f1 l1 i49 => ?_)
          refine m_open84 l1.1 ((f1.I 0 50 (by unfold mGF; omega)).trans h50) ((f1.I 0 51 (by unfold mGF; omega)).trans h51) (by omega) (by omega) (Or.inr ⟨rfl, rfl⟩) (fun h2 f2 j50 j51 j18 => ?_)
          rw [e9] at j51
          exact kb h2 d' rfl ho2 (Or.inr ⟨c17, j18⟩) ((f1.w (fun o k c => ⟨c.1, by have := c.2.1; omega⟩)).tr (f2.w (fun o k c => by obtain ⟨c1, c2, c3, c4⟩ := c; omega))) (l1.fr f2 (fun o k c => by unfold mKt at c; omega)) ((hC.fr f1 (by unfold mGF; omega) (fun i => by unfold mGF; omega)).fr f2 (by omega) (fun i => by omega)) ((f2.I 0 49 (by omega)).trans i49) j50 j51 ((f2.I 0 52 (by omega)).trans (f1.I 0 52 (by unfold mGF; omega)))
        · have t2 := a_kk1 (t := t) (by omega)
          rw [bI_f (show ¬ a_kk t = 16 + 1 by omega)] at w16
          have ge : (nI 0 ≤ a_lfI (a_kk t)) = True := by
            unfold a_lfI
            refine eq_true ?_
            split
            · decide
            · split
              · decide
              · split
                · decide
                · rw [if_pos (by omega), nI_leI (by omega) (by omega)]; omega
          have cl := @a_one_l (a_ne by8 L lim) (fun d => nm (8 + d)) cf (bk 1) d' c o t (by omega) ho2
          simp (disch := first | assumption | omega) only [p_some, p_gd, p_br, p_bi, p_nm, p_mp, p_Sl, p_Sr, p_bis, p_gdt, Nat.not_lt_zero, Nat.reduceEqDiff, Nat.reduceLT, Nat.reduceLeDiff, true_and, and_true, true_implies, false_implies, not_true_eq_false, not_false_eq_true, implies_true, and_self, ne_eq, decide_true, decide_false, Bool.not_true, Bool.not_false, if_true, if_false, reduceIte, mk0 s, r_lit, r_litL, w16, sg, lf, ge]
          unfold fX12_operand_b38
          simp (disch := first | assumption | omega) only [p_some, p_gd, p_br, p_bi, p_nm, p_mp, p_Sl, p_Sr, p_bis, p_gdt, Nat.not_lt_zero, Nat.reduceEqDiff, Nat.reduceLT, Nat.reduceLeDiff, true_and, and_true, true_implies, false_implies, not_true_eq_false, not_false_eq_true, implies_true, and_self, ne_eq, decide_true, decide_false, Bool.not_true, Bool.not_false, if_true, if_false, reduceIte, mk0 s, r_lit, h49, h51, nI_eq, nI_leI, nI_add, show ¬ o = 20 by omega, show 9 - (d' + 1) ≤ 8 by omega]
          refine go d' rfl ho2 (by omega) _ (fun h1 f1 l1 i49 => ?_)
          have s1 := l1.1
          refine ⟨mk0 s1, ?_⟩
          have f2 : m_fr (fun o k => o ≠ 0 ∨ k ≠ 52) h1 (z_sI h1 0 52 (nI 1)) := m_fr.rf.sI (by omega)
          have l2 : mL by8 L lim (z_sI h1 0 52 (nI 1)) (a_ne by8 L lim t) := l1.fr f2 (fun o k c => by unfold mKt at c; omega)
          have i52 : z_I (z_sI h1 0 52 (nI 1)) 0 52 = nI 1 := q_Ie rfl rfl
          have j49 := (f2.I 0 49 (by omega)).trans i49
          generalize z_sI h1 0 52 (nI 1) = h2 at *
          have F2 : m_fr (fun o k => mGF o k ∧ (o ≠ 0 ∨ (k ≠ 49 ∧ k ≠ 52))) h h2 := (f1.w (fun o k c => ⟨c.1, by have := c.2; omega⟩)).tr (f2.w (fun o k c => by have := c.2; omega))
          have hB2 : mB h2 bk := fun k hk => (F2.I 2 k (by unfold mGF; omega)).trans (hB k hk)
          have hM2 : mNm h2 bk nm := ⟨fun k hk => (F2.L 5 k (by unfold mGF; omega)).trans (hM.1 k hk), fun k hk => (F2.L 5 _ (by unfold mGF; omega)).trans (hM.2 k hk)⟩
          have C2 : mCd h2 cf c := hC.fr F2 (by unfold mGF; omega) (fun i => by unfold mGF; omega)
          refine m_leafB (o := o + 1) (n := n) b N l2 hB2 hM2 C2 hc (a_kk t) ⟨by omega, k23⟩ _ rfl (fun h3 e q f g => ?_) (fun h3 v q ev f l3 C3 => ?_)
          · exact k0 h3 e (cl.trans q) ((F2.w (fun o k c => ⟨c.1, by have := c.2.1; omega⟩)).tr f) g
          · exact kl h3 d' v rfl ho2 (by omega) q ((F2.w (fun o k c => ⟨c.1, by have := c.2.1; omega⟩)).tr (f.w (fun o k c => ⟨c.1, by have := c.2.1; omega, c.2.2.1⟩))) l3 C3 ((f.I 0 49 (by unfold mGF; omega)).trans (j49.trans (by rw [ev]))) ((f.I 0 50 (by unfold mGF; omega)).trans ((F2.I 0 50 (by unfold mGF; omega)).trans h50)) ((f.I 0 51 (by unfold mGF; omega)).trans ((F2.I 0 51 (by unfold mGF; omega)).trans h51)) ((f.I 0 52 (by unfold mGF; omega)).trans i52)
  · rw [bI_f (show ¬ a_kk t = 16 + 1 by omega)] at w16
    rw [bI_f (show ¬ t.1 = 40 by omega)] at sg
    have lt : (nI 0 ≤ a_lfI (a_kk t)) = False := by
      unfold a_lfI
      rw [if_neg (by omega), if_neg (by omega), if_neg (by omega), if_neg (by omega)]
      decide
    simp (disch := first | assumption | omega) only [p_some, p_gd, p_br, p_bi, p_nm, p_mp, p_Sl, p_Sr, p_bis, p_gdt, Nat.not_lt_zero, Nat.reduceEqDiff, Nat.reduceLT, Nat.reduceLeDiff, true_and, and_true, true_implies, false_implies, not_true_eq_false, not_false_eq_true, implies_true, and_self, ne_eq, decide_true, decide_false, Bool.not_true, Bool.not_false, if_true, if_false, reduceIte, mk0 s, r_lit, r_litL, w16, sg, lf, lt]
    refine m_bad (F := 1) l (fun h1 f1 g1 => ?_)
    simp (disch := first | assumption | omega) only [p_some, p_gd, p_br, p_bi, p_nm, p_mp, p_Sl, p_Sr, p_bis, p_gdt, Nat.not_lt_zero, Nat.reduceEqDiff, Nat.reduceLT, Nat.reduceLeDiff, true_and, and_true, true_implies, false_implies, not_true_eq_false, not_false_eq_true, implies_true, and_self, ne_eq, decide_true, decide_false, Bool.not_true, Bool.not_false, if_true, if_false, reduceIte, s_yb0]
    exact k0 h1 _ (a_one_no cb) (mSf.gf f1) g1
end MOPER
