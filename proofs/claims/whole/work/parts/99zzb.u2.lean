/-! the reference opens a test of a tree -/
def mTS (h : z_T) (nd pos op : Nat → Nat) (m o cnt : Nat) : Prop := z_I h 0 35 = nI m ∧ z_I h 0 36 = nI o ∧ z_I h 0 37 = nI cnt ∧ MT (z_I h 14) nd pos m ∧ (∀ j, j < o → z_I h 15 j = nI (op j) ∧ op j < m) ∧ ∀ q, nd q ≤ 10
def mTP (h : z_T) (pos op : Nat → Nat) (m o p : Nat) : Prop := (o = 0 ∧ p = 1 ∧ m = 0) ∨ (0 < o ∧ 2 ≤ p ∧ pos (op (o - 1)) = p / 2 ∧ z_I h 16 (o - 1) = nI (p % 2))
def mTf (o a k : Nat) : Prop := mGF a k ∧ (a ≠ 0 ∨ (k ≠ 35 ∧ k ≠ 36 ∧ k ≠ 37)) ∧ a ≠ 14 ∧ (a ≠ 15 ∨ k < o) ∧ (a ≠ 16 ∨ k < o)
theorem mTf.gf {o : Nat} {h h' : z_T} (f : m_fr mGF h h') : m_fr (mTf o) h h' := f.w (fun a k c => c.1)
theorem mTf.up {o o' : Nat} {h h' : z_T} (ho : o ≤ o') (f : m_fr (mTf o') h h') : m_fr (mTf o) h h' := f.w (fun a k c => by
  obtain ⟨c1, c2, c3, c4, c5⟩ := c
  exact ⟨c1, c2, c3, by omega, by omega⟩)
theorem mTS.gf {h h' : z_T} {nd pos op : Nat → Nat} {m o cnt : Nat} (S : mTS h nd pos op m o cnt) (f : m_fr mGF h h') : mTS h' nd pos op m o cnt := by
  obtain ⟨s1, s2, s3, s4, s5, s6⟩ := S
  have e14 : z_I h' 14 = z_I h 14 := funext fun k => f.I 14 k (by unfold mGF; omega)
  exact ⟨(f.I 0 35 (by unfold mGF; omega)).trans s1, (f.I 0 36 (by unfold mGF; omega)).trans s2, (f.I 0 37 (by unfold mGF; omega)).trans s3, by rw [e14]; exact s4, fun j hj => ⟨(f.I 15 j (by unfold mGF; omega)).trans (s5 j hj).1, (s5 j hj).2⟩, s6⟩
theorem a_nv_k : ∀ c, c ≤ 10 → ∀ k, k < 8 → (a_nv c = nI k ∧ c ≠ 0 ↔ c = 3 + k) := by decide +kernel
theorem m_opensTest {by8 : Nat → Nat} {L lim : Nat} {h : z_T} {t : Nat × Nat × Nat × Nat} {bk nm nd pos op : Nat → Nat} {m o cnt p way : Nat} {Q : Int32 × z_T → Prop} (l : mL by8 L lim h t) (b : BOK bk) (hB : mB h bk) (N : NMO bk nm) (M : mNm h bk nm) (S : mTS h nd pos op m o cnt) (P : mTP h pos op m o p) (hp : 1 ≤ p) (hp2 : p < 32) (h0 : nd p = 0) (ho : o ≤ 4) (hw : ∀ k, k < 8 → (way.testBit k = true ↔ ∃ j, j < o ∧ nd (pos (op j)) = 3 + k))
    (k0 : ∀ h' e, ((¬ a_kk t = 1 ∧ e = (1, t.2.2.1)) ∨ (a_kk t = 1 ∧ ¬ (a_fx nm (bk 0) t.2.1 < bk 0 ∧ way.testBit (a_fx nm (bk 0) t.2.1) = false) ∧ e = (3, t.2.2.1)) ∨ (a_kk t = 1 ∧ (a_fx nm (bk 0) t.2.1 < bk 0 ∧ way.testBit (a_fx nm (bk 0) t.2.1) = false) ∧ o = 4 ∧ e = (4, t.2.2.1)) ∨ (a_kk t = 1 ∧ (a_fx nm (bk 0) t.2.1 < bk 0 ∧ way.testBit (a_fx nm (bk 0) t.2.1) = false) ∧ o < 4 ∧ a_sgn 40 (a_ne by8 L lim t) = .inl e)) → m_fr (mTf o) h h' → mF h' e → Q (nI 0, h'))
    (k1 : ∀ h', a_kk t = 1 → (a_fx nm (bk 0) t.2.1 < bk 0 ∧ way.testBit (a_fx nm (bk 0) t.2.1) = false) → o < 4 → a_sgn 40 (a_ne by8 L lim t) = .inr () → m_fr (mTf o) h h' → mL by8 L lim h' (a_ne by8 L lim (a_ne by8 L lim t)) → mTS h' (a_ud nd p (3 + a_fx nm (bk 0) t.2.1)) (a_ud pos m p) (a_ud op o m) (m + 1) (o + 1) (cnt + 1) → z_I h' 16 o = nI 0 → Q (nI 1, h')) : p_W (fX12_opensTest 0 h) Q := by
  have s := l.1
  have h8 := b.1
  have nmE := m_isName l
  obtain ⟨s1, s2, s3, s4, s5, s6⟩ := S
  have m30 := s4.lt hp hp2 h0
  have hB0 := hB 0 (by decide)
  unfold fX12_opensTest
  by_cases ck : a_kk t = 1
  · have c2 := a_kk1 (t := t) (by omega)
    have fd := m_find (from0 := 0) (n := bk 0) (f := nm) l c2 (fun k hk => ⟨by rw [Nat.zero_add]; exact M.1 k hk, (N.1 k hk).2⟩) (by omega)
    rw [a_fi_fx] at fd
    rw [bI_t ck] at nmE
    have bad3 : ¬ (a_fx nm (bk 0) t.2.1 < bk 0 ∧ way.testBit (a_fx nm (bk 0) t.2.1) = false) → p_W (fX12_bad 0 (3 : Int32) h) (fun a => y_b a.1 = true ∧ Q (a.1, a.2)) := fun c => by
      refine m_bad (F := 3) l (fun h1 f1 g1 => ?_)
      exact ⟨s_yb0, k0 h1 _ (Or.inr (Or.inl ⟨ck, c, rfl⟩)) (mTf.gf f1) g1⟩
    by_cases cT : a_fx nm (bk 0) t.2.1 < bk 0
    · rw [if_pos cT] at fd
      obtain ⟨F, hF⟩ : ∃ F, a_fx nm (bk 0) t.2.1 = F := ⟨_, rfl⟩
      rw [hF] at cT fd bad3 k0 k1
      simp (disch := first | assumption | omega) only [p_some, p_gd, p_br, p_bi, p_nm, p_mp, p_Sl, p_Sr, p_bis, p_gdt, q_IL, q_IR, q_LI, q_LR, q_RI, q_RL, q_KI, q_KL, q_KR, q_NI, q_NL, q_NR, q_nI, q_nL, q_nR, q_okI, q_okL, q_okR, q_Ie, q_In, q_Le, q_Ln, SM_I, SM_L, s_c0, s_cg0, s_cl0, s_cge, s_cle, r_le, r_lt, r_eq, r_md, r_2, r_3, r_lit, r_litL, r_m1, nI_add, nI_1, nI_clamp, nI_leI, nI_ltI, nI_eq, pk_sub, q_ix, nI_l, lN_add, lN_mul, r_m1n, r_m1n', r_m1lt, r_m1nlt, r_m1le, r_m1nle, Nat.not_lt_zero, Nat.reduceEqDiff, Nat.reduceLT, Nat.reduceLeDiff, true_and, and_true, true_implies, false_implies, not_true_eq_false, not_false_eq_true, implies_true, and_self, ne_eq, decide_true, decide_false, Bool.not_true, Bool.not_false, if_true, if_false, reduceIte, mk0, mk1, mk2, mk3, mk4, mk5, mk6, mk7, mk8, mk9, mk10, mk11, mk12, mk13, mk14, mk15, mk16, mk17, mk18, mk19, mk20, mk21, mk22, mn1, mn2, mn3, mn4, mn5, mn6, mn7, mn8, mn9, mn10, mn11, mn12, mn13, mn14, mn15, mn16, mn17, mn18, mn19, mn20, mn21, mn22, mr1, mr6, mr7, mr8, mr9, mr10, mr21, mr22, mr23, mr25, mr26, mr29, mr30, mr32, mr33, mr34, mr43, mr47, mr53, mr54, mr55, mr56, nmE, show (nI 1 = nI 0) = False from by decide, hB0, fd]
      unfold fX12_opensTest_b34 fX12_opensTest_b37
      refine p_for o (fun j w => ∃ c : Bool, w = (bI (c = true), nI j) ∧ (c = true ↔ ∀ i, i < j → nd (pos (op i)) ≠ 3 + F)) ?_ ?_ 0 (by omega) ⟨true, rfl, fun _ i hi => absurd hi (Nat.not_lt_zero _), fun _ => rfl⟩
      · rintro j w hj ⟨c, rfl, hc⟩
        obtain ⟨e1, e2⟩ := s5 j hj
        have e4 := s4.2.2.2.1 (op j) e2
        have vk := a_nv_k (nd (pos (op j))) (s6 _) F (by omega)
        have nz := (s4.1 (op j) e2).2.2
        unfold fX12_opensTest_b37_i fX12_opensTest_b70 fX12_opensTest_b71
        simp (disch := first | assumption | omega) only [p_some, p_gd, p_br, p_bi, p_nm, p_mp, p_Sl, p_Sr, p_bis, p_gdt, q_IL, q_IR, q_LI, q_LR, q_RI, q_RL, q_KI, q_KL, q_KR, q_NI, q_NL, q_NR, q_nI, q_nL, q_nR, q_okI, q_okL, q_okR, q_Ie, q_In, q_Le, q_Ln, SM_I, SM_L, s_c0, s_cg0, s_cl0, s_cge, s_cle, r_le, r_lt, r_eq, r_md, r_2, r_3, r_lit, r_litL, r_m1, nI_add, nI_1, nI_clamp, nI_leI, nI_ltI, nI_eq, pk_sub, q_ix, nI_l, lN_add, lN_mul, r_m1n, r_m1n', r_m1lt, r_m1nlt, r_m1le, r_m1nle, Nat.not_lt_zero, Nat.reduceEqDiff, Nat.reduceLT, Nat.reduceLeDiff, true_and, and_true, true_implies, false_implies, not_true_eq_false, not_false_eq_true, implies_true, and_self, ne_eq, decide_true, decide_false, Bool.not_true, Bool.not_false, if_true, if_false, reduceIte, mk0, mk1, mk2, mk3, mk4, mk5, mk6, mk7, mk8, mk9, mk10, mk11, mk12, mk13, mk14, mk15, mk16, mk17, mk18, mk19, mk20, mk21, mk22, mn1, mn2, mn3, mn4, mn5, mn6, mn7, mn8, mn9, mn10, mn11, mn12, mn13, mn14, mn15, mn16, mn17, mn18, mn19, mn20, mn21, mn22, mr1, mr6, mr7, mr8, mr9, mr10, mr21, mr22, mr23, mr25, mr26, mr29, mr30, mr32, mr33, mr34, mr43, mr47, mr53, mr54, mr55, mr56, s2, show ¬ o ≤ j by omega, bI_0, e1, pk_mul, e4]
        refine ⟨fun c0 => ⟨false, rfl, fun q => absurd q (by decide), fun q => ?_⟩, fun c0 => ⟨fun q => ⟨false, rfl, fun z => absurd z (by decide), fun z => ?_⟩, fun q => ⟨true, rfl, fun _ i hi => ?_, fun _ => rfl⟩⟩⟩
        · exact absurd (hc.mpr (fun i hi => q i (by omega))) c0
        · exact absurd (vk.mp ⟨q, nz⟩) (z j (by omega))
        · by_cases e : i = j
          · rw [e]; exact fun z => q (vk.mpr z).1
          · exact hc.mp (Classical.not_not.mp c0) i (by omega)
      · rintro w ⟨c, rfl, hc⟩
        unfold fX12_opensTest_b37_i
        have un : c = true ↔ way.testBit F = false := by
          rw [hc]
          constructor
          · intro q
            cases z : way.testBit F
            · rfl
            · obtain ⟨j, hj, e⟩ := (hw F (by omega)).mp z
              exact absurd e (q j hj)
          · intro q i hi e
            have := (hw F (by omega)).mpr ⟨i, hi, e⟩
            rw [q] at this
            exact absurd this (by decide)
        simp (disch := first | assumption | omega) only [p_some, p_gd, p_br, p_bi, p_nm, p_mp, p_Sl, p_Sr, p_bis, p_gdt, q_IL, q_IR, q_LI, q_LR, q_RI, q_RL, q_KI, q_KL, q_KR, q_NI, q_NL, q_NR, q_nI, q_nL, q_nR, q_okI, q_okL, q_okR, q_Ie, q_In, q_Le, q_Ln, SM_I, SM_L, s_c0, s_cg0, s_cl0, s_cge, s_cle, r_le, r_lt, r_eq, r_md, r_2, r_3, r_lit, r_litL, r_m1, nI_add, nI_1, nI_clamp, nI_leI, nI_ltI, nI_eq, pk_sub, q_ix, nI_l, lN_add, lN_mul, r_m1n, r_m1n', r_m1lt, r_m1nlt, r_m1le, r_m1nle, Nat.not_lt_zero, Nat.reduceEqDiff, Nat.reduceLT, Nat.reduceLeDiff, true_and, and_true, true_implies, false_implies, not_true_eq_false, not_false_eq_true, implies_true, and_self, ne_eq, decide_true, decide_false, Bool.not_true, Bool.not_false, if_true, if_false, reduceIte, mk0, mk1, mk2, mk3, mk4, mk5, mk6, mk7, mk8, mk9, mk10, mk11, mk12, mk13, mk14, mk15, mk16, mk17, mk18, mk19, mk20, mk21, mk22, mn1, mn2, mn3, mn4, mn5, mn6, mn7, mn8, mn9, mn10, mn11, mn12, mn13, mn14, mn15, mn16, mn17, mn18, mn19, mn20, mn21, mn22, mr1, mr6, mr7, mr8, mr9, mr10, mr21, mr22, mr23, mr25, mr26, mr29, mr30, mr32, mr33, mr34, mr43, mr47, mr53, mr54, mr55, mr56, s2, Nat.le_refl, bI_0]
        refine ⟨fun c0 => bad3 (fun q => c0 (un.mpr q.2)), fun c0 => ?_⟩
        have cu : F < bk 0 ∧ way.testBit F = false := ⟨cT, un.mp (Classical.not_not.mp c0)⟩
        refine ⟨fun c4 => ?_, fun c4 => ?_⟩
        · refine m_bad (F := 4) l (fun h1 f1 g1 => ?_)
          exact ⟨s_yb0, k0 h1 _ (Or.inr (Or.inr (Or.inl ⟨ck, cu, c4, rfl⟩))) (mTf.gf f1) g1⟩
        · have ho4 : o < 4 := by omega
          refine m_hangs (r := op (o - 1)) (c := 3 + F) s s4 s1 s2 hp hp2 h0 (by omega) (by
            unfold a_nv
            rw [if_neg (by omega), if_neg (by omega), if_neg (by omega), Nat.add_sub_cancel_left]) (by
            rcases P with ⟨q1, q2, q3⟩ | ⟨q1, q2, q3, q4⟩
            · exact Or.inl ⟨q1, q2, q3⟩
            · exact Or.inr ⟨q1, ho, q2, (s5 (o - 1) (by omega)).2, q3, (s5 (o - 1) (by omega)).1, q4⟩) (fun h1 f1 g35 M1 => ?_)
          have sh1 := f1.s s
          have j36 := (f1.I 0 36 (by omega)).trans s2
          have j37 := (f1.I 0 37 (by omega)).trans s3
          have f2 : m_fr (fun a k => (a ≠ 0 ∨ (k ≠ 36 ∧ k ≠ 37)) ∧ (a ≠ 15 ∨ k ≠ o) ∧ (a ≠ 16 ∨ k ≠ o)) h1 (z_sI (z_sI (z_sI (z_sI h1 0 37 (nI (cnt + 1))) 15 o (nI m)) 16 o (nI 0)) 0 36 (nI (o + 1))) := (((m_fr.rf.sI (by omega)).sI (by omega)).sI (by omega)).sI (by omega)
          have i36 : z_I (z_sI (z_sI (z_sI (z_sI h1 0 37 (nI (cnt + 1))) 15 o (nI m)) 16 o (nI 0)) 0 36 (nI (o + 1))) 0 36 = nI (o + 1) := q_Ie rfl rfl
          have i16 : z_I (z_sI (z_sI (z_sI (z_sI h1 0 37 (nI (cnt + 1))) 15 o (nI m)) 16 o (nI 0)) 0 36 (nI (o + 1))) 16 o = nI 0 := by rw [q_In (by omega), q_Ie rfl rfl]
          have i15 : z_I (z_sI (z_sI (z_sI (z_sI h1 0 37 (nI (cnt + 1))) 15 o (nI m)) 16 o (nI 0)) 0 36 (nI (o + 1))) 15 o = nI m := by rw [q_In (by omega), q_In (by omega), q_Ie rfl rfl]
          have i37 : z_I (z_sI (z_sI (z_sI (z_sI h1 0 37 (nI (cnt + 1))) 15 o (nI m)) 16 o (nI 0)) 0 36 (nI (o + 1))) 0 37 = nI (cnt + 1) := by rw [q_In (by omega), q_In (by omega), q_In (by omega), q_Ie rfl rfl]
          simp (disch := first | assumption | omega) only [p_some, p_gd, p_br, p_bi, p_nm, p_mp, p_Sl, p_Sr, p_bis, p_gdt, q_IL, q_IR, q_LI, q_LR, q_RI, q_RL, q_KI, q_KL, q_KR, q_NI, q_NL, q_NR, q_nI, q_nL, q_nR, q_okI, q_okL, q_okR, q_Ie, q_In, q_Le, q_Ln, SM_I, SM_L, s_c0, s_cg0, s_cl0, s_cge, s_cle, r_le, r_lt, r_eq, r_md, r_2, r_3, r_lit, r_litL, r_m1, nI_add, nI_1, nI_clamp, nI_leI, nI_ltI, nI_eq, pk_sub, q_ix, nI_l, lN_add, lN_mul, r_m1n, r_m1n', r_m1lt, r_m1nlt, r_m1le, r_m1nle, Nat.not_lt_zero, Nat.reduceEqDiff, Nat.reduceLT, Nat.reduceLeDiff, true_and, and_true, true_implies, false_implies, not_true_eq_false, not_false_eq_true, implies_true, and_self, ne_eq, decide_true, decide_false, Bool.not_true, Bool.not_false, if_true, if_false, reduceIte, mk0, mk1, mk2, mk3, mk4, mk5, mk6, mk7, mk8, mk9, mk10, mk11, mk12, mk13, mk14, mk15, mk16, mk17, mk18, mk19, mk20, mk21, mk22, mn1, mn2, mn3, mn4, mn5, mn6, mn7, mn8, mn9, mn10, mn11, mn12, mn13, mn14, mn15, mn16, mn17, mn18, mn19, mn20, mn21, mn22, mr1, mr6, mr7, mr8, mr9, mr10, mr21, mr22, mr23, mr25, mr26, mr29, mr30, mr32, mr33, mr34, mr43, mr47, mr53, mr54, mr55, mr56, j36, j37, g35, Nat.add_sub_cancel]
          generalize z_sI (z_sI (z_sI (z_sI h1 0 37 (nI (cnt + 1))) 15 o (nI m)) 16 o (nI 0)) 0 36 (nI (o + 1)) = h2 at *
          have F2 : m_fr (mTf o) h h2 := (f1.w (fun a k c => by obtain ⟨c1, c2, c3, c4, c5⟩ := c; omega)).tr (f2.w (fun a k c => by obtain ⟨c1, c2, c3, c4, c5⟩ := c; omega))
          have l2 : mL by8 L lim h2 t := (l.fr f1 (fun a k c => by unfold mKt at c; omega)).fr f2 (fun a k c => by unfold mKt at c; omega)
          have e14 : z_I h2 14 = z_I h1 14 := funext fun k => f2.I 14 k (by omega)
          have S2 : mTS h2 (a_ud nd p (3 + F)) (a_ud pos m p) (a_ud op o m) (m + 1) (o + 1) (cnt + 1) := by
            refine ⟨(f2.I 0 35 (by omega)).trans g35, i36, i37, by rw [e14]; exact M1, fun j hj => ?_, fun q => ?_⟩
            · by_cases e : j = o
              · subst e
                rw [a_ud_e]
                exact ⟨i15, by omega⟩
              · rw [a_ud_n e]
                have := s5 j (by omega)
                exact ⟨(f2.I 15 j (by omega)).trans ((f1.I 15 j (by omega)).trans this.1), by omega⟩
            · unfold a_ud
              split
              · omega
              · exact s6 q
          refine m_goL l2 (by omega) (fun h3 f3 l3 => ?_)
          have g3 := mGF.go f3
          have s3' := l3.1
          have F3 := F2.tr (mTf.gf (o := o) g3)
          have S3 := S2.gf g3
          have i16' := (f3.I 16 o (by unfold mGo; omega)).trans i16
          simp (disch := first | assumption | omega) only [p_some, p_gd, p_br, p_bi, p_nm, p_mp, p_Sl, p_Sr, p_bis, p_gdt, Nat.not_lt_zero, Nat.reduceEqDiff, Nat.reduceLT, Nat.reduceLeDiff, true_and, and_true, true_implies, false_implies, not_true_eq_false, not_false_eq_true, implies_true, and_self, ne_eq, decide_true, decide_false, Bool.not_true, Bool.not_false, if_true, if_false, reduceIte, mk0 s3']
          unfold a_sgn at k0 k1
          refine m_sign (c := 40) l3 (by decide) (fun h4 q f4 g4 => ?_) (fun h4 q f4 l4 => ?_)
          · exact ⟨s_yb0, k0 h4 _ (Or.inr (Or.inr (Or.inr ⟨ck, cu, ho4, by rw [if_neg q]⟩))) (F3.tr (mTf.gf f4)) g4⟩
          · exact ⟨s_yb1, k1 h4 ck cu ho4 (by rw [if_pos q]) (F3.tr (mTf.gf f4)) l4 (S3.gf f4) ((f4.I 16 o (by unfold mGF; omega)).trans i16')⟩
    · rw [if_neg cT] at fd
      have bd := bad3 (fun q => cT q.1)
      simp (disch := first | assumption | omega) only [p_some, p_gd, p_br, p_bi, p_nm, p_mp, p_Sl, p_Sr, p_bis, p_gdt, q_IL, q_IR, q_LI, q_LR, q_RI, q_RL, q_KI, q_KL, q_KR, q_NI, q_NL, q_NR, q_nI, q_nL, q_nR, q_okI, q_okL, q_okR, q_Ie, q_In, q_Le, q_Ln, SM_I, SM_L, s_c0, s_cg0, s_cl0, s_cge, s_cle, r_le, r_lt, r_eq, r_md, r_2, r_3, r_lit, r_litL, r_m1, nI_add, nI_1, nI_clamp, nI_leI, nI_ltI, nI_eq, pk_sub, q_ix, nI_l, lN_add, lN_mul, r_m1n, r_m1n', r_m1lt, r_m1nlt, r_m1le, r_m1nle, Nat.not_lt_zero, Nat.reduceEqDiff, Nat.reduceLT, Nat.reduceLeDiff, true_and, and_true, true_implies, false_implies, not_true_eq_false, not_false_eq_true, implies_true, and_self, ne_eq, decide_true, decide_false, Bool.not_true, Bool.not_false, if_true, if_false, reduceIte, mk0, mk1, mk2, mk3, mk4, mk5, mk6, mk7, mk8, mk9, mk10, mk11, mk12, mk13, mk14, mk15, mk16, mk17, mk18, mk19, mk20, mk21, mk22, mn1, mn2, mn3, mn4, mn5, mn6, mn7, mn8, mn9, mn10, mn11, mn12, mn13, mn14, mn15, mn16, mn17, mn18, mn19, mn20, mn21, mn22, mr1, mr6, mr7, mr8, mr9, mr10, mr21, mr22, mr23, mr25, mr26, mr29, mr30, mr32, mr33, mr34, mr43, mr47, mr53, mr54, mr55, mr56, nmE, show (nI 1 = nI 0) = False from by decide, hB0, fd, r_m1lt]
      unfold fX12_opensTest_b34 fX12_opensTest_b37
      refine p_for o (fun j w => w = (nI 0, nI j)) ?_ ?_ 0 (by omega) rfl
      · rintro j w hj rfl
        unfold fX12_opensTest_b37_i fX12_opensTest_b70 fX12_opensTest_b71
        simp (disch := first | assumption | omega) only [p_some, p_gd, p_br, p_bi, p_nm, p_mp, p_Sl, p_Sr, p_bis, p_gdt, q_IL, q_IR, q_LI, q_LR, q_RI, q_RL, q_KI, q_KL, q_KR, q_NI, q_NL, q_NR, q_nI, q_nL, q_nR, q_okI, q_okL, q_okR, q_Ie, q_In, q_Le, q_Ln, SM_I, SM_L, s_c0, s_cg0, s_cl0, s_cge, s_cle, r_le, r_lt, r_eq, r_md, r_2, r_3, r_lit, r_litL, r_m1, nI_add, nI_1, nI_clamp, nI_leI, nI_ltI, nI_eq, pk_sub, q_ix, nI_l, lN_add, lN_mul, r_m1n, r_m1n', r_m1lt, r_m1nlt, r_m1le, r_m1nle, Nat.not_lt_zero, Nat.reduceEqDiff, Nat.reduceLT, Nat.reduceLeDiff, true_and, and_true, true_implies, false_implies, not_true_eq_false, not_false_eq_true, implies_true, and_self, ne_eq, decide_true, decide_false, Bool.not_true, Bool.not_false, if_true, if_false, reduceIte, mk0, mk1, mk2, mk3, mk4, mk5, mk6, mk7, mk8, mk9, mk10, mk11, mk12, mk13, mk14, mk15, mk16, mk17, mk18, mk19, mk20, mk21, mk22, mn1, mn2, mn3, mn4, mn5, mn6, mn7, mn8, mn9, mn10, mn11, mn12, mn13, mn14, mn15, mn16, mn17, mn18, mn19, mn20, mn21, mn22, mr1, mr6, mr7, mr8, mr9, mr10, mr21, mr22, mr23, mr25, mr26, mr29, mr30, mr32, mr33, mr34, mr43, mr47, mr53, mr54, mr55, mr56, s2, show ¬ o ≤ j by omega]
      · rintro w rfl
        unfold fX12_opensTest_b37_i
        simp (disch := first | assumption | omega) only [p_some, p_gd, p_br, p_bi, p_nm, p_mp, p_Sl, p_Sr, p_bis, p_gdt, q_IL, q_IR, q_LI, q_LR, q_RI, q_RL, q_KI, q_KL, q_KR, q_NI, q_NL, q_NR, q_nI, q_nL, q_nR, q_okI, q_okL, q_okR, q_Ie, q_In, q_Le, q_Ln, SM_I, SM_L, s_c0, s_cg0, s_cl0, s_cge, s_cle, r_le, r_lt, r_eq, r_md, r_2, r_3, r_lit, r_litL, r_m1, nI_add, nI_1, nI_clamp, nI_leI, nI_ltI, nI_eq, pk_sub, q_ix, nI_l, lN_add, lN_mul, r_m1n, r_m1n', r_m1lt, r_m1nlt, r_m1le, r_m1nle, Nat.not_lt_zero, Nat.reduceEqDiff, Nat.reduceLT, Nat.reduceLeDiff, true_and, and_true, true_implies, false_implies, not_true_eq_false, not_false_eq_true, implies_true, and_self, ne_eq, decide_true, decide_false, Bool.not_true, Bool.not_false, if_true, if_false, reduceIte, mk0, mk1, mk2, mk3, mk4, mk5, mk6, mk7, mk8, mk9, mk10, mk11, mk12, mk13, mk14, mk15, mk16, mk17, mk18, mk19, mk20, mk21, mk22, mn1, mn2, mn3, mn4, mn5, mn6, mn7, mn8, mn9, mn10, mn11, mn12, mn13, mn14, mn15, mn16, mn17, mn18, mn19, mn20, mn21, mn22, mr1, mr6, mr7, mr8, mr9, mr10, mr21, mr22, mr23, mr25, mr26, mr29, mr30, mr32, mr33, mr34, mr43, mr47, mr53, mr54, mr55, mr56, s2, Nat.le_refl]
        exact bd
  · rw [bI_f ck] at nmE
    simp (disch := first | assumption | omega) only [p_some, p_gd, p_br, p_bi, p_nm, p_mp, p_Sl, p_Sr, p_bis, p_gdt, q_IL, q_IR, q_LI, q_LR, q_RI, q_RL, q_KI, q_KL, q_KR, q_NI, q_NL, q_NR, q_nI, q_nL, q_nR, q_okI, q_okL, q_okR, q_Ie, q_In, q_Le, q_Ln, SM_I, SM_L, s_c0, s_cg0, s_cl0, s_cge, s_cle, r_le, r_lt, r_eq, r_md, r_2, r_3, r_lit, r_litL, r_m1, nI_add, nI_1, nI_clamp, nI_leI, nI_ltI, nI_eq, pk_sub, q_ix, nI_l, lN_add, lN_mul, r_m1n, r_m1n', r_m1lt, r_m1nlt, r_m1le, r_m1nle, Nat.not_lt_zero, Nat.reduceEqDiff, Nat.reduceLT, Nat.reduceLeDiff, true_and, and_true, true_implies, false_implies, not_true_eq_false, not_false_eq_true, implies_true, and_self, ne_eq, decide_true, decide_false, Bool.not_true, Bool.not_false, if_true, if_false, reduceIte, mk0, mk1, mk2, mk3, mk4, mk5, mk6, mk7, mk8, mk9, mk10, mk11, mk12, mk13, mk14, mk15, mk16, mk17, mk18, mk19, mk20, mk21, mk22, mn1, mn2, mn3, mn4, mn5, mn6, mn7, mn8, mn9, mn10, mn11, mn12, mn13, mn14, mn15, mn16, mn17, mn18, mn19, mn20, mn21, mn22, mr1, mr6, mr7, mr8, mr9, mr10, mr21, mr22, mr23, mr25, mr26, mr29, mr30, mr32, mr33, mr34, mr43, mr47, mr53, mr54, mr55, mr56, nmE]
    refine m_bad l (fun h1 f1 g1 => ?_)
    simp (disch := first | assumption | omega) only [p_some, p_gd, p_br, p_bi, p_nm, p_mp, p_Sl, p_Sr, p_bis, p_gdt, Nat.not_lt_zero, Nat.reduceEqDiff, Nat.reduceLT, Nat.reduceLeDiff, true_and, and_true, true_implies, false_implies, not_true_eq_false, not_false_eq_true, implies_true, and_self, ne_eq, decide_true, decide_false, Bool.not_true, Bool.not_false, if_true, if_false, reduceIte, s_yb0]
    exact k0 h1 _ (Or.inl ⟨ck, rfl⟩) (mTf.gf f1) g1
