/-! the reference reads a tree -/
theorem MT.ch0 {nf : Nat → Int32} {nd pos : Nat → Nat} {m p : Nat} (M : MT nf nd pos m) (hp : 1 ≤ p) (h0 : nd p = 0) (b : Nat) (hb : b < 2) (h32 : 2 * p + b < 32) : nd (2 * p + b) = 0 := by
  refine Classical.byContradiction (fun c => ?_)
  obtain ⟨j, hj, e⟩ := M.at h32 c
  rcases M.2.2.2.2.1 j hj with q | ⟨-, i, hi, q, -⟩
  · omega
  · have := (M.1 i hi).2.2
    rw [show pos i = p by omega] at this
    exact this h0
theorem a_tr_out {ne : Nat × Nat × Nat × Nat → Nat × Nat × Nat × Nat} {f : Nat → Nat} {n0 : Nat} : ∀ d p way nd cnt t w, a_tr ne f n0 d p way nd cnt t = .inr w → ∀ q, (∀ k, q / 2 ^ k ≠ p) → w.1 q = nd q := by
  intro d
  induction d with
  | zero =>
    intro p way nd cnt t w h q hq
    have q0 : q ≠ p := fun e => hq 0 (by rw [Nat.pow_zero, Nat.div_one]; exact e)
    rw [a_tr] at h
    split at h
    · have e := Sum.inr.inj h
      subst e
      exact a_ud_n q0
    · split at h
      · have e := Sum.inr.inj h
        subst e
        exact a_ud_n q0
      · split at h
        · split at h
          · exact absurd h Sum.inl_ne_inr
          · exact absurd h Sum.inl_ne_inr
        · exact absurd h Sum.inl_ne_inr
  | succ d ih =>
    intro p way nd cnt t w h q hq
    have q0 : q ≠ p := fun e => hq 0 (by rw [Nat.pow_zero, Nat.div_one]; exact e)
    have q2 : ∀ b, b < 2 → ∀ k, q / 2 ^ k ≠ 2 * p + b := fun b hb k e => hq (k + 1) (by rw [Nat.pow_succ, ← Nat.div_div_eq_div_mul, e]; omega)
    rw [a_tr] at h
    split at h
    · have e := Sum.inr.inj h
      subst e
      exact a_ud_n q0
    · split at h
      · have e := Sum.inr.inj h
        subst e
        exact a_ud_n q0
      · split at h
        · split at h
          · obtain ⟨-, -, h⟩ := a_bd_i h
            obtain ⟨v, e1, h⟩ := a_bd_i h
            obtain ⟨-, -, h⟩ := a_bd_i h
            obtain ⟨u, e2, h⟩ := a_bd_i h
            obtain ⟨-, -, h⟩ := a_bd_i h
            have e := Sum.inr.inj h
            subst e
            dsimp only
            rw [ih _ _ _ _ _ _ e2 q (q2 1 (by omega)), ih _ _ _ _ _ _ e1 q (q2 0 (by omega)), a_ud_n q0]
          · exact absurd h Sum.inl_ne_inr
        · exact absurd h Sum.inl_ne_inr
theorem a_low {q p : Nat} (h : q < p) : ∀ k, q / 2 ^ k ≠ p := fun k e => by
  have := Nat.div_le_self q (2 ^ k)
  omega
theorem m_leaf {by8 : Nat → Nat} {L lim : Nat} {h : z_T} {t : Nat × Nat × Nat × Nat} {nd pos op : Nat → Nat} {m o cnt p c : Nat} {v : Int32} {Q : ((Int32 × z_T) ⊕ (Int32 × z_T)) → Prop} (l : mL by8 L lim h t) (h2 : 2 ≤ t.1) (S : mTS h nd pos op m o cnt) (P : mTP h pos op m o p) (hp : 1 ≤ p) (hp2 : p < 32) (h0 : nd p = 0) (ho : o ≤ 4) (hc : c = 1 ∨ c = 2) (hv : v = a_nv c)
    (k : ∀ h', m_fr (mTf o) h h' → mL by8 L lim h' (a_ne by8 L lim t) → mTS h' (a_ud nd p c) (a_ud pos m p) op (m + 1) o cnt → p_W (fX12_readTree_b61 0 (nI 0) h') Q) : p_W (fX12_readTree_b52 0 0 v h) Q := by
  have s := l.1
  obtain ⟨s1, s2, s3, s4, s5, s6⟩ := S
  unfold fX12_readTree_b52
  simp (disch := first | assumption | omega) only [p_some, p_gd, p_br, p_bi, p_nm, p_mp, p_Sl, p_Sr, p_bis, p_gdt, Nat.not_lt_zero, Nat.reduceEqDiff, Nat.reduceLT, Nat.reduceLeDiff, true_and, and_true, true_implies, false_implies, not_true_eq_false, not_false_eq_true, implies_true, and_self, ne_eq, decide_true, decide_false, Bool.not_true, Bool.not_false, if_true, if_false, reduceIte, mk0 s]
  refine m_hangs (r := op (o - 1)) (c := c) s s4 s1 s2 hp hp2 h0 (by omega) hv (by
    rcases P with ⟨q1, q2, q3⟩ | ⟨q1, q2, q3, q4⟩
    · exact Or.inl ⟨q1, q2, q3⟩
    · exact Or.inr ⟨q1, ho, q2, (s5 (o - 1) (by omega)).2, q3, (s5 (o - 1) (by omega)).1, q4⟩) (fun h1 f1 g35 M1 => ?_)
  have sh1 := f1.s s
  have l1 : mL by8 L lim h1 t := l.fr f1 (fun a k c => by unfold mKt at c; omega)
  have S1 : mTS h1 (a_ud nd p c) (a_ud pos m p) op (m + 1) o cnt := by
    refine ⟨g35, (f1.I 0 36 (by omega)).trans s2, (f1.I 0 37 (by omega)).trans s3, M1, fun j hj => ⟨(f1.I 15 j (by omega)).trans (s5 j hj).1, by have := (s5 j hj).2; omega⟩, fun q => ?_⟩
    unfold a_ud
    split
    · omega
    · exact s6 q
  simp (disch := first | assumption | omega) only [p_some, p_gd, p_br, p_bi, p_nm, p_mp, p_Sl, p_Sr, p_bis, p_gdt, Nat.not_lt_zero, Nat.reduceEqDiff, Nat.reduceLT, Nat.reduceLeDiff, true_and, and_true, true_implies, false_implies, not_true_eq_false, not_false_eq_true, implies_true, and_self, ne_eq, decide_true, decide_false, Bool.not_true, Bool.not_false, if_true, if_false, reduceIte, mk0 sh1, r_lit]
  refine m_goL l1 h2 (fun h3 f3 l3 => ?_)
  exact k h3 ((f1.w (fun a k c => by obtain ⟨c1, c2, c3, c4, c5⟩ := c; omega)).tr (mTf.gf (mGF.go f3))) l3 (S1.gf (mGF.go f3))
noncomputable def OUT : Int32 × z_T → Option ((Int32 × z_T) ⊕ (Int32 × z_T)) := fun q => fX12_readTree_b2_i 0 q.1 q.2
noncomputable def INN : Int32 × z_T → Option ((Int32 × z_T) ⊕ ((Int32 × z_T) ⊕ (Int32 × z_T))) := fun q => fX12_readTree_b61_i 0 q.1 q.2
theorem m_trd {by8 : Nat → Nat} {L lim : Nat} {bk nm : Nat → Nat} (b : BOK bk) (N : NMO bk nm) : ∀ D d, d < D → ∀ o, o + d = 4 → ∀ p way (nd : Nat → Nat) cnt (h : z_T) (t : Nat × Nat × Nat × Nat) (pos op : Nat → Nat) m (Q : Int32 × z_T → Prop), mL by8 L lim h t → mB h bk → mNm h bk nm → mTS h nd pos op m o cnt → mTP h pos op m o p → 1 ≤ p → p < 2 ^ (5 - d) → nd p = 0 → (∀ j, j < o → pos (op j) < p) → (∀ k, k < 8 → (way.testBit k = true ↔ ∃ j, j < o ∧ nd (pos (op j)) = 3 + k)) →
    (∀ h' e, a_tr (a_ne by8 L lim) nm (bk 0) d p way nd cnt t = .inl e → m_fr (mTf o) h h' → mF h' e → Q (nI 0, h')) →
    (∀ h' w pos' m', a_tr (a_ne by8 L lim) nm (bk 0) d p way nd cnt t = .inr w → m_fr (mTf o) h h' → mL by8 L lim h' w.2.2 → mTS h' w.1 pos' op m' o w.2.1 → m < m' → (∀ i, i < m → pos' i = pos i) → p_W (y_lp INN (nI 0, h')) (p_S (fun s' => p_W (y_lp OUT s') Q) Q)) →
    p_W (y_lp OUT (nI 1, h)) Q := by
  have h8 := b.1
  have s10 : (nI 1 = nI 0) = False := by decide
  intro D
  induction D with
  | zero => exact fun d hd => absurd hd (Nat.not_lt_zero _)
  | succ D ih =>
    intro d hd o hod p way nd cnt h t pos op m Q l hB hM S P hp hp2 h0 hlow hw k0 k1
    have s := l.1
    have p32 : p < 32 := Nat.lt_of_lt_of_le hp2 (Nat.le_trans (Nat.pow_le_pow_right (by decide) (show 5 - d ≤ 5 by omega)) (by decide))
    have w12 := m_isWord l (i := 12) (W := 30064) (by decide) (by decide) (by decide)
    have w13 := m_isWord l (i := 13) (W := 6448484) (by decide) (by decide) (by decide)
    refine p_un ?_
    obtain ⟨Qi, hQi⟩ : ∃ Qi, Qi = p_S (fun s' => p_W (y_lp OUT s') Q) Q := ⟨_, rfl⟩
    rw [← hQi] at k1 ⊢
    have hr : ∀ v, Q v → Qi (.inr v) := fun v q => by rw [hQi]; exact q
    have hl : ∀ v, p_W (y_lp OUT v) Q → Qi (.inl v) := fun v q => by rw [hQi]; exact q
    show p_W (fX12_readTree_b2_i 0 (nI 1) h) Qi
    unfold fX12_readTree_b2_i fX12_readTree_b35
    by_cases c13 : a_kk t = 13
    · rw [bI_t (show a_kk t = 12 + 1 by omega)] at w12
      rw [a_tr_13 c13] at k1
      simp (disch := first | assumption | omega) only [p_some, p_gd, p_br, p_bi, p_nm, p_mp, p_Sl, p_Sr, p_bis, p_gdt, Nat.not_lt_zero, Nat.reduceEqDiff, Nat.reduceLT, Nat.reduceLeDiff, true_and, and_true, true_implies, false_implies, not_true_eq_false, not_false_eq_true, implies_true, and_self, ne_eq, decide_true, decide_false, Bool.not_true, Bool.not_false, if_true, if_false, reduceIte, mk0 s, r_lit, r_litL, w12, s10]
      exact m_leaf l (by have := a_kk1 (t := t) (by omega); omega) S P hp p32 h0 (by omega) (c := 1) (Or.inl rfl) rfl (fun h1 f1 l1 S1 => k1 h1 _ (a_ud pos m p) (m + 1) rfl f1 l1 S1 (by omega) (fun i hi => a_ud_n (by omega)))
    · rw [bI_f (show ¬ a_kk t = 12 + 1 by omega)] at w12
      by_cases c14 : a_kk t = 14
      · rw [bI_t (show a_kk t = 13 + 1 by omega)] at w13
        rw [a_tr_14 c14] at k1
        simp (disch := first | assumption | omega) only [p_some, p_gd, p_br, p_bi, p_nm, p_mp, p_Sl, p_Sr, p_bis, p_gdt, Nat.not_lt_zero, Nat.reduceEqDiff, Nat.reduceLT, Nat.reduceLeDiff, true_and, and_true, true_implies, false_implies, not_true_eq_false, not_false_eq_true, implies_true, and_self, ne_eq, decide_true, decide_false, Bool.not_true, Bool.not_false, if_true, if_false, reduceIte, mk0 s, r_lit, r_litL, w12, w13, s10]
        exact m_leaf l (by have := a_kk1 (t := t) (by omega); omega) S P hp p32 h0 (by omega) (c := 2) (Or.inr rfl) rfl (fun h1 f1 l1 S1 => k1 h1 _ (a_ud pos m p) (m + 1) rfl f1 l1 S1 (by omega) (fun i hi => a_ud_n (by omega)))
      · rw [bI_f (show ¬ a_kk t = 13 + 1 by omega)] at w13
        simp (disch := first | assumption | omega) only [p_some, p_gd, p_br, p_bi, p_nm, p_mp, p_Sl, p_Sr, p_bis, p_gdt, Nat.not_lt_zero, Nat.reduceEqDiff, Nat.reduceLT, Nat.reduceLeDiff, true_and, and_true, true_implies, false_implies, not_true_eq_false, not_false_eq_true, implies_true, and_self, ne_eq, decide_true, decide_false, Bool.not_true, Bool.not_false, if_true, if_false, reduceIte, mk0 s, r_lit, r_litL, w12, w13, s10]
        refine m_opensTest l b hB N hM S P hp p32 h0 (by omega) hw (fun h1 e c f g => ?_) (fun h1 ck cu ho4 sg f1 l1 S1 side => ?_)
        · simp (disch := first | assumption | omega) only [p_some, p_gd, p_br, p_bi, p_nm, p_mp, p_Sl, p_Sr, p_bis, p_gdt, Nat.not_lt_zero, Nat.reduceEqDiff, Nat.reduceLT, Nat.reduceLeDiff, true_and, and_true, true_implies, false_implies, not_true_eq_false, not_false_eq_true, implies_true, and_self, ne_eq, decide_true, decide_false, Bool.not_true, Bool.not_false, if_true, if_false, reduceIte]
          refine hr _ (k0 h1 e ?_ f g)
          rcases c with ⟨c, rfl⟩ | ⟨c, c2, rfl⟩ | ⟨c, c2, c3, rfl⟩ | ⟨c, c2, c3, c4⟩
          · exact a_tr_no c13 c14 c
          · exact a_tr_bad c c2
          · rw [show d = 0 by omega]
            exact a_tr_0 c c2
          · obtain ⟨d', rfl⟩ : ∃ d', d = d' + 1 := ⟨d - 1, by omega⟩
            rw [a_tr_s c c2, c4, a_bdl]
        · obtain ⟨d, rfl⟩ : ∃ d', d = d' + 1 := ⟨d - 1, by omega⟩
          have k0' := fun h' e q => k0 h' e ((a_tr_s ck cu).trans q)
          have k1' := fun h' w pos' m' q => k1 h' w pos' m' ((a_tr_s ck cu).trans q)
          clear k0 k1
          obtain ⟨F, hF⟩ : ∃ F, a_fx nm (bk 0) t.2.1 = F := ⟨_, rfl⟩
          rw [hF] at cu S1 k0' k1'
          rw [sg] at k0' k1'
          simp only [a_bdr] at k0' k1'
          have ep : 2 ^ (5 - d) = 2 * 2 ^ (5 - (d + 1)) := by
            rw [show 5 - d = (5 - (d + 1)) + 1 by omega, Nat.pow_succ]
            omega
          have p64 : 2 * p + 1 < 32 := Nat.lt_of_lt_of_le (show 2 * p + 1 < 2 ^ (5 - d) by omega) (Nat.le_trans (Nat.pow_le_pow_right (by decide) (show 5 - d ≤ 5 by omega)) (by decide))
          obtain ⟨s1, s2, s3, s4, s5, s6⟩ := S
          have z2 := fun b hb h32 => s4.ch0 hp h0 b hb h32
          have opm : ∀ j, j < o → op j < m := fun j hj => (s5 j hj).2
          have ndn : ∀ j, j < o → pos (op j) ≠ p := fun j hj e => (s4.1 _ (opm j hj)).2.2 (by rw [e]; exact h0)
          have op1 : ∀ j, j < o → a_ud op o m j = op j := fun j hj => a_ud_n (by omega)
          have pos1 : ∀ j, j < o → a_ud pos m p (op j) = pos (op j) := fun j hj => a_ud_n (by have := opm j hj; omega)
          have hB1 : mB h1 bk := fun k hk => (f1.I 2 k (by unfold mTf mGF; omega)).trans (hB k hk)
          have hM1 : mNm h1 bk nm := ⟨fun k hk => (f1.L 5 k (by unfold mTf mGF; omega)).trans (hM.1 k hk), fun k hk => (f1.L 5 _ (by unfold mTf mGF; omega)).trans (hM.2 k hk)⟩
          have P1 : mTP h1 (a_ud pos m p) (a_ud op o m) (m + 1) (o + 1) (2 * p) := Or.inr ⟨by omega, by omega, by rw [Nat.add_sub_cancel, a_ud_e, a_ud_e]; omega, by rw [Nat.add_sub_cancel, show 2 * p % 2 = 0 by omega]; exact side⟩
          have low1 : ∀ j, j < o + 1 → a_ud pos m p (a_ud op o m j) < 2 * p := fun j hj => by
            by_cases e : j = o
            · subst e; rw [a_ud_e, a_ud_e]; omega
            · rw [op1 j (by omega), pos1 j (by omega)]
              have := hlow j (by omega)
              omega
          have hw1 : ∀ k, k < 8 → ((way ||| 2 ^ F).testBit k = true ↔ ∃ j, j < o + 1 ∧ a_ud nd p (3 + F) (a_ud pos m p (a_ud op o m j)) = 3 + k) := fun k hk => by
            rw [Nat.testBit_or, Nat.testBit_two_pow, Bool.or_eq_true, decide_eq_true_eq]
            constructor
            · rintro (q | q)
              · obtain ⟨j, hj, e⟩ := (hw k hk).mp q
                exact ⟨j, by omega, by rw [op1 j hj, pos1 j hj, a_ud_n (ndn j hj)]; exact e⟩
              · exact ⟨o, by omega, by rw [a_ud_e, a_ud_e, a_ud_e, q]⟩
            · rintro ⟨j, hj, e⟩
              by_cases ej : j = o
              · subst ej
                rw [a_ud_e, a_ud_e, a_ud_e] at e
                exact Or.inr (by omega)
              · rw [op1 j (by omega), pos1 j (by omega), a_ud_n (ndn j (by omega))] at e
                exact Or.inl ((hw k hk).mpr ⟨j, by omega, e⟩)
          have z1 : a_ud nd p (3 + F) (2 * p) = 0 := by
            rw [a_ud_n (by omega)]
            exact z2 0 (by omega) (by omega)
          simp (disch := first | assumption | omega) only [p_some, p_gd, p_br, p_bi, p_nm, p_mp, p_Sl, p_Sr, p_bis, p_gdt, Nat.not_lt_zero, Nat.reduceEqDiff, Nat.reduceLT, Nat.reduceLeDiff, true_and, and_true, true_implies, false_implies, not_true_eq_false, not_false_eq_true, implies_true, and_self, ne_eq, decide_true, decide_false, Bool.not_true, Bool.not_false, if_true, if_false, reduceIte, s10]
          refine hl _ ?_
          refine ih d (by omega) (o + 1) (by omega) (2 * p) (way ||| 2 ^ F) _ _ h1 _ _ _ _ Q l1 hB1 hM1 S1 P1 (by omega) (by omega) z1 low1 hw1 (fun h2 e q f g => k0' h2 e (by rw [q, a_bdl]) (f1.tr (mTf.up (by omega) f)) g) (fun h2 w pos2 m2 q f2 l2 S2 hm2 ext2 => ?_)
          have s2h := l2.1
          have out := a_tr_out _ _ _ _ _ _ _ q
          have sd2 := (f2.I 16 o (by unfold mTf mGF; omega)).trans side
          have F2 := f1.tr (mTf.up (o := o) (by omega) f2)
          rw [q] at k0' k1'
          simp only [a_bdr] at k0' k1'
          rw [← hQi]
          refine p_unP (fun P' hP => ?_)
          show p_W (fX12_readTree_b61_i 0 (nI 0) h2) (p_S P' Qi)
          unfold fX12_readTree_b61_i fX12_readTree_b94 fX12_readTree_b121
          simp (disch := first | assumption | omega) only [p_some, p_gd, p_br, p_bi, p_nm, p_mp, p_Sl, p_Sr, p_bis, p_gdt, q_IL, q_IR, q_LI, q_LR, q_RI, q_RL, q_KI, q_KL, q_KR, q_NI, q_NL, q_NR, q_nI, q_nL, q_nR, q_okI, q_okL, q_okR, q_Ie, q_In, q_Le, q_Ln, SM_I, SM_L, s_c0, s_cg0, s_cl0, s_cge, s_cle, r_le, r_lt, r_eq, r_md, r_2, r_3, r_lit, r_litL, r_m1, nI_add, nI_1, nI_clamp, nI_leI, nI_ltI, nI_eq, pk_sub, q_ix, nI_l, lN_add, lN_mul, r_m1n, r_m1n', r_m1lt, r_m1nlt, r_m1le, r_m1nle, Nat.not_lt_zero, Nat.reduceEqDiff, Nat.reduceLT, Nat.reduceLeDiff, true_and, and_true, true_implies, false_implies, not_true_eq_false, not_false_eq_true, implies_true, and_self, ne_eq, decide_true, decide_false, Bool.not_true, Bool.not_false, if_true, if_false, reduceIte, mk0, mk1, mk2, mk3, mk4, mk5, mk6, mk7, mk8, mk9, mk10, mk11, mk12, mk13, mk14, mk15, mk16, mk17, mk18, mk19, mk20, mk21, mk22, mn1, mn2, mn3, mn4, mn5, mn6, mn7, mn8, mn9, mn10, mn11, mn12, mn13, mn14, mn15, mn16, mn17, mn18, mn19, mn20, mn21, mn22, mr1, mr6, mr7, mr8, mr9, mr10, mr21, mr22, mr23, mr25, mr26, mr29, mr30, mr32, mr33, mr34, mr43, mr47, mr53, mr54, mr55, mr56, S2.2.1, Nat.add_sub_cancel, sd2, show ¬ o + 1 ≤ 0 by omega]
          refine m_sign (c := 59) l2 (by decide) (fun h3 q f g => ?_) (fun h3 q f3 l3 => ?_)
          · simp (disch := first | assumption | omega) only [p_some, p_gd, p_br, p_bi, p_nm, p_mp, p_Sl, p_Sr, p_bis, p_gdt, Nat.not_lt_zero, Nat.reduceEqDiff, Nat.reduceLT, Nat.reduceLeDiff, true_and, and_true, true_implies, false_implies, not_true_eq_false, not_false_eq_true, implies_true, and_self, ne_eq, decide_true, decide_false, Bool.not_true, Bool.not_false, if_true, if_false, reduceIte]
            exact hr _ (k0' h3 _ (by unfold a_sgn; rw [if_neg q, a_bdl]) (F2.tr (mTf.gf f)) g)
          · have s3h := l3.1
            have sd3 := (f3.I 16 o (by unfold mGF; omega)).trans sd2
            have S3 := S2.gf f3
            rw [show a_sgn 59 w.2.2 = .inr () from if_pos q] at k0' k1'
            simp only [a_bdr] at k0' k1'
            simp (disch := first | assumption | omega) only [p_some, p_gd, p_br, p_bi, p_nm, p_mp, p_Sl, p_Sr, p_bis, p_gdt, q_IL, q_IR, q_LI, q_LR, q_RI, q_RL, q_KI, q_KL, q_KR, q_NI, q_NL, q_NR, q_nI, q_nL, q_nR, q_okI, q_okL, q_okR, q_Ie, q_In, q_Le, q_Ln, SM_I, SM_L, s_c0, s_cg0, s_cl0, s_cge, s_cle, r_le, r_lt, r_eq, r_md, r_2, r_3, r_lit, r_litL, r_m1, nI_add, nI_1, nI_clamp, nI_leI, nI_ltI, nI_eq, pk_sub, q_ix, nI_l, lN_add, lN_mul, r_m1n, r_m1n', r_m1lt, r_m1nlt, r_m1le, r_m1nle, Nat.not_lt_zero, Nat.reduceEqDiff, Nat.reduceLT, Nat.reduceLeDiff, true_and, and_true, true_implies, false_implies, not_true_eq_false, not_false_eq_true, implies_true, and_self, ne_eq, decide_true, decide_false, Bool.not_true, Bool.not_false, if_true, if_false, reduceIte, mk0, mk1, mk2, mk3, mk4, mk5, mk6, mk7, mk8, mk9, mk10, mk11, mk12, mk13, mk14, mk15, mk16, mk17, mk18, mk19, mk20, mk21, mk22, mn1, mn2, mn3, mn4, mn5, mn6, mn7, mn8, mn9, mn10, mn11, mn12, mn13, mn14, mn15, mn16, mn17, mn18, mn19, mn20, mn21, mn22, mr1, mr6, mr7, mr8, mr9, mr10, mr21, mr22, mr23, mr25, mr26, mr29, mr30, mr32, mr33, mr34, mr43, mr47, mr53, mr54, mr55, mr56, s10, S3.2.1, Nat.add_sub_cancel, sd3]
            refine hP _ ?_
            have f4 : m_fr (fun a k => a ≠ 16 ∨ k ≠ o) h3 (z_sI h3 16 o (nI 1)) := m_fr.rf.sI (by omega)
            have sd4 : z_I (z_sI h3 16 o (nI 1)) 16 o = nI 1 := q_Ie rfl rfl
            have l4 : mL by8 L lim (z_sI h3 16 o (nI 1)) (a_ne by8 L lim w.2.2) := l3.fr f4 (fun a k c => by unfold mKt at c; omega)
            have S4 : mTS (z_sI h3 16 o (nI 1)) w.1 pos2 (a_ud op o m) m2 (o + 1) w.2.1 := by
              obtain ⟨a1, a2, a3, a4, a5, a6⟩ := S3
              have e14 : z_I (z_sI h3 16 o (nI 1)) 14 = z_I h3 14 := funext fun k => f4.I 14 k (by omega)
              exact ⟨(f4.I 0 35 (by omega)).trans a1, (f4.I 0 36 (by omega)).trans a2, (f4.I 0 37 (by omega)).trans a3, by rw [e14]; exact a4, fun j hj => ⟨(f4.I 15 j (by omega)).trans (a5 j hj).1, (a5 j hj).2⟩, a6⟩
            have F4 : m_fr (mTf o) h (z_sI h3 16 o (nI 1)) := (F2.tr (mTf.gf f3)).tr (f4.w (fun a k c => by obtain ⟨c1, c2, c3, c4, c5⟩ := c; omega))
            generalize z_sI h3 16 o (nI 1) = h4 at *
            have s4h := l4.1
            refine p_unP (fun P2 hP2 => ?_)
            show p_W (fX12_readTree_b61_i 0 (nI 1) h4) (p_S P2 Qi)
            unfold fX12_readTree_b61_i
            simp (disch := first | assumption | omega) only [p_some, p_gd, p_br, p_bi, p_nm, p_mp, p_Sl, p_Sr, p_bis, p_gdt, q_IL, q_IR, q_LI, q_LR, q_RI, q_RL, q_KI, q_KL, q_KR, q_NI, q_NL, q_NR, q_nI, q_nL, q_nR, q_okI, q_okL, q_okR, q_Ie, q_In, q_Le, q_Ln, SM_I, SM_L, s_c0, s_cg0, s_cl0, s_cge, s_cle, r_le, r_lt, r_eq, r_md, r_2, r_3, r_lit, r_litL, r_m1, nI_add, nI_1, nI_clamp, nI_leI, nI_ltI, nI_eq, pk_sub, q_ix, nI_l, lN_add, lN_mul, r_m1n, r_m1n', r_m1lt, r_m1nlt, r_m1le, r_m1nle, Nat.not_lt_zero, Nat.reduceEqDiff, Nat.reduceLT, Nat.reduceLeDiff, true_and, and_true, true_implies, false_implies, not_true_eq_false, not_false_eq_true, implies_true, and_self, ne_eq, decide_true, decide_false, Bool.not_true, Bool.not_false, if_true, if_false, reduceIte, mk0, mk1, mk2, mk3, mk4, mk5, mk6, mk7, mk8, mk9, mk10, mk11, mk12, mk13, mk14, mk15, mk16, mk17, mk18, mk19, mk20, mk21, mk22, mn1, mn2, mn3, mn4, mn5, mn6, mn7, mn8, mn9, mn10, mn11, mn12, mn13, mn14, mn15, mn16, mn17, mn18, mn19, mn20, mn21, mn22, mr1, mr6, mr7, mr8, mr9, mr10, mr21, mr22, mr23, mr25, mr26, mr29, mr30, mr32, mr33, mr34, mr43, mr47, mr53, mr54, mr55, mr56, S4.2.1, s10, show ¬ o + 1 ≤ 0 by omega]
            refine hl _ ?_
            have hB4 : mB h4 bk := fun k hk => (F4.I 2 k (by unfold mTf mGF; omega)).trans (hB k hk)
            have hM4 : mNm h4 bk nm := ⟨fun k hk => (F4.L 5 k (by unfold mTf mGF; omega)).trans (hM.1 k hk), fun k hk => (F4.L 5 _ (by unfold mTf mGF; omega)).trans (hM.2 k hk)⟩
            have op1' : ∀ j, j < o + 1 → a_ud op o m j < m + 1 := fun j hj => by
              by_cases e : j = o
              · subst e; rw [a_ud_e]; omega
              · rw [op1 j (by omega)]
                have := opm j (by omega)
                omega
            have pos2' : ∀ j, j < o + 1 → pos2 (a_ud op o m j) = a_ud pos m p (a_ud op o m j) := fun j hj => ext2 _ (op1' j hj)
            have P4 : mTP h4 pos2 (a_ud op o m) m2 (o + 1) (2 * p + 1) := Or.inr ⟨by omega, by omega, by rw [Nat.add_sub_cancel, pos2' o (by omega), a_ud_e, a_ud_e]; omega, by rw [Nat.add_sub_cancel, show (2 * p + 1) % 2 = 1 by omega]; exact sd4⟩
            have z4 : w.1 (2 * p + 1) = 0 := by
              rw [out (2 * p + 1) (fun k e => ?_), a_ud_n (by omega)]
              · exact z2 1 (by omega) (by omega)
              · cases k with
                | zero => rw [Nat.pow_zero, Nat.div_one] at e; omega
                | succ k =>
                  have e2 : (2 * p + 1) / 2 ^ (k + 1) ≤ p := by
                    rw [show 2 ^ (k + 1) = 2 * 2 ^ k from Nat.pow_succ', ← Nat.div_div_eq_div_mul, show (2 * p + 1) / 2 = p by omega]
                    exact Nat.div_le_self _ _
                  rw [e] at e2
                  omega
            have low4 : ∀ j, j < o + 1 → pos2 (a_ud op o m j) < 2 * p + 1 := fun j hj => by
              rw [pos2' j hj]
              have := low1 j hj
              omega
            have hw4 : ∀ k, k < 8 → ((way ||| 2 ^ F).testBit k = true ↔ ∃ j, j < o + 1 ∧ w.1 (pos2 (a_ud op o m j)) = 3 + k) := fun k hk => by
              rw [hw1 k hk]
              constructor
              · rintro ⟨j, hj, e⟩
                exact ⟨j, hj, by rw [pos2' j hj, out _ (a_low (low1 j hj))]; exact e⟩
              · rintro ⟨j, hj, e⟩
                rw [pos2' j hj, out _ (a_low (low1 j hj))] at e
                exact ⟨j, hj, e⟩
            refine ih d (by omega) (o + 1) (by omega) (2 * p + 1) (way ||| 2 ^ F) _ _ h4 _ _ _ _ Q l4 hB4 hM4 S4 P4 (by omega) (by omega) z4 low4 hw4 (fun h5 e q f g => k0' h5 e (by rw [q, a_bdl]) (F4.tr (mTf.up (by omega) f)) g) (fun h5 v pos5 m5 q f5 l5 S5 hm5 ext5 => ?_)
            have s5h := l5.1
            have sd5 := (f5.I 16 o (by unfold mTf mGF; omega)).trans sd4
            have F5 := F4.tr (mTf.up (o := o) (by omega) f5)
            rw [q] at k0' k1'
            simp only [a_bdr] at k0' k1'
            rw [← hQi]
            refine p_unP (fun P5 hP5 => ?_)
            show p_W (fX12_readTree_b61_i 0 (nI 0) h5) (p_S P5 Qi)
            unfold fX12_readTree_b61_i fX12_readTree_b94 fX12_readTree_b121
            simp (disch := first | assumption | omega) only [p_some, p_gd, p_br, p_bi, p_nm, p_mp, p_Sl, p_Sr, p_bis, p_gdt, q_IL, q_IR, q_LI, q_LR, q_RI, q_RL, q_KI, q_KL, q_KR, q_NI, q_NL, q_NR, q_nI, q_nL, q_nR, q_okI, q_okL, q_okR, q_Ie, q_In, q_Le, q_Ln, SM_I, SM_L, s_c0, s_cg0, s_cl0, s_cge, s_cle, r_le, r_lt, r_eq, r_md, r_2, r_3, r_lit, r_litL, r_m1, nI_add, nI_1, nI_clamp, nI_leI, nI_ltI, nI_eq, pk_sub, q_ix, nI_l, lN_add, lN_mul, r_m1n, r_m1n', r_m1lt, r_m1nlt, r_m1le, r_m1nle, Nat.not_lt_zero, Nat.reduceEqDiff, Nat.reduceLT, Nat.reduceLeDiff, true_and, and_true, true_implies, false_implies, not_true_eq_false, not_false_eq_true, implies_true, and_self, ne_eq, decide_true, decide_false, Bool.not_true, Bool.not_false, if_true, if_false, reduceIte, mk0, mk1, mk2, mk3, mk4, mk5, mk6, mk7, mk8, mk9, mk10, mk11, mk12, mk13, mk14, mk15, mk16, mk17, mk18, mk19, mk20, mk21, mk22, mn1, mn2, mn3, mn4, mn5, mn6, mn7, mn8, mn9, mn10, mn11, mn12, mn13, mn14, mn15, mn16, mn17, mn18, mn19, mn20, mn21, mn22, mr1, mr6, mr7, mr8, mr9, mr10, mr21, mr22, mr23, mr25, mr26, mr29, mr30, mr32, mr33, mr34, mr43, mr47, mr53, mr54, mr55, mr56, S5.2.1, Nat.add_sub_cancel, sd5, s10, show ¬ o + 1 ≤ 0 by omega]
            refine m_sign (c := 41) l5 (by decide) (fun h6 q f g => ?_) (fun h6 q f6 l6 => ?_)
            · simp (disch := first | assumption | omega) only [p_some, p_gd, p_br, p_bi, p_nm, p_mp, p_Sl, p_Sr, p_bis, p_gdt, Nat.not_lt_zero, Nat.reduceEqDiff, Nat.reduceLT, Nat.reduceLeDiff, true_and, and_true, true_implies, false_implies, not_true_eq_false, not_false_eq_true, implies_true, and_self, ne_eq, decide_true, decide_false, Bool.not_true, Bool.not_false, if_true, if_false, reduceIte]
              exact hr _ (k0' h6 _ (by unfold a_sgn; rw [if_neg q, a_bdl]) (F5.tr (mTf.gf f)) g)
            · have s6h := l6.1
              have sd6 := (f6.I 16 o (by unfold mGF; omega)).trans sd5
              have S6 := S5.gf f6
              rw [show a_sgn 41 v.2.2 = .inr () from if_pos q] at k1'
              simp only [a_bdr] at k1'
              simp (disch := first | assumption | omega) only [p_some, p_gd, p_br, p_bi, p_nm, p_mp, p_Sl, p_Sr, p_bis, p_gdt, q_IL, q_IR, q_LI, q_LR, q_RI, q_RL, q_KI, q_KL, q_KR, q_NI, q_NL, q_NR, q_nI, q_nL, q_nR, q_okI, q_okL, q_okR, q_Ie, q_In, q_Le, q_Ln, SM_I, SM_L, s_c0, s_cg0, s_cl0, s_cge, s_cle, r_le, r_lt, r_eq, r_md, r_2, r_3, r_lit, r_litL, r_m1, nI_add, nI_1, nI_clamp, nI_leI, nI_ltI, nI_eq, pk_sub, q_ix, nI_l, lN_add, lN_mul, r_m1n, r_m1n', r_m1lt, r_m1nlt, r_m1le, r_m1nle, Nat.not_lt_zero, Nat.reduceEqDiff, Nat.reduceLT, Nat.reduceLeDiff, true_and, and_true, true_implies, false_implies, not_true_eq_false, not_false_eq_true, implies_true, and_self, ne_eq, decide_true, decide_false, Bool.not_true, Bool.not_false, if_true, if_false, reduceIte, mk0, mk1, mk2, mk3, mk4, mk5, mk6, mk7, mk8, mk9, mk10, mk11, mk12, mk13, mk14, mk15, mk16, mk17, mk18, mk19, mk20, mk21, mk22, mn1, mn2, mn3, mn4, mn5, mn6, mn7, mn8, mn9, mn10, mn11, mn12, mn13, mn14, mn15, mn16, mn17, mn18, mn19, mn20, mn21, mn22, mr1, mr6, mr7, mr8, mr9, mr10, mr21, mr22, mr23, mr25, mr26, mr29, mr30, mr32, mr33, mr34, mr43, mr47, mr53, mr54, mr55, mr56, s10, S6.2.1, Nat.add_sub_cancel, sd6]
              refine hP5 _ ?_
              have f7 : m_fr (fun a k => a ≠ 0 ∨ k ≠ 36) h6 (z_sI h6 0 36 (nI o)) := m_fr.rf.sI (by omega)
              have i36 : z_I (z_sI h6 0 36 (nI o)) 0 36 = nI o := q_Ie rfl rfl
              have l7 : mL by8 L lim (z_sI h6 0 36 (nI o)) (a_ne by8 L lim v.2.2) := l6.fr f7 (fun a k c => by unfold mKt at c; omega)
              obtain ⟨a1, a2, a3, a4, a5, a6⟩ := S6
              refine k1' _ _ pos5 m5 rfl ((F5.tr (mTf.gf f6)).tr (f7.w (fun a k c => by obtain ⟨c1, c2, c3, c4, c5⟩ := c; omega))) l7 ⟨(f7.I 0 35 (by omega)).trans a1, i36, (f7.I 0 37 (by omega)).trans a3, a4, fun j hj => ?_, a6⟩ (by omega) (fun i hi => ?_)
              · have e := a5 j (by omega)
                rw [op1 j hj] at e
                exact ⟨(f7.I 15 j (by omega)).trans e.1, e.2⟩
              · rw [ext5 i (by omega), ext2 i (by omega), a_ud_n (by omega)]
