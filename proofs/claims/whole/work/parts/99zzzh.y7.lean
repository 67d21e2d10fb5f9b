/-! the class reads one operand of a sentence -/
theorem x_beginsOne : ∀ k, k < 23 → fX7_beginsOne k = some (bI (16 ≤ k)) := by decide +kernel
section XONE
variable {by8 : Nat → Nat} {L lim so bo : Nat} {bk nm : Nat → Nat}
theorem x_readOne (b : BOK bk) (N : NMO bk nm) (hs : 83 ≤ so) (hbo : bo + 8 ≤ so) (hb : bo = 1 ∨ 83 ≤ bo) : ∀ D d, d < D → d ≤ 8 → xHP by8 L lim so bo bk nm (fX7_readOne D) (nI (9 - d)) (a_one (a_ne by8 L lim) (fun d => nm (8 + d)) (bk 1) d) := by
  intro D
  have h6 := b.2.1
  induction D with
  | zero => exact fun d hd => absurd hd (Nat.not_lt_zero _)
  | succ D ih =>
    intro d hd hd8 cf c o h t Q hc ho W l S R k0 k1
    have s := l.1
    obtain ⟨-, t4, -, -, -, t9, tr⟩ := l.2.2.1.k
    have k23 := a_kk23 t
    have bg := x_beginsOne (a_kk t - 1) (by omega)
    show p_W (fX7_readOne_s (fX7_readOne D) so 13 bo (nI (9 - d)) h) Q
    -- behind the tests for what can begin here
    have main : ∀ x5 : Nat, ((t.1 = 40 ∧ x5 = 1) ∨ (¬ t.1 = 40 ∧ 17 ≤ a_kk t ∧ x5 = 0)) → p_W (fX7_readOne_b41 (fX7_readOne D) so 13 bo (nI (9 - d)) (a_kk t - 1) (nI x5) h) Q := fun x5 hx => by
      have cb : t.1 = 40 ∨ 17 ≤ a_kk t := by omega
      have t2 : 2 ≤ t.1 := by
        rcases cb with q | q
        · omega
        · have := a_kk1 (t := t) (by omega); omega
      have so0 := S.1.1
      have S0 := S.2.2.1
      unfold fX7_readOne_b41 fX7_readOne_b56
      by_cases c20 : 20 ≤ o
      · simp (disch := first | assumption | omega) only [p_some, p_gd, p_br, p_bi, p_nm, p_mp, p_Sl, p_Sr, p_bis, p_gdt, Nat.not_lt_zero, Nat.reduceEqDiff, Nat.reduceLT, Nat.reduceLeDiff, true_and, and_true, true_implies, false_implies, not_true_eq_false, not_false_eq_true, implies_true, and_self, ne_eq, decide_true, decide_false, Bool.not_true, Bool.not_false, if_true, if_false, reduceIte, so0, S0, r_lit, nI_leI, c20, xk13 s]
        refine x_fail l (fun h1 f1 g1 => ?_)
        simp (disch := first | assumption | omega) only [p_some, p_gd, p_br, p_bi, p_nm, p_mp, p_Sl, p_Sr, p_bis, p_gdt, Nat.not_lt_zero, Nat.reduceEqDiff, Nat.reduceLT, Nat.reduceLeDiff, true_and, and_true, true_implies, false_implies, not_true_eq_false, not_false_eq_true, implies_true, and_self, ne_eq, decide_true, decide_false, Bool.not_true, Bool.not_false, if_true, if_false, reduceIte, s_yb0]
        exact k0 h1 _ (a_one_20 cb c20) (xSf.gf f1) g1
      · cases d with
        | zero =>
          simp (disch := first | assumption | omega) only [p_some, p_gd, p_br, p_bi, p_nm, p_mp, p_Sl, p_Sr, p_bis, p_gdt, Nat.not_lt_zero, Nat.reduceEqDiff, Nat.reduceLT, Nat.reduceLeDiff, true_and, and_true, true_implies, false_implies, not_true_eq_false, not_false_eq_true, implies_true, and_self, ne_eq, decide_true, decide_false, Bool.not_true, Bool.not_false, if_true, if_false, reduceIte, so0, S0, r_lit, nI_leI, c20, show ¬ 9 - 0 ≤ 8 by omega, xk13 s]
          refine x_fail l (fun h1 f1 g1 => ?_)
          simp (disch := first | assumption | omega) only [p_some, p_gd, p_br, p_bi, p_nm, p_mp, p_Sl, p_Sr, p_bis, p_gdt, Nat.not_lt_zero, Nat.reduceEqDiff, Nat.reduceLT, Nat.reduceLeDiff, true_and, and_true, true_implies, false_implies, not_true_eq_false, not_false_eq_true, implies_true, and_self, ne_eq, decide_true, decide_false, Bool.not_true, Bool.not_false, if_true, if_false, reduceIte, s_yb0]
          exact k0 h1 _ (a_one_0 cb) (xSf.gf f1) g1
        | succ d =>
          have e9 : 9 - (d + 1) + 1 = 9 - d := by omega
          simp (disch := first | assumption | omega) only [p_some, p_gd, p_br, p_bi, p_nm, p_mp, p_Sl, p_Sr, p_bis, p_gdt, Nat.not_lt_zero, Nat.reduceEqDiff, Nat.reduceLT, Nat.reduceLeDiff, true_and, and_true, true_implies, false_implies, not_true_eq_false, not_false_eq_true, implies_true, and_self, ne_eq, decide_true, decide_false, Bool.not_true, Bool.not_false, if_true, if_false, reduceIte, so0, S0, r_lit, nI_leI, nI_add, c20, show 9 - (d + 1) ≤ 8 by omega, q_okI]
          have f0 : x_fr (fun o k => o ≠ so ∨ k ≠ 4) h (z_sI h so 4 (nI (o + 1))) := x_fr.rf.sI (fun _ => by omega)
          have l0 : xL by8 L lim (z_sI h so 4 (nI (o + 1))) t := l.fr f0 (fun o k c => by unfold xKt at c; omega)
          have S0' : xSn (z_sI h so 4 (nI (o + 1))) so bk cf c (o + 1) := ⟨S.1.fr hs f0, (q_In (by omega)).trans S.2.1, q_Ie rfl rfl, fun i hi => ⟨(q_In (by omega)).trans (S.2.2.2 i hi).1, (q_In (by omega)).trans (S.2.2.2 i hi).2⟩⟩
          have R0 := R.fr hb f0 (fun j k hj => by omega)
          have F0 : x_fr (xSf so) h (z_sI h so 4 (nI (o + 1))) := f0.w (fun o k _ c => by unfold xSf at c; omega)
          clear f0
          generalize z_sI h so 4 (nI (o + 1)) = h0 at *
          refine ⟨xk13 s, ?_⟩
          refine x_advL l0 t2 (fun h1 f1 l1 => ?_)
          have s1 := l1.1
          have G1 := xGF.go f1
          have S1 := S0'.fr hs G1 (fun k => by unfold xGF; omega) (fun k => by unfold xGF; omega) (by unfold xGF; omega) (by unfold xGF; omega)
          have R1 := R0.fr hb G1 (fun j k hj => by unfold xGF; omega)
          have F1 := F0.tr (xSf.gf (so := so) G1)
          have so1 := S1.1.1
          have ihd := ih d (by omega) (by omega)
          rcases hx with ⟨c40, rfl⟩ | ⟨c40, c17, rfl⟩
          · have k0' := fun h' e q => k0 h' e ((a_one_b c40 c20).trans q)
            have k1' := fun h' v q => k1 h' v ((a_one_b c40 c20).trans q)
            clear k0 k1
            simp (disch := first | assumption | omega) only [p_some, p_gd, p_br, p_bi, p_nm, p_mp, p_Sl, p_Sr, p_bis, p_gdt, Nat.not_lt_zero, Nat.reduceEqDiff, Nat.reduceLT, Nat.reduceLeDiff, true_and, and_true, true_implies, false_implies, not_true_eq_false, not_false_eq_true, implies_true, and_self, ne_eq, decide_true, decide_false, Bool.not_true, Bool.not_false, if_true, if_false, reduceIte, s_10, so1]
            rw [e9]
            refine x_readCond hs hbo hb ihd (fun cf c o t v W q => a_one_r h6 d cf c o t v W q) cf c (o + 1) h1 _ _ (by omega) (by omega) W l1 S1 R1 (fun h2 e q f g => ?_) (fun h2 v q f2 l2 S2 => ?_)
            · unfold fX7_readOne_b106
              simp (disch := first | assumption | omega) only [p_some, p_gd, p_br, p_bi, p_nm, p_mp, p_Sl, p_Sr, p_bis, p_gdt, Nat.not_lt_zero, Nat.reduceEqDiff, Nat.reduceLT, Nat.reduceLeDiff, true_and, and_true, true_implies, false_implies, not_true_eq_false, not_false_eq_true, implies_true, and_self, ne_eq, decide_true, decide_false, Bool.not_true, Bool.not_false, if_true, if_false, reduceIte, r_lit]
              exact k0' h2 e (by rw [q, a_bdl]) (F1.tr f) g
            · have s2 := l2.1
              have F2 := F1.tr f2
              rw [q, a_bdr] at k0' k1'
              simp (disch := first | assumption | omega) only [p_some, p_gd, p_br, p_bi, p_nm, p_mp, p_Sl, p_Sr, p_bis, p_gdt, Nat.not_lt_zero, Nat.reduceEqDiff, Nat.reduceLT, Nat.reduceLeDiff, true_and, and_true, true_implies, false_implies, not_true_eq_false, not_false_eq_true, implies_true, and_self, ne_eq, decide_true, decide_false, Bool.not_true, Bool.not_false, if_true, if_false, reduceIte, s_10, xk13 s2, r_lit]
              refine x_takeS (c := 41) l2 (by decide) (fun h3 e q f g => ?_) (fun h3 q f3 l3 => ?_)
              · unfold fX7_readOne_b106
                simp (disch := first | assumption | omega) only [p_some, p_gd, p_br, p_bi, p_nm, p_mp, p_Sl, p_Sr, p_bis, p_gdt, Nat.not_lt_zero, Nat.reduceEqDiff, Nat.reduceLT, Nat.reduceLeDiff, true_and, and_true, true_implies, false_implies, not_true_eq_false, not_false_eq_true, implies_true, and_self, ne_eq, decide_true, decide_false, Bool.not_true, Bool.not_false, if_true, if_false, reduceIte, r_lit]
                exact k0' h3 e (by rw [q, a_bdl]) (F2.tr (xSf.gf f)) g
              · rw [q, a_bdr] at k1'
                simp (disch := first | assumption | omega) only [p_some, p_gd, p_br, p_bi, p_nm, p_mp, p_Sl, p_Sr, p_bis, p_gdt, Nat.not_lt_zero, Nat.reduceEqDiff, Nat.reduceLT, Nat.reduceLeDiff, true_and, and_true, true_implies, false_implies, not_true_eq_false, not_false_eq_true, implies_true, and_self, ne_eq, decide_true, decide_false, Bool.not_true, Bool.not_false, if_true, if_false, reduceIte, s_10]
                exact k1' h3 _ rfl (F2.tr (xSf.gf f3)) l3 (S2.fr hs f3 (fun k => by unfold xGF; omega) (fun k => by unfold xGF; omega) (by unfold xGF; omega) (by unfold xGF; omega))
          · obtain ⟨K, hK⟩ : ∃ K, a_kk t = K := ⟨_, rfl⟩
            have ce := @a_one_n (a_ne by8 L lim) (fun d => nm (8 + d)) cf (bk 1) d c o t
            have cl := @a_one_l (a_ne by8 L lim) (fun d => nm (8 + d)) cf (bk 1) d c o t
            rw [hK] at c17 k23 ce cl ⊢
            simp (disch := first | assumption | omega) only [p_some, p_gd, p_br, p_bi, p_nm, p_mp, p_Sl, p_Sr, p_bis, p_gdt, Nat.not_lt_zero, Nat.reduceEqDiff, Nat.reduceLT, Nat.reduceLeDiff, true_and, and_true, true_implies, false_implies, not_true_eq_false, not_false_eq_true, implies_true, and_self, ne_eq, decide_true, decide_false, Bool.not_true, Bool.not_false, if_true, if_false, reduceIte, show K - 1 < 23 by omega]
            by_cases k17 : K = 17
            · have k0' := fun h' e q => k0 h' e ((ce k17 c20).trans q)
              have k1' := fun h' v q => k1 h' v ((ce k17 c20).trans q)
              clear k0 k1
              simp (disch := first | assumption | omega) only [p_some, p_gd, p_br, p_bi, p_nm, p_mp, p_Sl, p_Sr, p_bis, p_gdt, Nat.not_lt_zero, Nat.reduceEqDiff, Nat.reduceLT, Nat.reduceLeDiff, true_and, and_true, true_implies, false_implies, not_true_eq_false, not_false_eq_true, implies_true, and_self, ne_eq, decide_true, decide_false, Bool.not_true, Bool.not_false, if_true, if_false, reduceIte, show K - 1 = 16 by omega, so1]
              rw [e9]
              refine ihd cf c (o + 1) h1 _ _ (by omega) (by omega) W l1 S1 R1 (fun h2 e q f g => ?_) (fun h2 v q f2 l2 S2 => ?_)
              · unfold fX7_readOne_b141
                simp (disch := first | assumption | omega) only [p_some, p_gd, p_br, p_bi, p_nm, p_mp, p_Sl, p_Sr, p_bis, p_gdt, Nat.not_lt_zero, Nat.reduceEqDiff, Nat.reduceLT, Nat.reduceLeDiff, true_and, and_true, true_implies, false_implies, not_true_eq_false, not_false_eq_true, implies_true, and_self, ne_eq, decide_true, decide_false, Bool.not_true, Bool.not_false, if_true, if_false, reduceIte, r_lit]
                exact k0' h2 e (by rw [q, a_bdl]) (F1.tr f) g
              · obtain ⟨r1, r2, r3, r4, r5, r6, r7⟩ := a_one_r h6 d _ _ _ _ _ W q
                rw [q, a_bdr] at k1'
                simp (disch := first | assumption | omega) only [p_some, p_gd, p_br, p_bi, p_nm, p_mp, p_Sl, p_Sr, p_bis, p_gdt, Nat.not_lt_zero, Nat.reduceEqDiff, Nat.reduceLT, Nat.reduceLeDiff, true_and, and_true, true_implies, false_implies, not_true_eq_false, not_false_eq_true, implies_true, and_self, ne_eq, decide_true, decide_false, Bool.not_true, Bool.not_false, if_true, if_false, reduceIte, s_10, S2.1.1, r_lit]
                refine x_putL (w := 20) (s := 0) (n := 0) hs l2 S2 (by omega) rfl rfl (fun h3 f3 l3 S3 => ?_)
                simp (disch := first | assumption | omega) only [p_some, p_gd, p_br, p_bi, p_nm, p_mp, p_Sl, p_Sr, p_bis, p_gdt, Nat.not_lt_zero, Nat.reduceEqDiff, Nat.reduceLT, Nat.reduceLeDiff, true_and, and_true, true_implies, false_implies, not_true_eq_false, not_false_eq_true, implies_true, and_self, ne_eq, decide_true, decide_false, Bool.not_true, Bool.not_false, if_true, if_false, reduceIte, s_10]
                exact k1' h3 _ rfl ((F1.tr f2).tr f3) l3 S3
            · have k0' := fun h' e q => k0 h' e ((cl (by omega) c20).trans q)
              have k1' := fun h' v q => k1 h' v ((cl (by omega) c20).trans q)
              clear k0 k1
              simp (disch := first | assumption | omega) only [p_some, p_gd, p_br, p_bi, p_nm, p_mp, p_Sl, p_Sr, p_bis, p_gdt, Nat.not_lt_zero, Nat.reduceEqDiff, Nat.reduceLT, Nat.reduceLeDiff, true_and, and_true, true_implies, false_implies, not_true_eq_false, not_false_eq_true, implies_true, and_self, ne_eq, decide_true, decide_false, Bool.not_true, Bool.not_false, if_true, if_false, reduceIte, show ¬ K - 1 = 16 by omega]
              by_cases k18 : K = 18
              · unfold a_lfo at k1'
                rw [if_pos k18] at k1'
                simp (disch := first | assumption | omega) only [p_some, p_gd, p_br, p_bi, p_nm, p_mp, p_Sl, p_Sr, p_bis, p_gdt, Nat.not_lt_zero, Nat.reduceEqDiff, Nat.reduceLT, Nat.reduceLeDiff, true_and, and_true, true_implies, false_implies, not_true_eq_false, not_false_eq_true, implies_true, and_self, ne_eq, decide_true, decide_false, Bool.not_true, Bool.not_false, if_true, if_false, reduceIte, show K - 1 = 17 by omega, xb_0 R1.1.1, x_goods b R1.1, so1, r_lit]
                refine x_putL (w := 0) (s := 0) (n := 0) hs l1 S1 (by omega) rfl rfl (fun h3 f3 l3 S3 => ?_)
                simp (disch := first | assumption | omega) only [p_some, p_gd, p_br, p_bi, p_nm, p_mp, p_Sl, p_Sr, p_bis, p_gdt, Nat.not_lt_zero, Nat.reduceEqDiff, Nat.reduceLT, Nat.reduceLeDiff, true_and, and_true, true_implies, false_implies, not_true_eq_false, not_false_eq_true, implies_true, and_self, ne_eq, decide_true, decide_false, Bool.not_true, Bool.not_false, if_true, if_false, reduceIte, s_yb1]
                exact k1' h3 _ rfl (F1.tr f3) l3 S3
              · simp (disch := first | assumption | omega) only [p_some, p_gd, p_br, p_bi, p_nm, p_mp, p_Sl, p_Sr, p_bis, p_gdt, Nat.not_lt_zero, Nat.reduceEqDiff, Nat.reduceLT, Nat.reduceLeDiff, true_and, and_true, true_implies, false_implies, not_true_eq_false, not_false_eq_true, implies_true, and_self, ne_eq, decide_true, decide_false, Bool.not_true, Bool.not_false, if_true, if_false, reduceIte, show ¬ K - 1 = 17 by omega]
                by_cases k20 : K = 20
                · unfold a_lfo at k1'
                  rw [if_neg k18, if_pos k20] at k1'
                  simp (disch := first | assumption | omega) only [p_some, p_gd, p_br, p_bi, p_nm, p_mp, p_Sl, p_Sr, p_bis, p_gdt, Nat.not_lt_zero, Nat.reduceEqDiff, Nat.reduceLT, Nat.reduceLeDiff, true_and, and_true, true_implies, false_implies, not_true_eq_false, not_false_eq_true, implies_true, and_self, ne_eq, decide_true, decide_false, Bool.not_true, Bool.not_false, if_true, if_false, reduceIte, show K - 1 = 19 by omega, so1, r_lit]
                  refine x_putL (w := 1) (s := 0) (n := 0) hs l1 S1 (by omega) rfl rfl (fun h3 f3 l3 S3 => ?_)
                  simp (disch := first | assumption | omega) only [p_some, p_gd, p_br, p_bi, p_nm, p_mp, p_Sl, p_Sr, p_bis, p_gdt, Nat.not_lt_zero, Nat.reduceEqDiff, Nat.reduceLT, Nat.reduceLeDiff, true_and, and_true, true_implies, false_implies, not_true_eq_false, not_false_eq_true, implies_true, and_self, ne_eq, decide_true, decide_false, Bool.not_true, Bool.not_false, if_true, if_false, reduceIte, s_yb1]
                  exact k1' h3 _ rfl (F1.tr f3) l3 S3
                · simp (disch := first | assumption | omega) only [p_some, p_gd, p_br, p_bi, p_nm, p_mp, p_Sl, p_Sr, p_bis, p_gdt, Nat.not_lt_zero, Nat.reduceEqDiff, Nat.reduceLT, Nat.reduceLeDiff, true_and, and_true, true_implies, false_implies, not_true_eq_false, not_false_eq_true, implies_true, and_self, ne_eq, decide_true, decide_false, Bool.not_true, Bool.not_false, if_true, if_false, reduceIte, show ¬ K - 1 = 19 by omega]
                  by_cases k19 : K = 19
                  · subst k19
                    simp (disch := first | assumption | omega) only [p_some, p_gd, p_br, p_bi, p_nm, p_mp, p_Sl, p_Sr, p_bis, p_gdt, Nat.not_lt_zero, Nat.reduceEqDiff, Nat.reduceLT, Nat.reduceLeDiff, true_and, and_true, true_implies, false_implies, not_true_eq_false, not_false_eq_true, implies_true, and_self, ne_eq, decide_true, decide_false, Bool.not_true, Bool.not_false, if_true, if_false, reduceIte, show 19 - 1 = 18 by omega, so1]
                    refine x_readKept7 b N hs hbo hb (by omega) l1 S1 R1 (fun h3 e q f g => ?_) (fun h3 v q f3 l3 S3 => ?_)
                    · simp (disch := first | assumption | omega) only [p_some, p_gd, p_br, p_bi, p_nm, p_mp, p_Sl, p_Sr, p_bis, p_gdt, Nat.not_lt_zero, Nat.reduceEqDiff, Nat.reduceLT, Nat.reduceLeDiff, true_and, and_true, true_implies, false_implies, not_true_eq_false, not_false_eq_true, implies_true, and_self, ne_eq, decide_true, decide_false, Bool.not_true, Bool.not_false, if_true, if_false, reduceIte, s_yb0]
                      exact k0' h3 e q (F1.tr f) g
                    · simp (disch := first | assumption | omega) only [p_some, p_gd, p_br, p_bi, p_nm, p_mp, p_Sl, p_Sr, p_bis, p_gdt, Nat.not_lt_zero, Nat.reduceEqDiff, Nat.reduceLT, Nat.reduceLeDiff, true_and, and_true, true_implies, false_implies, not_true_eq_false, not_false_eq_true, implies_true, and_self, ne_eq, decide_true, decide_false, Bool.not_true, Bool.not_false, if_true, if_false, reduceIte, s_yb1]
                      exact k1' h3 v q (F1.tr f3) l3 S3
                  · simp (disch := first | assumption | omega) only [p_some, p_gd, p_br, p_bi, p_nm, p_mp, p_Sl, p_Sr, p_bis, p_gdt, Nat.not_lt_zero, Nat.reduceEqDiff, Nat.reduceLT, Nat.reduceLeDiff, true_and, and_true, true_implies, false_implies, not_true_eq_false, not_false_eq_true, implies_true, and_self, ne_eq, decide_true, decide_false, Bool.not_true, Bool.not_false, if_true, if_false, reduceIte, show ¬ K - 1 = 18 by omega, so1]
                    have eK : K - 1 + 1 = K := by omega
                    refine x_readOrder (e3 := K - 1) b hs hbo hb (by omega) (by omega) l1 S1 R1 (fun h3 e q f g => ?_) (fun h3 v q f3 l3 S3 => ?_)
                    · rw [eK] at q
                      simp (disch := first | assumption | omega) only [p_some, p_gd, p_br, p_bi, p_nm, p_mp, p_Sl, p_Sr, p_bis, p_gdt, Nat.not_lt_zero, Nat.reduceEqDiff, Nat.reduceLT, Nat.reduceLeDiff, true_and, and_true, true_implies, false_implies, not_true_eq_false, not_false_eq_true, implies_true, and_self, ne_eq, decide_true, decide_false, Bool.not_true, Bool.not_false, if_true, if_false, reduceIte, s_yb0]
                      exact k0' h3 e q (F1.tr f) g
                    · rw [eK] at q
                      simp (disch := first | assumption | omega) only [p_some, p_gd, p_br, p_bi, p_nm, p_mp, p_Sl, p_Sr, p_bis, p_gdt, Nat.not_lt_zero, Nat.reduceEqDiff, Nat.reduceLT, Nat.reduceLeDiff, true_and, and_true, true_implies, false_implies, not_true_eq_false, not_false_eq_true, implies_true, and_self, ne_eq, decide_true, decide_false, Bool.not_true, Bool.not_false, if_true, if_false, reduceIte, s_yb1]
                      exact k1' h3 v q (F1.tr f3) l3 S3
    unfold fX7_readOne_s
    simp (disch := first | assumption | omega) only [p_some, p_gd, p_br, p_bi, p_nm, p_mp, p_Sl, p_Sr, p_bis, p_gdt, Nat.not_lt_zero, Nat.reduceEqDiff, Nat.reduceLT, Nat.reduceLeDiff, true_and, and_true, true_implies, false_implies, not_true_eq_false, not_false_eq_true, implies_true, and_self, ne_eq, decide_true, decide_false, Bool.not_true, Bool.not_false, if_true, if_false, reduceIte, xk13 s, t4, tr, r_lit, nI_eq]
    refine ⟨fun c40 => ?_, fun c40 => ?_⟩
    · unfold fX7_readOne_b20
      simp (disch := first | assumption | omega) only [p_some, p_gd, p_br, p_bi, p_nm, p_mp, p_Sl, p_Sr, p_bis, p_gdt, Nat.not_lt_zero, Nat.reduceEqDiff, Nat.reduceLT, Nat.reduceLeDiff, true_and, and_true, true_implies, false_implies, not_true_eq_false, not_false_eq_true, implies_true, and_self, ne_eq, decide_true, decide_false, Bool.not_true, Bool.not_false, if_true, if_false, reduceIte, r_lit, s_10]
      exact main 1 (Or.inl ⟨c40, rfl⟩)
    · unfold fX7_readOne_b20
      simp (disch := first | assumption | omega) only [p_some, p_gd, p_br, p_bi, p_nm, p_mp, p_Sl, p_Sr, p_bis, p_gdt, Nat.not_lt_zero, Nat.reduceEqDiff, Nat.reduceLT, Nat.reduceLeDiff, true_and, and_true, true_implies, false_implies, not_true_eq_false, not_false_eq_true, implies_true, and_self, ne_eq, decide_true, decide_false, Bool.not_true, Bool.not_false, if_true, if_false, reduceIte, r_lit, bg, bI_0]
      refine ⟨fun q => ?_, fun q => ?_⟩
      · refine ⟨xk13 s, ?_⟩
        refine x_fail l (fun h1 f1 g1 => ?_)
        simp (disch := first | assumption | omega) only [p_some, p_gd, p_br, p_bi, p_nm, p_mp, p_Sl, p_Sr, p_bis, p_gdt, Nat.not_lt_zero, Nat.reduceEqDiff, Nat.reduceLT, Nat.reduceLeDiff, true_and, and_true, true_implies, false_implies, not_true_eq_false, not_false_eq_true, implies_true, and_self, ne_eq, decide_true, decide_false, Bool.not_true, Bool.not_false, if_true, if_false, reduceIte, s_yb0]
        exact k0 h1 _ (a_one_no (by omega)) (xSf.gf f1) g1
      · have q' := Classical.not_not.mp q
        exact main 0 (Or.inr ⟨c40, by omega, rfl⟩)
end XONE
