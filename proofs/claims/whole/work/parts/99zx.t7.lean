/-! the class reads a tree -/
section ATR
variable {ne : Nat × Nat × Nat × Nat → Nat × Nat × Nat × Nat} {f : Nat → Nat} {n0 d p way cnt : Nat} {nd : Nat → Nat} {t : Nat × Nat × Nat × Nat}
theorem a_tr_13 (c : a_kk t = 13) : a_tr ne f n0 d p way nd cnt t = .inr (a_ud nd p 1, cnt, ne t) := by cases d <;> rw [a_tr, if_pos c]
theorem a_tr_14 (c : a_kk t = 14) : a_tr ne f n0 d p way nd cnt t = .inr (a_ud nd p 2, cnt, ne t) := by cases d <;> rw [a_tr, if_neg (by omega), if_pos c]
theorem a_tr_no (c1 : ¬ a_kk t = 13) (c2 : ¬ a_kk t = 14) (c3 : ¬ a_kk t = 1) : a_tr ne f n0 d p way nd cnt t = .inl (1, t.2.2.1) := by cases d <;> rw [a_tr, if_neg c1, if_neg c2, if_neg c3]
theorem a_tr_bad (c : a_kk t = 1) (c2 : ¬ (a_fx f n0 t.2.1 < n0 ∧ way.testBit (a_fx f n0 t.2.1) = false)) : a_tr ne f n0 d p way nd cnt t = .inl (3, t.2.2.1) := by cases d <;> rw [a_tr, if_neg (by omega), if_neg (by omega), if_pos c, if_neg c2]
theorem a_tr_0 (c : a_kk t = 1) (c2 : a_fx f n0 t.2.1 < n0 ∧ way.testBit (a_fx f n0 t.2.1) = false) : a_tr ne f n0 0 p way nd cnt t = .inl (4, t.2.2.1) := by rw [a_tr, if_neg (by omega), if_neg (by omega), if_pos c, if_pos c2]
theorem a_tr_s (c : a_kk t = 1) (c2 : a_fx f n0 t.2.1 < n0 ∧ way.testBit (a_fx f n0 t.2.1) = false) : a_tr ne f n0 (d + 1) p way nd cnt t = (a_bd (a_sgn 40 (ne t)) fun _ =>
      a_bd (a_tr ne f n0 d (2 * p) (way ||| 2 ^ a_fx f n0 t.2.1) (a_ud nd p (3 + a_fx f n0 t.2.1)) (cnt + 1) (ne (ne t))) fun w =>
      a_bd (a_sgn 59 w.2.2) fun _ =>
      a_bd (a_tr ne f n0 d (2 * p + 1) (way ||| 2 ^ a_fx f n0 t.2.1) w.1 w.2.1 (ne w.2.2)) fun v =>
      a_bd (a_sgn 41 v.2.2) fun _ => .inr (v.1, v.2.1, ne v.2.2)) := by rw [a_tr, if_neg (by omega), if_neg (by omega), if_pos c, if_pos c2]
end ATR
def xBN (h : z_T) (bo : Nat) (bk nm : Nat → Nat) : Prop := xBk h bo bk ∧ xNm h bo bk nm
theorem xBN.fr {C : Nat → Nat → Prop} {h h' : z_T} {bo : Nat} {bk nm : Nat → Nat} (R : xBN h bo bk nm) (hb : bo = 1 ∨ 83 ≤ bo) (f : x_fr C h h') (hc : ∀ j k, j < 8 → C (bo + j) k) : xBN h' bo bk nm :=
  ⟨R.1.fr f hb hc, ⟨fun t ht => (f.L (bo + 2) t (z_ok_lt (xb_4 R.1.1)) (hc 2 t (by omega))).trans (R.2.1 t ht), fun t ht => (f.L (bo + 5) t (z_ok_lt (xb_13 R.1.1)) (hc 5 t (by omega))).trans (R.2.2 t ht)⟩⟩
theorem a_fi_k {f : Nat → Nat} {n V k : Nat} (hn : n < 2 ^ 20) (hk : k < n) (e : a_fi f n V = nI k) : a_fx f n V = k := by
  rw [a_fi_fx] at e
  by_cases c : a_fx f n V < n
  · rw [if_pos c, nI_eq (by omega) (by omega)] at e
    exact e
  · rw [if_neg c] at e
    exact absurd e.symm (r_neg1 (by omega))
theorem x_readNode {by8 : Nat → Nat} {L lim to bo : Nat} {bk nm : Nat → Nat} (b : BOK bk) (N : NMO bk nm) (ht : 83 ≤ to) (hbo : bo + 8 ≤ to) (hb : bo = 1 ∨ 83 ≤ bo) : ∀ D d, d < D → d ≤ 4 → ∀ p way (nd : Nat → Nat) cnt (h : z_T) (t : Nat × Nat × Nat × Nat) (Q : Int32 × z_T → Prop), 1 ≤ p → p < 2 ^ (5 - d) → way < 2 ^ bk 0 → xL by8 L lim h t → xTn h to nd cnt → xBN h bo bk nm →
    (∀ h' e, a_tr (a_ne by8 L lim) nm (bk 0) d p way nd cnt t = .inl e → x_fr (xTf to) h h' → xF h' e → Q (nI 0, h')) →
    (∀ h' w, a_tr (a_ne by8 L lim) nm (bk 0) d p way nd cnt t = .inr w → x_fr (xTf to) h h' → xL by8 L lim h' w.2.2 → xTn h' to w.1 w.2.1 → Q (nI 1, h')) →
    p_W (fX9_readNode D to 13 bo (nI p) (nI way) (nI (4 - d)) h) Q := by
  intro D
  have h8 := b.1
  induction D with
  | zero => exact fun d hd => absurd hd (Nat.not_lt_zero _)
  | succ D ih =>
    intro d hd hd4 p way nd cnt h t Q hp1 hp hw l T R k0 k1
    have s := l.1
    have p32 : p < 32 := Nat.lt_of_lt_of_le hp (Nat.le_trans (Nat.pow_le_pow_right (by decide) (show 5 - d ≤ 5 by omega)) (by decide))
    have w256 : way < 256 := Nat.lt_of_lt_of_le hw (Nat.le_trans (Nat.pow_le_pow_right (by decide) h8) (by decide))
    have i12 := x_isAt l (i := 12) (by decide)
    have i13 := x_isAt l (i := 13) (by decide)
    have T' := T
    obtain ⟨t1, t2, t3, t4, t5, t6⟩ := T
    have RB := R.1.1
    have cB : ∀ C : Nat → Nat → Prop, (∀ o k, o + 1 ≤ to → o ≠ 13 → C o k) → ∀ j k, j < 8 → C (bo + j) k := fun C hC j k hj => hC _ _ (by omega) (by omega)
    show p_W (fX9_readNode_s (fX9_readNode D) to 13 bo (nI p) (nI way) (nI (4 - d)) h) Q
    unfold fX9_readNode_s fX9_readNode_b39
    by_cases c13 : a_kk t = 13
    · rw [bI_t (show a_kk t = 12 + 1 by omega)] at i12
      rw [a_tr_13 c13] at k1
      simp (disch := first | assumption | omega) only [p_some, p_gd, p_br, p_bi, p_nm, p_mp, p_Sl, p_Sr, p_bis, p_gdt, Nat.not_lt_zero, Nat.reduceEqDiff, Nat.reduceLT, Nat.reduceLeDiff, true_and, and_true, true_implies, false_implies, not_true_eq_false, not_false_eq_true, implies_true, and_self, ne_eq, decide_true, decide_false, Bool.not_true, Bool.not_false, if_true, if_false, reduceIte, r_lit, nI_ltI, Nat.not_lt_zero, t1, t2, t3, t4, p32, xk13 s, i12, s_10]
      exact x_leaf l T' ht p32 (v := -nI 1) (c := 1) rfl (by have := a_kk1 (t := t) (by omega); omega) (fun h1 f1 l1 T1 => k1 h1 _ rfl f1 l1 T1)
    · rw [bI_f (show ¬ a_kk t = 12 + 1 by omega)] at i12
      by_cases c14 : a_kk t = 14
      · rw [bI_t (show a_kk t = 13 + 1 by omega)] at i13
        rw [a_tr_14 c14] at k1
        simp (disch := first | assumption | omega) only [p_some, p_gd, p_br, p_bi, p_nm, p_mp, p_Sl, p_Sr, p_bis, p_gdt, Nat.not_lt_zero, Nat.reduceEqDiff, Nat.reduceLT, Nat.reduceLeDiff, true_and, and_true, true_implies, false_implies, not_true_eq_false, not_false_eq_true, implies_true, and_self, ne_eq, decide_true, decide_false, Bool.not_true, Bool.not_false, if_true, if_false, reduceIte, r_lit, nI_ltI, Nat.not_lt_zero, t1, t2, t3, t4, p32, xk13 s, i12, i13, s_10]
        exact x_leaf l T' ht p32 (v := -nI 2) (c := 2) rfl (by have := a_kk1 (t := t) (by omega); omega) (fun h1 f1 l1 T1 => k1 h1 _ rfl f1 l1 T1)
      · rw [bI_f (show ¬ a_kk t = 13 + 1 by omega)] at i13
        simp (disch := first | assumption | omega) only [p_some, p_gd, p_br, p_bi, p_nm, p_mp, p_Sl, p_Sr, p_bis, p_gdt, Nat.not_lt_zero, Nat.reduceEqDiff, Nat.reduceLT, Nat.reduceLeDiff, true_and, and_true, true_implies, false_implies, not_true_eq_false, not_false_eq_true, implies_true, and_self, ne_eq, decide_true, decide_false, Bool.not_true, Bool.not_false, if_true, if_false, reduceIte, r_lit, nI_ltI, Nat.not_lt_zero, t1, t2, t3, t4, p32, xk13 s, i12, i13]
        refine x_testHere l RB R.1.2.1 h8 (fun k hk => ⟨R.2.1 k hk, (N.1 k hk).2⟩) (fun h1 F c f g => ?_) (fun k ck hk e => ?_)
        · simp (disch := first | assumption | omega) only [p_some, p_gd, p_br, p_bi, p_nm, p_mp, p_Sl, p_Sr, p_bis, p_gdt, Nat.not_lt_zero, Nat.reduceEqDiff, Nat.reduceLT, Nat.reduceLeDiff, true_and, and_true, true_implies, false_implies, not_true_eq_false, not_false_eq_true, implies_true, and_self, ne_eq, decide_true, decide_false, Bool.not_true, Bool.not_false, if_true, if_false, reduceIte, r_m1]
          rcases c with ⟨c, rfl⟩ | ⟨c, c3, rfl⟩
          · exact k0 h1 _ (a_tr_no c13 c14 c) (xTf.gf f) g
          · exact k0 h1 _ (a_tr_bad c (fun q => (a_fi_m (by omega)).mp c3 q.1)) (xTf.gf f) g
        · have ek := a_fi_k (by omega) hk e
          simp (disch := first | assumption | omega) only [p_some, p_gd, p_br, p_bi, p_nm, p_mp, p_Sl, p_Sr, p_bis, p_gdt, Nat.not_lt_zero, Nat.reduceEqDiff, Nat.reduceLT, Nat.reduceLeDiff, true_and, and_true, true_implies, false_implies, not_true_eq_false, not_false_eq_true, implies_true, and_self, ne_eq, decide_true, decide_false, Bool.not_true, Bool.not_false, if_true, if_false, reduceIte, r_m1, r_m1n, r_shl, fa_or, s_tb]
          refine ⟨fun cb => ?_, fun cb => ?_⟩
          rotate_left
          · refine ⟨xk13 s, ?_⟩
            refine x_fail l (fun h1 f1 g1 => ?_)
            simp (disch := first | assumption | omega) only [p_some, p_gd, p_br, p_bi, p_nm, p_mp, p_Sl, p_Sr, p_bis, p_gdt, Nat.not_lt_zero, Nat.reduceEqDiff, Nat.reduceLT, Nat.reduceLeDiff, true_and, and_true, true_implies, false_implies, not_true_eq_false, not_false_eq_true, implies_true, and_self, ne_eq, decide_true, decide_false, Bool.not_true, Bool.not_false, if_true, if_false, reduceIte, s_yb0]
            exact k0 h1 _ (a_tr_bad ck (fun q => cb (by rw [← ek]; exact q.2))) (xTf.gf f1) g1
          · have c2 : a_fx nm (bk 0) t.2.1 < bk 0 ∧ way.testBit (a_fx nm (bk 0) t.2.1) = false := by rw [ek]; exact ⟨hk, cb⟩
            cases d with
            | zero =>
              refine ⟨fun q => absurd q (by omega), fun _ => ?_⟩
              refine ⟨xk13 s, ?_⟩
              refine x_fail l (fun h1 f1 g1 => ?_)
              simp (disch := first | assumption | omega) only [p_some, p_gd, p_br, p_bi, p_nm, p_mp, p_Sl, p_Sr, p_bis, p_gdt, Nat.not_lt_zero, Nat.reduceEqDiff, Nat.reduceLT, Nat.reduceLeDiff, true_and, and_true, true_implies, false_implies, not_true_eq_false, not_false_eq_true, implies_true, and_self, ne_eq, decide_true, decide_false, Bool.not_true, Bool.not_false, if_true, if_false, reduceIte, s_yb0]
              exact k0 h1 _ (a_tr_0 ck c2) (xTf.gf f1) g1
            | succ d =>
              refine ⟨fun _ => ?_, fun q => absurd (show 4 - (d + 1) < 4 by omega) q⟩
              have k0' := fun h' e q => k0 h' e ((a_tr_s ck c2).trans q)
              have k1' := fun h' w q => k1 h' w ((a_tr_s ck c2).trans q)
              rw [ek] at k0' k1'
              clear k0 k1
              have slt := a_set_lt hw hk
              have f0 : x_fr (xTf to) h (z_sI (z_sI h (to + 1) p (nI k)) to 1 (nI (cnt + 1))) := (x_fr.rf.sI (fun _ => by unfold xTf; omega)).sI (fun _ => by unfold xTf; omega)
              have l0 : xL by8 L lim (z_sI (z_sI h (to + 1) p (nI k)) to 1 (nI (cnt + 1))) t := l.fr (C := fun o k => o < 83) ((x_fr.rf.sI (fun _ => by omega)).sI (fun _ => by omega)) (fun o k c => by unfold xKt at c; omega)
              have T0 : xTn (z_sI (z_sI h (to + 1) p (nI k)) to 1 (nI (cnt + 1))) to (a_ud nd p (3 + k)) (cnt + 1) := by
                refine ⟨t1, t2, t3, t4, fun q hq => ?_, q_Ie rfl rfl⟩
                rw [q_In (by omega)]
                unfold a_ud a_nv
                by_cases e : q = p
                · rw [if_pos e, q_Ie rfl e, if_neg (by omega), if_neg (by omega), if_neg (by omega), Nat.add_sub_cancel_left]
                · rw [if_neg e, q_In (by omega)]
                  exact t5 q hq
              have ep : 2 ^ (5 - d) = 2 * 2 ^ (5 - (d + 1)) := by
                rw [show 5 - d = (5 - (d + 1)) + 1 by omega, Nat.pow_succ]
                omega
              have e4 : 4 - (d + 1) + 1 = 4 - d := by omega
              have R0 : xBN (z_sI (z_sI h (to + 1) p (nI k)) to 1 (nI (cnt + 1))) bo bk nm := R.fr hb f0 (fun j k hj => by unfold xTf xGF; omega)
              simp (disch := first | assumption | omega) only [p_some, p_gd, p_br, p_bi, p_nm, p_mp, p_Sl, p_Sr, p_bis, p_gdt, q_IL, q_IR, q_LI, q_LR, q_RI, q_RL, q_KI, q_KL, q_KR, q_NI, q_NL, q_NR, q_nI, q_nL, q_nR, q_okI, q_okL, q_okR, q_Ie, q_In, q_Le, q_Ln, SM_I, SM_L, s_c0, s_cg0, s_cl0, s_cge, s_cle, r_le, r_lt, r_eq, r_md, r_2, r_3, r_lit, r_litL, r_m1, nI_add, nI_1, nI_clamp, nI_leI, nI_ltI, nI_eq, pk_sub, q_ix, nI_l, lN_add, lN_mul, r_m1n, r_m1n', r_m1lt, r_m1nlt, r_m1le, r_m1nle, Nat.not_lt_zero, Nat.reduceEqDiff, Nat.reduceLT, Nat.reduceLeDiff, true_and, and_true, true_implies, false_implies, not_true_eq_false, not_false_eq_true, implies_true, and_self, ne_eq, decide_true, decide_false, Bool.not_true, Bool.not_false, if_true, if_false, reduceIte, xb_0, xb_1, xb_2, xb_3, xb_4, xb_5, xb_6, xb_7, xb_8, xb_9, xb_10, xb_11, xb_12, xb_13, xb_14, xb_15, xb_16, xb_17, xb_18, xb_19, xb_20, xb_21, xo_0, xo_1, xo_2, xo_3, xo_4, xo_5, xo_6, xo_7, xo_8, xo_9, t1, t2, t3, t4, t6, p32]
              generalize z_sI (z_sI h (to + 1) p (nI k)) to 1 (nI (cnt + 1)) = h0 at *
              have s0 := l0.1
              refine ⟨xk13 s, ?_⟩
              refine x_advL l0 (by have := a_kk1 (t := t) (by omega); omega) (fun h1 f1 l1 => ?_)
              have s1 := l1.1
              have g1 := xGF.go f1
              have T1 := T0.fr ht g1 (fun k => by unfold xGF; omega) (by unfold xGF; omega)
              have R1 := R0.fr hb g1 (fun j k hj => by unfold xGF; omega)
              have F1 := f0.tr (xTf.gf (to := to) g1)
              simp (disch := first | assumption | omega) only [p_some, p_gd, p_br, p_bi, p_nm, p_mp, p_Sl, p_Sr, p_bis, p_gdt, Nat.not_lt_zero, Nat.reduceEqDiff, Nat.reduceLT, Nat.reduceLeDiff, true_and, and_true, true_implies, false_implies, not_true_eq_false, not_false_eq_true, implies_true, and_self, ne_eq, decide_true, decide_false, Bool.not_true, Bool.not_false, if_true, if_false, reduceIte, xk13 s1]
              refine x_takeS (c := 40) l1 (by decide) (fun h2 e q f g => ?_) (fun h2 q f2 l2 => ?_)
              · unfold fX9_readNode_b210
                simp (disch := first | assumption | omega) only [p_some, p_gd, p_br, p_bi, p_nm, p_mp, p_Sl, p_Sr, p_bis, p_gdt, Nat.not_lt_zero, Nat.reduceEqDiff, Nat.reduceLT, Nat.reduceLeDiff, true_and, and_true, true_implies, false_implies, not_true_eq_false, not_false_eq_true, implies_true, and_self, ne_eq, decide_true, decide_false, Bool.not_true, Bool.not_false, if_true, if_false, reduceIte]
                exact k0' h2 e (by rw [q, a_bdl]) (F1.tr (xTf.gf f)) g
              · have s2 := l2.1
                have T2 := T1.fr ht f2 (fun k => by unfold xGF; omega) (by unfold xGF; omega)
                have R2 := R1.fr hb f2 (fun j k hj => by unfold xGF; omega)
                have F2 := F1.tr (xTf.gf (to := to) f2)
                rw [q, a_bdr] at k0' k1'
                simp (disch := first | assumption | omega) only [p_some, p_gd, p_br, p_bi, p_nm, p_mp, p_Sl, p_Sr, p_bis, p_gdt, Nat.not_lt_zero, Nat.reduceEqDiff, Nat.reduceLT, Nat.reduceLeDiff, true_and, and_true, true_implies, false_implies, not_true_eq_false, not_false_eq_true, implies_true, and_self, ne_eq, decide_true, decide_false, Bool.not_true, Bool.not_false, if_true, if_false, reduceIte, s_10, T2.1, pk_mul]
                rw [e4]
                refine ih d (by omega) (by omega) (2 * p) (way ||| 2 ^ k) _ _ h2 _ _ (by omega) (by omega) slt l2 T2 R2 (fun h3 e q f g => ?_) (fun h3 w q f3 l3 T3 => ?_)
                · unfold fX9_readNode_b210
                  simp (disch := first | assumption | omega) only [p_some, p_gd, p_br, p_bi, p_nm, p_mp, p_Sl, p_Sr, p_bis, p_gdt, Nat.not_lt_zero, Nat.reduceEqDiff, Nat.reduceLT, Nat.reduceLeDiff, true_and, and_true, true_implies, false_implies, not_true_eq_false, not_false_eq_true, implies_true, and_self, ne_eq, decide_true, decide_false, Bool.not_true, Bool.not_false, if_true, if_false, reduceIte]
                  exact k0' h3 e (by rw [q, a_bdl]) (F2.tr f) g
                · have s3 := l3.1
                  have R3 := R2.fr hb f3 (fun j k hj => by unfold xTf xGF; omega)
                  have F3 := F2.tr f3
                  rw [q, a_bdr] at k0' k1'
                  simp (disch := first | assumption | omega) only [p_some, p_gd, p_br, p_bi, p_nm, p_mp, p_Sl, p_Sr, p_bis, p_gdt, Nat.not_lt_zero, Nat.reduceEqDiff, Nat.reduceLT, Nat.reduceLeDiff, true_and, and_true, true_implies, false_implies, not_true_eq_false, not_false_eq_true, implies_true, and_self, ne_eq, decide_true, decide_false, Bool.not_true, Bool.not_false, if_true, if_false, reduceIte, s_10, xk13 s3]
                  refine x_takeS (c := 59) l3 (by decide) (fun h4 e q f g => ?_) (fun h4 q f4 l4 => ?_)
                  · unfold fX9_readNode_b210
                    simp (disch := first | assumption | omega) only [p_some, p_gd, p_br, p_bi, p_nm, p_mp, p_Sl, p_Sr, p_bis, p_gdt, Nat.not_lt_zero, Nat.reduceEqDiff, Nat.reduceLT, Nat.reduceLeDiff, true_and, and_true, true_implies, false_implies, not_true_eq_false, not_false_eq_true, implies_true, and_self, ne_eq, decide_true, decide_false, Bool.not_true, Bool.not_false, if_true, if_false, reduceIte]
                    exact k0' h4 e (by rw [q, a_bdl]) (F3.tr (xTf.gf f)) g
                  · have s4 := l4.1
                    have T4 := T3.fr ht f4 (fun k => by unfold xGF; omega) (by unfold xGF; omega)
                    have R4 := R3.fr hb f4 (fun j k hj => by unfold xGF; omega)
                    have F4 := F3.tr (xTf.gf (to := to) f4)
                    rw [q, a_bdr] at k0' k1'
                    simp (disch := first | assumption | omega) only [p_some, p_gd, p_br, p_bi, p_nm, p_mp, p_Sl, p_Sr, p_bis, p_gdt, Nat.not_lt_zero, Nat.reduceEqDiff, Nat.reduceLT, Nat.reduceLeDiff, true_and, and_true, true_implies, false_implies, not_true_eq_false, not_false_eq_true, implies_true, and_self, ne_eq, decide_true, decide_false, Bool.not_true, Bool.not_false, if_true, if_false, reduceIte, s_10, T4.1, pk_mul, nI_add]
                    refine ih d (by omega) (by omega) (2 * p + 1) (way ||| 2 ^ k) _ _ h4 _ _ (by omega) (by omega) slt l4 T4 R4 (fun h5 e q f g => ?_) (fun h5 v q f5 l5 T5 => ?_)
                    · unfold fX9_readNode_b210
                      simp (disch := first | assumption | omega) only [p_some, p_gd, p_br, p_bi, p_nm, p_mp, p_Sl, p_Sr, p_bis, p_gdt, Nat.not_lt_zero, Nat.reduceEqDiff, Nat.reduceLT, Nat.reduceLeDiff, true_and, and_true, true_implies, false_implies, not_true_eq_false, not_false_eq_true, implies_true, and_self, ne_eq, decide_true, decide_false, Bool.not_true, Bool.not_false, if_true, if_false, reduceIte]
                      exact k0' h5 e (by rw [q, a_bdl]) (F4.tr f) g
                    · have s5 := l5.1
                      have F5 := F4.tr f5
                      rw [q, a_bdr] at k0' k1'
                      simp (disch := first | assumption | omega) only [p_some, p_gd, p_br, p_bi, p_nm, p_mp, p_Sl, p_Sr, p_bis, p_gdt, Nat.not_lt_zero, Nat.reduceEqDiff, Nat.reduceLT, Nat.reduceLeDiff, true_and, and_true, true_implies, false_implies, not_true_eq_false, not_false_eq_true, implies_true, and_self, ne_eq, decide_true, decide_false, Bool.not_true, Bool.not_false, if_true, if_false, reduceIte, s_10, xk13 s5]
                      refine x_takeS (c := 41) l5 (by decide) (fun h6 e q f g => ?_) (fun h6 q f6 l6 => ?_)
                      · unfold fX9_readNode_b210
                        simp (disch := first | assumption | omega) only [p_some, p_gd, p_br, p_bi, p_nm, p_mp, p_Sl, p_Sr, p_bis, p_gdt, Nat.not_lt_zero, Nat.reduceEqDiff, Nat.reduceLT, Nat.reduceLeDiff, true_and, and_true, true_implies, false_implies, not_true_eq_false, not_false_eq_true, implies_true, and_self, ne_eq, decide_true, decide_false, Bool.not_true, Bool.not_false, if_true, if_false, reduceIte]
                        exact k0' h6 e (by rw [q, a_bdl]) (F5.tr (xTf.gf f)) g
                      · rw [q, a_bdr] at k1'
                        simp (disch := first | assumption | omega) only [p_some, p_gd, p_br, p_bi, p_nm, p_mp, p_Sl, p_Sr, p_bis, p_gdt, Nat.not_lt_zero, Nat.reduceEqDiff, Nat.reduceLT, Nat.reduceLeDiff, true_and, and_true, true_implies, false_implies, not_true_eq_false, not_false_eq_true, implies_true, and_self, ne_eq, decide_true, decide_false, Bool.not_true, Bool.not_false, if_true, if_false, reduceIte, s_10]
                        exact k1' h6 _ rfl (F5.tr (xTf.gf f6)) l6 (T5.fr ht f6 (fun k => by unfold xGF; omega) (by unfold xGF; omega))
