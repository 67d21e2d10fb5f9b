/-! the class reads a line of nights -/
def xNf (n o k : Nat) : Prop := xGF o k ∧ (o ≠ 79 ∨ (k ≠ 2 ∧ k ≠ 3)) ∧ (o ≠ 80 ∨ k ≠ n) ∧ (o ≠ 81 ∨ k ≠ n)
theorem xNf.gf {n : Nat} {h h' : z_T} (f : x_fr xGF h h') : x_fr (xNf n) h h' := f.w (fun o k _ c => c.1)
def xNt (by8 : Nat → Nat) (L lim n : Nat) (h' : z_T) (w : a_NS) : Prop := xL by8 L lim h' w.2.2.2 ∧ z_I h' 79 2 = nI (n + 1) ∧ z_I h' 79 3 = nI w.2.2.1 ∧ z_I h' 80 n = nI w.1 ∧ z_I h' 81 n = nI w.2.1
theorem x_ntPut {by8 : Nat → Nat} {L lim : Nat} {h : z_T} {t : Nat × Nat × Nat × Nat} {n as c v : Nat} {Q : z_T → Prop} (l : xL by8 L lim h t) (hn : n < 40) (h2 : z_I h 79 2 = nI n) (h3 : z_I h 79 3 = nI as) (k : ∀ h', x_fr (xNf n) h h' → xNt by8 L lim n h' (c, v, as, t) → Q h') : p_W (fX3_put 79 (nI c) (nI v) h) Q := by
  have s := l.1
  have f0 : x_fr (xNf n) h (z_sI (z_sI (z_sI h 80 n (nI c)) 81 n (nI v)) 79 2 (nI (n + 1))) := ((x_fr.rf.sI (fun _ => by unfold xNf; omega)).sI (fun _ => by unfold xNf; omega)).sI (fun _ => by unfold xNf; omega)
  have l0 : xL by8 L lim (z_sI (z_sI (z_sI h 80 n (nI c)) 81 n (nI v)) 79 2 (nI (n + 1))) t := l.fr (C := fun o k => o < 79) (((x_fr.rf.sI (fun _ => by omega)).sI (fun _ => by omega)).sI (fun _ => by omega)) (fun o k c => by unfold xKt at c; omega)
  have j0 : z_I (z_sI (z_sI (z_sI h 80 n (nI c)) 81 n (nI v)) 79 2 (nI (n + 1))) 80 n = nI c := by rw [q_In (by omega), q_In (by omega), q_Ie rfl rfl]
  have j1 : z_I (z_sI (z_sI (z_sI h 80 n (nI c)) 81 n (nI v)) 79 2 (nI (n + 1))) 81 n = nI v := by rw [q_In (by omega), q_Ie rfl rfl]
  have j2 : z_I (z_sI (z_sI (z_sI h 80 n (nI c)) 81 n (nI v)) 79 2 (nI (n + 1))) 79 2 = nI (n + 1) := q_Ie rfl rfl
  have j3 : z_I (z_sI (z_sI (z_sI h 80 n (nI c)) 81 n (nI v)) 79 2 (nI (n + 1))) 79 3 = nI as := by rw [q_In (by omega), q_In (by omega), q_In (by omega)]; exact h3
  unfold fX3_put
  simp (disch := first | assumption | omega) only [p_some, p_gd, p_br, p_bi, p_nm, p_mp, p_Sl, p_Sr, p_bis, p_gdt, q_IL, q_IR, q_LI, q_LR, q_RI, q_RL, q_KI, q_KL, q_KR, q_NI, q_NL, q_NR, q_nI, q_nL, q_nR, q_okI, q_okL, q_okR, q_Ie, q_In, q_Le, q_Ln, SM_I, SM_L, s_c0, s_cg0, s_cl0, s_cge, s_cle, r_le, r_lt, r_eq, r_md, r_2, r_3, r_lit, r_litL, r_m1, nI_add, nI_1, nI_clamp, nI_leI, nI_ltI, nI_eq, pk_sub, q_ix, nI_l, lN_add, lN_mul, r_m1n, r_m1n', r_m1lt, r_m1nlt, r_m1le, r_m1nle, Nat.not_lt_zero, Nat.reduceEqDiff, Nat.reduceLT, Nat.reduceLeDiff, true_and, and_true, true_implies, false_implies, not_true_eq_false, not_false_eq_true, implies_true, and_self, ne_eq, decide_true, decide_false, Bool.not_true, Bool.not_false, if_true, if_false, reduceIte, xk79 s, h2, xr79_0 s, xk80 s, xn80 s, xr79_1 s, xk81 s, xn81 s, show ¬ 40 ≤ n by omega]
  exact k _ f0 ⟨l0, j2, j3, j0, j1⟩
theorem x_nightLine {by8 : Nat → Nat} {L lim bo : Nat} {h : z_T} {t : Nat × Nat × Nat × Nat} {bk nm : Nat → Nat} {n asked : Nat} {Q : Int32 × z_T → Prop} (l : xL by8 L lim h t) (b : BOK bk) (N : NMO bk nm) (R : xBN h bo bk nm) (hbo : bo = 1 ∨ 83 ≤ bo) (hn : n ≤ 40) (has : asked ≤ 12) (h2 : z_I h 79 2 = nI n) (h3 : ¬ n = 0 → z_I h 79 3 = nI asked)
    (k0 : ∀ h' e, a_ntL (a_ne by8 L lim) bk nm n asked t = .inl e → x_fr (xNf n) h h' → xF h' e → Q (nI 0, h')) (k1 : ∀ h' w, a_ntL (a_ne by8 L lim) bk nm n asked t = .inr w → n < 40 → x_fr (xNf n) h h' → xNt by8 L lim n h' w → Q (nI 1, h')) : p_W (fX3_readLine 79 13 bo h) Q := by
  have s := l.1
  have h8 := b.1
  have h6 := b.2.1
  have h0 := s.1
  have i9 := x_isAt l (i := 9) (by decide)
  have i12 := x_isAt l (i := 12) (by decide)
  have i13 := x_isAt l (i := 13) (by decide)
  have ek : a_ntL (a_ne by8 L lim) bk nm n asked t = if a_kk t = 10 then (if n = 40 then .inl (4, t.2.2.1) else a_ntI (a_ne by8 L lim) bk nm (a_ne by8 L lim t))
  else if n = 0 then .inl (1, t.2.2.1)
  else if a_kk t = 13 then (if n = 40 then .inl (4, t.2.2.1) else .inr (2, 0, asked, a_ne by8 L lim t))
  else if a_kk t = 14 then (if n = 40 then .inl (4, t.2.2.1) else .inr (3, 0, asked, a_ne by8 L lim t))
  else if a_kk t = 1 then (if a_fx nm (bk 0) t.2.1 < bk 0 then (if n = 40 ∨ asked = 12 then .inl (4, t.2.2.1) else a_ntA (a_ne by8 L lim) (a_fx nm (bk 0) t.2.1) asked (a_ne by8 L lim t)) else .inl (3, t.2.2.1)) else .inl (1, t.2.2.1) := rfl
  have bad : ∀ F, a_ntL (a_ne by8 L lim) bk nm n asked t = .inl (F, t.2.2.1) → p_W (fX6_fail 13 (nI F) h) (fun a => y_b a.1 = true ∧ Q (a.1, a.2)) := fun F e => x_fail l (fun h1 f1 g1 => ⟨s_yb0, k0 h1 _ e (xNf.gf f1) g1⟩)
  unfold fX3_readLine
  by_cases c10 : a_kk t = 10
  · rw [bI_t (show a_kk t = 9 + 1 by omega)] at i9
    rw [if_pos c10] at ek
    have t2 : 2 ≤ t.1 := by have := a_kk1 (t := t) (by omega); omega
    simp (disch := first | assumption | omega) only [p_some, p_gd, p_br, p_bi, p_nm, p_mp, p_Sl, p_Sr, p_bis, p_gdt, Nat.not_lt_zero, Nat.reduceEqDiff, Nat.reduceLT, Nat.reduceLeDiff, true_and, and_true, true_implies, false_implies, not_true_eq_false, not_false_eq_true, implies_true, and_self, ne_eq, decide_true, decide_false, Bool.not_true, Bool.not_false, if_true, if_false, reduceIte, xk13 s, r_lit, i9, s_10, xk79 s]
    unfold fX3_readIn
    simp (disch := first | assumption | omega) only [p_some, p_gd, p_br, p_bi, p_nm, p_mp, p_Sl, p_Sr, p_bis, p_gdt, Nat.not_lt_zero, Nat.reduceEqDiff, Nat.reduceLT, Nat.reduceLeDiff, true_and, and_true, true_implies, false_implies, not_true_eq_false, not_false_eq_true, implies_true, and_self, ne_eq, decide_true, decide_false, Bool.not_true, Bool.not_false, if_true, if_false, reduceIte, xk79 s, h2, r_lit, nI_ltI]
    refine ⟨fun c => ?_, fun c => ?_⟩
    · rw [if_neg (by omega)] at ek
      rw [ek] at k0 k1
      clear bad
      refine ⟨xk13 s, ?_⟩
      refine x_advL l t2 (fun h1 f1 l1 => ?_)
      have s1 := l1.1
      have R1 := R.fr hbo (xGF.go f1) (fun j k hj => by unfold xGF; omega)
      have j2 := (f1.I 79 2 (by omega) (by unfold xGo; omega)).trans h2
      have F1 := xNf.gf (n := n) (xGF.go f1)
      have v3 := x_isAt l1 (i := 3) (by decide)
      have b51 : ∀ D, D < 8 → 2 ≤ (a_ne by8 L lim t).1 → a_ntI (a_ne by8 L lim) bk nm (a_ne by8 L lim t) = .inr (0, D, 0, a_ne by8 L lim (a_ne by8 L lim t)) → p_W (fX3_readIn_b51 79 13 (nI D) h1) (fun a => y_b a.1 = true ∧ Q (a.1, a.2)) := fun D hD h22 e => by
        unfold fX3_readIn_b51
        simp (disch := first | assumption | omega) only [p_some, p_gd, p_br, p_bi, p_nm, p_mp, p_Sl, p_Sr, p_bis, p_gdt, Nat.not_lt_zero, Nat.reduceEqDiff, Nat.reduceLT, Nat.reduceLeDiff, true_and, and_true, true_implies, false_implies, not_true_eq_false, not_false_eq_true, implies_true, and_self, ne_eq, decide_true, decide_false, Bool.not_true, Bool.not_false, if_true, if_false, reduceIte, xk13 s1]
        refine x_advL l1 h22 (fun h4 f4 l4 => ?_)
        have s4 := l4.1
        have h01 := s1.1
        have i2 := (f4.I 79 2 (by omega) (by unfold xGo; omega)).trans j2
        have f5 : x_fr (xNf n) h4 (z_sI h4 79 3 (nI 0)) := x_fr.rf.sI (fun _ => by unfold xNf; omega)
        have l5 : xL by8 L lim (z_sI h4 79 3 (nI 0)) (a_ne by8 L lim (a_ne by8 L lim t)) := l4.fr (C := fun o k => o < 79) (x_fr.rf.sI (fun _ => by omega)) (fun o k c => by unfold xKt at c; omega)
        have i3 : z_I (z_sI h4 79 3 (nI 0)) 79 3 = nI 0 := q_Ie rfl rfl
        have i2' : z_I (z_sI h4 79 3 (nI 0)) 79 2 = nI n := (q_In (by omega)).trans i2
        simp (disch := first | assumption | omega) only [p_some, p_gd, p_br, p_bi, p_nm, p_mp, p_Sl, p_Sr, p_bis, p_gdt, Nat.not_lt_zero, Nat.reduceEqDiff, Nat.reduceLT, Nat.reduceLeDiff, true_and, and_true, true_implies, false_implies, not_true_eq_false, not_false_eq_true, implies_true, and_self, ne_eq, decide_true, decide_false, Bool.not_true, Bool.not_false, if_true, if_false, reduceIte, xk79 s4, r_lit]
        generalize z_sI h4 79 3 (nI 0) = h5 at *
        refine x_ntPut l5 c i2' i3 (fun h7 f7 g7 => ?_)
        exact ⟨s_yb1, k1 h7 _ e c (F1.tr ((xNf.gf (xGF.go f4)).tr (f5.tr f7))) g7⟩
      unfold a_ntI at k0 b51
      by_cases c4 : a_kk (a_ne by8 L lim t) = 4
      · rw [bI_t (show a_kk (a_ne by8 L lim t) = 3 + 1 by omega)] at v3
        simp (disch := first | assumption | omega) only [p_some, p_gd, p_br, p_bi, p_nm, p_mp, p_Sl, p_Sr, p_bis, p_gdt, Nat.not_lt_zero, Nat.reduceEqDiff, Nat.reduceLT, Nat.reduceLeDiff, true_and, and_true, true_implies, false_implies, not_true_eq_false, not_false_eq_true, implies_true, and_self, ne_eq, decide_true, decide_false, Bool.not_true, Bool.not_false, if_true, if_false, reduceIte, xk13 s1, v3, s_10]
        exact b51 0 (by omega) (by have := a_kk1 (t := a_ne by8 L lim t) (by omega); omega) (by rw [if_pos c4])
      · rw [bI_f (show ¬ a_kk (a_ne by8 L lim t) = 3 + 1 by omega)] at v3
        rw [if_neg c4] at k0
        simp (disch := first | assumption | omega) only [p_some, p_gd, p_br, p_bi, p_nm, p_mp, p_Sl, p_Sr, p_bis, p_gdt, Nat.not_lt_zero, Nat.reduceEqDiff, Nat.reduceLT, Nat.reduceLeDiff, true_and, and_true, true_implies, false_implies, not_true_eq_false, not_false_eq_true, implies_true, and_self, ne_eq, decide_true, decide_false, Bool.not_true, Bool.not_false, if_true, if_false, reduceIte, xk13 s1, v3]
        refine x_dreamHere l1 R1.1.1 R1.1.2.2.1 h6 (f := fun d => nm (8 + d)) (fun k hk => ⟨R1.2.2 k hk, (N.2 k hk).2⟩) (fun h4 F cc f4 g4 => ?_) (fun k ck hk e => ?_)
        · simp (disch := first | assumption | omega) only [p_some, p_gd, p_br, p_bi, p_nm, p_mp, p_Sl, p_Sr, p_bis, p_gdt, Nat.not_lt_zero, Nat.reduceEqDiff, Nat.reduceLT, Nat.reduceLeDiff, true_and, and_true, true_implies, false_implies, not_true_eq_false, not_false_eq_true, implies_true, and_self, ne_eq, decide_true, decide_false, Bool.not_true, Bool.not_false, if_true, if_false, reduceIte, r_m1]
          refine ⟨s_yb0, ?_⟩
          rcases cc with ⟨cc, rfl⟩ | ⟨cc, c3, rfl⟩
          · rw [if_neg cc] at k0
            exact k0 h4 _ rfl (F1.tr (xNf.gf f4)) g4
          · rw [if_pos cc, if_neg ((a_fi_m (by omega)).mp c3)] at k0
            exact k0 h4 _ rfl (F1.tr (xNf.gf f4)) g4
        · have ekk := a_fi_k (by omega) hk e
          simp (disch := first | assumption | omega) only [p_some, p_gd, p_br, p_bi, p_nm, p_mp, p_Sl, p_Sr, p_bis, p_gdt, Nat.not_lt_zero, Nat.reduceEqDiff, Nat.reduceLT, Nat.reduceLeDiff, true_and, and_true, true_implies, false_implies, not_true_eq_false, not_false_eq_true, implies_true, and_self, ne_eq, decide_true, decide_false, Bool.not_true, Bool.not_false, if_true, if_false, reduceIte, r_m1, r_m1n, nI_add]
          exact b51 (k + 1) (by omega) (by have := a_kk1 (t := a_ne by8 L lim t) (by omega); omega) (by rw [if_neg c4, if_pos ck, ekk, if_pos hk])
    · rw [if_pos (by omega)] at ek
      refine ⟨xk13 s, ?_⟩
      refine x_fail l (fun h1 f1 g1 => ?_)
      simp (disch := first | assumption | omega) only [p_some, p_gd, p_br, p_bi, p_nm, p_mp, p_Sl, p_Sr, p_bis, p_gdt, Nat.not_lt_zero, Nat.reduceEqDiff, Nat.reduceLT, Nat.reduceLeDiff, true_and, and_true, true_implies, false_implies, not_true_eq_false, not_false_eq_true, implies_true, and_self, ne_eq, decide_true, decide_false, Bool.not_true, Bool.not_false, if_true, if_false, reduceIte, s_yb0]
      exact k0 h1 _ ek (xNf.gf f1) g1
  · rw [bI_f (show ¬ a_kk t = 9 + 1 by omega)] at i9
    rw [if_neg c10] at ek
    simp (disch := first | assumption | omega) only [p_some, p_gd, p_br, p_bi, p_nm, p_mp, p_Sl, p_Sr, p_bis, p_gdt, Nat.not_lt_zero, Nat.reduceEqDiff, Nat.reduceLT, Nat.reduceLeDiff, true_and, and_true, true_implies, false_implies, not_true_eq_false, not_false_eq_true, implies_true, and_self, ne_eq, decide_true, decide_false, Bool.not_true, Bool.not_false, if_true, if_false, reduceIte, xk13 s, r_lit, i9, xk79 s, h2, nI_eq]
    refine ⟨fun c => ?_, fun c => ?_⟩
    · rw [if_pos c] at ek
      exact bad 1 ek
    · rw [if_neg c] at ek
      have h3 := h3 c
      have act : ∀ v, (v = 2 ∨ v = 3) → 2 ≤ t.1 → (n = 40 → a_ntL (a_ne by8 L lim) bk nm n asked t = .inl (4, t.2.2.1)) → (¬ n = 40 → a_ntL (a_ne by8 L lim) bk nm n asked t = .inr (v, 0, asked, a_ne by8 L lim t)) → p_W (fX3_readAct 79 13 (nI v) h) (fun a => y_b a.1 = true ∧ Q (a.1, a.2)) := fun v hv t2 e1 e2 => by
        unfold fX3_readAct
        simp (disch := first | assumption | omega) only [p_some, p_gd, p_br, p_bi, p_nm, p_mp, p_Sl, p_Sr, p_bis, p_gdt, Nat.not_lt_zero, Nat.reduceEqDiff, Nat.reduceLT, Nat.reduceLeDiff, true_and, and_true, true_implies, false_implies, not_true_eq_false, not_false_eq_true, implies_true, and_self, ne_eq, decide_true, decide_false, Bool.not_true, Bool.not_false, if_true, if_false, reduceIte, xk79 s, h2, r_lit, nI_ltI]
        refine ⟨fun c4 => ?_, fun c4 => ?_⟩
        · refine ⟨xk13 s, ?_⟩
          refine x_advL l t2 (fun h4 f4 l4 => ?_)
          have s4 := l4.1
          have i2 := (f4.I 79 2 (by omega) (by unfold xGo; omega)).trans h2
          have i3 := (f4.I 79 3 (by omega) (by unfold xGo; omega)).trans h3
          simp (disch := first | assumption | omega) only [p_some, p_gd, p_br, p_bi, p_nm, p_mp, p_Sl, p_Sr, p_bis, p_gdt, Nat.not_lt_zero, Nat.reduceEqDiff, Nat.reduceLT, Nat.reduceLeDiff, true_and, and_true, true_implies, false_implies, not_true_eq_false, not_false_eq_true, implies_true, and_self, ne_eq, decide_true, decide_false, Bool.not_true, Bool.not_false, if_true, if_false, reduceIte, xk79 s4]
          refine x_ntPut l4 c4 i2 i3 (fun h7 f7 g7 => ?_)
          exact ⟨s_yb1, k1 h7 _ (e2 (by omega)) c4 ((xNf.gf (xGF.go f4)).tr f7) g7⟩
        · refine ⟨xk13 s, ?_⟩
          refine x_fail l (fun h1 f1 g1 => ?_)
          exact ⟨s_yb0, s_yb0, k0 h1 _ (e1 (by omega)) (xNf.gf f1) g1⟩
      by_cases c13 : a_kk t = 13
      · rw [if_pos c13] at ek
        rw [bI_t (show a_kk t = 12 + 1 by omega)] at i12
        have a := act 2 (Or.inl rfl) (by have := a_kk1 (t := t) (by omega); omega) (fun q => by rw [ek, if_pos q]) (fun q => by rw [ek, if_neg q])
        unfold fX3_readLine_b50
        simp (disch := first | assumption | omega) only [p_some, p_gd, p_br, p_bi, p_nm, p_mp, p_Sl, p_Sr, p_bis, p_gdt, Nat.not_lt_zero, Nat.reduceEqDiff, Nat.reduceLT, Nat.reduceLeDiff, true_and, and_true, true_implies, false_implies, not_true_eq_false, not_false_eq_true, implies_true, and_self, ne_eq, decide_true, decide_false, Bool.not_true, Bool.not_false, if_true, if_false, reduceIte, i12, s_10, xk13 s, xk79 s, r_lit]
        exact a
      · rw [if_neg c13] at ek
        rw [bI_f (show ¬ a_kk t = 12 + 1 by omega)] at i12
        by_cases c14 : a_kk t = 14
        · rw [if_pos c14] at ek
          rw [bI_t (show a_kk t = 13 + 1 by omega)] at i13
          have a := act 3 (Or.inr rfl) (by have := a_kk1 (t := t) (by omega); omega) (fun q => by rw [ek, if_pos q]) (fun q => by rw [ek, if_neg q])
          unfold fX3_readLine_b50
          simp (disch := first | assumption | omega) only [p_some, p_gd, p_br, p_bi, p_nm, p_mp, p_Sl, p_Sr, p_bis, p_gdt, Nat.not_lt_zero, Nat.reduceEqDiff, Nat.reduceLT, Nat.reduceLeDiff, true_and, and_true, true_implies, false_implies, not_true_eq_false, not_false_eq_true, implies_true, and_self, ne_eq, decide_true, decide_false, Bool.not_true, Bool.not_false, if_true, if_false, reduceIte, i12, i13, s_10, xk13 s, xk79 s, r_lit]
          exact a
        · rw [if_neg c14] at ek
          rw [bI_f (show ¬ a_kk t = 13 + 1 by omega)] at i13
          clear act bad
          simp (disch := first | assumption | omega) only [p_some, p_gd, p_br, p_bi, p_nm, p_mp, p_Sl, p_Sr, p_bis, p_gdt, Nat.not_lt_zero, Nat.reduceEqDiff, Nat.reduceLT, Nat.reduceLeDiff, true_and, and_true, true_implies, false_implies, not_true_eq_false, not_false_eq_true, implies_true, and_self, ne_eq, decide_true, decide_false, Bool.not_true, Bool.not_false, if_true, if_false, reduceIte, i12, i13, r_lit]
          unfold fX3_readAnswer
          simp (disch := first | assumption | omega) only [p_some, p_gd, p_br, p_bi, p_nm, p_mp, p_Sl, p_Sr, p_bis, p_gdt, Nat.not_lt_zero, Nat.reduceEqDiff, Nat.reduceLT, Nat.reduceLeDiff, true_and, and_true, true_implies, false_implies, not_true_eq_false, not_false_eq_true, implies_true, and_self, ne_eq, decide_true, decide_false, Bool.not_true, Bool.not_false, if_true, if_false, reduceIte, xk13 s]
          refine x_testHere l R.1.1 R.1.2.1 h8 (f := nm) (fun k hk => ⟨R.2.1 k hk, (N.1 k hk).2⟩) (fun h4 F cc f4 g4 => ?_) (fun k ck hk e => ?_)
          · simp (disch := first | assumption | omega) only [p_some, p_gd, p_br, p_bi, p_nm, p_mp, p_Sl, p_Sr, p_bis, p_gdt, Nat.not_lt_zero, Nat.reduceEqDiff, Nat.reduceLT, Nat.reduceLeDiff, true_and, and_true, true_implies, false_implies, not_true_eq_false, not_false_eq_true, implies_true, and_self, ne_eq, decide_true, decide_false, Bool.not_true, Bool.not_false, if_true, if_false, reduceIte, r_lit, r_m1]
            refine ⟨s_yb0, ?_⟩
            rcases cc with ⟨cc, rfl⟩ | ⟨cc, c3, rfl⟩
            · rw [if_neg cc] at ek
              exact k0 h4 _ ek (xNf.gf f4) g4
            · rw [if_pos cc, if_neg ((a_fi_m (by omega)).mp c3)] at ek
              exact k0 h4 _ ek (xNf.gf f4) g4
          · have ekk := a_fi_k (by omega) hk e
            rw [if_pos ck, ekk, if_pos hk] at ek
            have b31 : (n = 40 ∨ asked = 12) → p_W (fX3_readAnswer_b31 13 h) (fun a => y_b a.1 = true ∧ Q (a.1, a.2)) := fun q => by
              rw [if_pos q] at ek
              unfold fX3_readAnswer_b31
              simp (disch := first | assumption | omega) only [p_some, p_gd, p_br, p_bi, p_nm, p_mp, p_Sl, p_Sr, p_bis, p_gdt, Nat.not_lt_zero, Nat.reduceEqDiff, Nat.reduceLT, Nat.reduceLeDiff, true_and, and_true, true_implies, false_implies, not_true_eq_false, not_false_eq_true, implies_true, and_self, ne_eq, decide_true, decide_false, Bool.not_true, Bool.not_false, if_true, if_false, reduceIte, xk13 s, r_lit]
              refine x_fail l (fun h1 f1 g1 => ?_)
              exact ⟨s_yb0, s_yb0, k0 h1 _ ek (xNf.gf f1) g1⟩
            simp (disch := first | assumption | omega) only [p_some, p_gd, p_br, p_bi, p_nm, p_mp, p_Sl, p_Sr, p_bis, p_gdt, Nat.not_lt_zero, Nat.reduceEqDiff, Nat.reduceLT, Nat.reduceLeDiff, true_and, and_true, true_implies, false_implies, not_true_eq_false, not_false_eq_true, implies_true, and_self, ne_eq, decide_true, decide_false, Bool.not_true, Bool.not_false, if_true, if_false, reduceIte, r_lit, r_m1, r_m1n, xk79 s, h2, h3, nI_leI, nI_ltI]
            refine ⟨fun q => b31 (by omega), fun q => ⟨fun q2 => ?_, fun q2 => b31 (by omega)⟩⟩
            rw [if_neg (by omega)] at ek
            rw [ek] at k0 k1
            clear b31
            refine ⟨xk13 s, ?_⟩
            refine x_advL l (by have := a_kk1 (t := t) (by omega); omega) (fun h1 f1 l1 => ?_)
            have s1 := l1.1
            have h01 := s1.1
            have F1 := xNf.gf (n := n) (xGF.go f1)
            have j2 := (f1.I 79 2 (by omega) (by unfold xGo; omega)).trans h2
            have j3 := (f1.I 79 3 (by omega) (by unfold xGo; omega)).trans h3
            have v10 := x_isAt l1 (i := 10) (by decide)
            have v11 := x_isAt l1 (i := 11) (by decide)
            have b71 : ∀ x4 w, a_ntA (a_ne by8 L lim) k asked (a_ne by8 L lim t) = .inr (1, w, asked + 1, a_ne by8 L lim (a_ne by8 L lim t)) → 2 ≤ (a_ne by8 L lim t).1 → (x4 = nI 0 → w = 2 * k) → (¬ x4 = nI 0 → w = 2 * k + 1) → p_W (fX3_readAnswer_b71 79 13 (nI k) x4 h1) (fun a => y_b a.1 = true ∧ Q (a.1, a.2)) := fun x4 w e4 h22 hx hx2 => by
              unfold fX3_readAnswer_b71 fX3_readAnswer_b100
              simp (disch := first | assumption | omega) only [p_some, p_gd, p_br, p_bi, p_nm, p_mp, p_Sl, p_Sr, p_bis, p_gdt, Nat.not_lt_zero, Nat.reduceEqDiff, Nat.reduceLT, Nat.reduceLeDiff, true_and, and_true, true_implies, false_implies, not_true_eq_false, not_false_eq_true, implies_true, and_self, ne_eq, decide_true, decide_false, Bool.not_true, Bool.not_false, if_true, if_false, reduceIte, xk13 s1, r_lit]
              refine x_advL l1 h22 (fun h4 f4 l4 => ?_)
              have s4 := l4.1
              have i2 := (f4.I 79 2 (by omega) (by unfold xGo; omega)).trans j2
              have i3 := (f4.I 79 3 (by omega) (by unfold xGo; omega)).trans j3
              have f5 : x_fr (xNf n) h4 (z_sI h4 79 3 (nI (asked + 1))) := x_fr.rf.sI (fun _ => by unfold xNf; omega)
              have l5 : xL by8 L lim (z_sI h4 79 3 (nI (asked + 1))) (a_ne by8 L lim (a_ne by8 L lim t)) := l4.fr (C := fun o k => o < 79) (x_fr.rf.sI (fun _ => by omega)) (fun o k c => by unfold xKt at c; omega)
              have i3' : z_I (z_sI h4 79 3 (nI (asked + 1))) 79 3 = nI (asked + 1) := q_Ie rfl rfl
              have i2' : z_I (z_sI h4 79 3 (nI (asked + 1))) 79 2 = nI n := (q_In (by omega)).trans i2
              simp (disch := first | assumption | omega) only [p_some, p_gd, p_br, p_bi, p_nm, p_mp, p_Sl, p_Sr, p_bis, p_gdt, Nat.not_lt_zero, Nat.reduceEqDiff, Nat.reduceLT, Nat.reduceLeDiff, true_and, and_true, true_implies, false_implies, not_true_eq_false, not_false_eq_true, implies_true, and_self, ne_eq, decide_true, decide_false, Bool.not_true, Bool.not_false, if_true, if_false, reduceIte, xk79 s4, i3, nI_add]
              generalize z_sI h4 79 3 (nI (asked + 1)) = h5 at *
              have s5 := l5.1
              refine ⟨fun z => ?_, fun z => ?_⟩
              · simp (disch := first | assumption | omega) only [p_some, p_gd, p_br, p_bi, p_nm, p_mp, p_Sl, p_Sr, p_bis, p_gdt, Nat.not_lt_zero, Nat.reduceEqDiff, Nat.reduceLT, Nat.reduceLeDiff, true_and, and_true, true_implies, false_implies, not_true_eq_false, not_false_eq_true, implies_true, and_self, ne_eq, decide_true, decide_false, Bool.not_true, Bool.not_false, if_true, if_false, reduceIte, xk79 s5, pk_mul, nI_add, Nat.add_zero]
                rw [← hx z]
                refine x_ntPut l5 (by omega) i2' i3' (fun h7 f7 g7 => ?_)
                exact ⟨s_yb1, k1 h7 _ e4 (by omega) (F1.tr ((xNf.gf (xGF.go f4)).tr (f5.tr f7))) g7⟩
              · simp (disch := first | assumption | omega) only [p_some, p_gd, p_br, p_bi, p_nm, p_mp, p_Sl, p_Sr, p_bis, p_gdt, Nat.not_lt_zero, Nat.reduceEqDiff, Nat.reduceLT, Nat.reduceLeDiff, true_and, and_true, true_implies, false_implies, not_true_eq_false, not_false_eq_true, implies_true, and_self, ne_eq, decide_true, decide_false, Bool.not_true, Bool.not_false, if_true, if_false, reduceIte, xk79 s5, pk_mul, nI_add]
                rw [← hx2 z]
                refine x_ntPut l5 (by omega) i2' i3' (fun h7 f7 g7 => ?_)
                exact ⟨s_yb1, k1 h7 _ e4 (by omega) (F1.tr ((xNf.gf (xGF.go f4)).tr (f5.tr f7))) g7⟩
            by_cases d11 : a_kk (a_ne by8 L lim t) = 11
            · rw [bI_t (show a_kk (a_ne by8 L lim t) = 10 + 1 by omega)] at v10
              simp (disch := first | assumption | omega) only [p_some, p_gd, p_br, p_bi, p_nm, p_mp, p_Sl, p_Sr, p_bis, p_gdt, Nat.not_lt_zero, Nat.reduceEqDiff, Nat.reduceLT, Nat.reduceLeDiff, true_and, and_true, true_implies, false_implies, not_true_eq_false, not_false_eq_true, implies_true, and_self, ne_eq, decide_true, decide_false, Bool.not_true, Bool.not_false, if_true, if_false, reduceIte, xk13 s1, v10, s_10]
              exact b71 (nI 1) (2 * k + 1) (by unfold a_ntA; rw [if_pos d11]) (by have := a_kk1 (t := a_ne by8 L lim t) (by omega); omega) (fun q => absurd q (by decide)) (fun _ => rfl)
            · rw [bI_f (show ¬ a_kk (a_ne by8 L lim t) = 10 + 1 by omega)] at v10
              by_cases d12 : a_kk (a_ne by8 L lim t) = 12
              · rw [bI_t (show a_kk (a_ne by8 L lim t) = 11 + 1 by omega)] at v11
                simp (disch := first | assumption | omega) only [p_some, p_gd, p_br, p_bi, p_nm, p_mp, p_Sl, p_Sr, p_bis, p_gdt, Nat.not_lt_zero, Nat.reduceEqDiff, Nat.reduceLT, Nat.reduceLeDiff, true_and, and_true, true_implies, false_implies, not_true_eq_false, not_false_eq_true, implies_true, and_self, ne_eq, decide_true, decide_false, Bool.not_true, Bool.not_false, if_true, if_false, reduceIte, xk13 s1, v10, v11, s_10]
                exact b71 (nI 0) (2 * k) (by unfold a_ntA; rw [if_neg d11, if_pos d12]) (by have := a_kk1 (t := a_ne by8 L lim t) (by omega); omega) (fun _ => rfl) (fun q => absurd rfl q)
              · rw [bI_f (show ¬ a_kk (a_ne by8 L lim t) = 11 + 1 by omega)] at v11
                simp (disch := first | assumption | omega) only [p_some, p_gd, p_br, p_bi, p_nm, p_mp, p_Sl, p_Sr, p_bis, p_gdt, Nat.not_lt_zero, Nat.reduceEqDiff, Nat.reduceLT, Nat.reduceLeDiff, true_and, and_true, true_implies, false_implies, not_true_eq_false, not_false_eq_true, implies_true, and_self, ne_eq, decide_true, decide_false, Bool.not_true, Bool.not_false, if_true, if_false, reduceIte, xk13 s1, v10, v11]
                refine x_fail l1 (fun h3 f3 g3 => ?_)
                exact ⟨s_yb0, s_yb0, k0 h3 _ (by unfold a_ntA; rw [if_neg d11, if_neg d12]) (F1.tr (xNf.gf f3)) g3⟩
