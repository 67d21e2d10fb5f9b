/-! the class writes the steps of a sentence: a step, and for a leaf its set -/
def a_cst (w : Nat) : Nat := if w = 1 then 1 else if w = 20 then 2 else if w = 21 then 3 else if w = 22 then 4 else 0
def a_cvl (bk : Nat → Nat) (w t : Nat) : Nat := if w = 3 then bk (8 + t) else if w = 4 then bk (16 + t) else t
def a_cmp (s v n : Nat) : Bool := decide (if s = 60 then v < n else if s = 61 then v = n else n < v)
def a_cse (bk : Nat → Nat) (w s n : Nat) : Nat := if w = 0 then a_goods bk else if w = 2 then bk (30 + n) else if 3 ≤ w ∧ w ≤ 5 then a_bs (fun t => a_cmp s (a_cvl bk w t) n) (bk 0) else 0
def xSs (h : z_T) (so : Nat) : Prop := z_ok h so 7 = true ∧ z_R h so 0 = some (so + 1) ∧ z_R h so 1 = some (so + 2) ∧ z_R h so 2 = some (so + 3) ∧ z_ok h (so + 1) 13 = true ∧ z_N h (so + 1) = 40 ∧ z_ok h (so + 2) 13 = true ∧ z_N h (so + 2) = 40 ∧ z_ok h (so + 3) 13 = true ∧ z_N h (so + 3) = 40
def xSv (h : z_T) (so : Nat) (bk cf : Nat → Nat) (c o : Nat) : Prop := z_I h so 3 = nI c ∧ z_I h so 4 = nI o ∧ ∀ i, i < c → z_I h (so + 1) i = nI (a_cst (cf (3 * i))) ∧ z_I h (so + 2) i = nI (a_cse bk (cf (3 * i)) (cf (3 * i + 1)) (cf (3 * i + 2)))
def xSn (h : z_T) (so : Nat) (bk cf : Nat → Nat) (c o : Nat) : Prop := xSs h so ∧ xSv h so bk cf c o
def xSf (so o k : Nat) : Prop := xGF o k ∧ (o ≠ so ∨ (k ≠ 3 ∧ k ≠ 4)) ∧ o ≠ so + 1 ∧ o ≠ so + 2
theorem xSf.gf {so : Nat} {h h' : z_T} (f : x_fr xGF h h') : x_fr (xSf so) h h' := f.w (fun o k _ c => c.1)
theorem xSs.fr {C : Nat → Nat → Prop} {h h' : z_T} {so : Nat} (S : xSs h so) (hs : 83 ≤ so) (f : x_fr C h h') : xSs h' so := by
  obtain ⟨t1, t2, t3, t4, t5, t6, t7, t8, t9, t10⟩ := S
  have l1 := z_ok_lt t1
  have l5 := z_ok_lt t5
  have l7 := z_ok_lt t7
  have l9 := z_ok_lt t9
  have R : ∀ k, z_R h' so k = z_R h so k := fun k => ((f.2 so l1).2 k).2 (by unfold xM; omega)
  exact ⟨x_ok f t1, (R 0).trans t2, (R 1).trans t3, (R 2).trans t4, x_ok f t5, ((f.2 _ l5).1.2).trans t6, x_ok f t7, ((f.2 _ l7).1.2).trans t8, x_ok f t9, ((f.2 _ l9).1.2).trans t10⟩
theorem xSn.fr {C : Nat → Nat → Prop} {h h' : z_T} {so c o : Nat} {bk cf : Nat → Nat} (S : xSn h so bk cf c o) (hs : 83 ≤ so) (f : x_fr C h h') (c1 : ∀ k, C (so + 1) k) (c2 : ∀ k, C (so + 2) k) (c3 : C so 3) (c4 : C so 4) : xSn h' so bk cf c o := by
  obtain ⟨SS, v1, v2, v3⟩ := S
  have l1 := z_ok_lt SS.1
  have l5 := z_ok_lt SS.2.2.2.2.1
  have l7 := z_ok_lt SS.2.2.2.2.2.2.1
  exact ⟨SS.fr hs f, (f.I so 3 l1 c3).trans v1, (f.I so 4 l1 c4).trans v2, fun i hi => ⟨(f.I _ i l5 (c1 i)).trans (v3 i hi).1, (f.I _ i l7 (c2 i)).trans (v3 i hi).2⟩⟩
theorem x_put7 {h : z_T} {so c o w s n : Nat} {bk cf : Nat → Nat} {x y : Int32} {Q : Int32 × z_T → Prop} (hs : 83 ≤ so) (S : xSn h so bk cf c o) (hc : c < 40) (hx : x = nI (a_cst w)) (hy : y = nI (a_cse bk w s n))
    (k : ∀ h', x_fr (fun o k => (o ≠ so ∨ k ≠ 3) ∧ o ≠ so + 1 ∧ o ≠ so + 2) h h' → xSn h' so bk (a_cpu cf c w s n) (c + 1) o → Q (nI 1, h')) : p_W (fX7_put so x y h) Q := by
  obtain ⟨SS, v1, v2, v3⟩ := S
  have S0 := SS
  obtain ⟨t1, t2, t3, t4, t5, t6, t7, t8, t9, t10⟩ := SS
  unfold fX7_put
  simp (disch := first | assumption | omega) only [p_some, p_gd, p_br, p_bi, p_nm, p_mp, p_Sl, p_Sr, p_bis, p_gdt, q_IL, q_IR, q_LI, q_LR, q_RI, q_RL, q_KI, q_KL, q_KR, q_NI, q_NL, q_NR, q_nI, q_nL, q_nR, q_okI, q_okL, q_okR, q_Ie, q_In, q_Le, q_Ln, SM_I, SM_L, s_c0, s_cg0, s_cl0, s_cge, s_cle, r_le, r_lt, r_eq, r_md, r_2, r_3, r_lit, r_litL, r_m1, nI_add, nI_1, nI_clamp, nI_leI, nI_ltI, nI_eq, pk_sub, q_ix, nI_l, lN_add, lN_mul, r_m1n, r_m1n', r_m1lt, r_m1nlt, r_m1le, r_m1nle, Nat.not_lt_zero, Nat.reduceEqDiff, Nat.reduceLT, Nat.reduceLeDiff, true_and, and_true, true_implies, false_implies, not_true_eq_false, not_false_eq_true, implies_true, and_self, ne_eq, decide_true, decide_false, Bool.not_true, Bool.not_false, if_true, if_false, reduceIte, xb_0, xb_1, xb_2, xb_3, xb_4, xb_5, xb_6, xb_7, xb_8, xb_9, xb_10, xb_11, xb_12, xb_13, xb_14, xb_15, xb_16, xb_17, xb_18, xb_19, xb_20, xb_21, xo_0, xo_1, xo_2, xo_3, xo_4, xo_5, xo_6, xo_7, xo_8, xo_9, t1, v1, t2, t3, t5, t6, t7, t8, show ¬ 40 ≤ c by omega]
  have f0 : x_fr (fun o k => (o ≠ so ∨ k ≠ 3) ∧ o ≠ so + 1 ∧ o ≠ so + 2) h (z_sI (z_sI (z_sI h (so + 1) c x) (so + 2) c y) so 3 (nI (c + 1))) := ((x_fr.rf.sI (fun _ => by omega)).sI (fun _ => by omega)).sI (fun _ => by omega)
  refine k _ f0 ⟨S0.fr hs f0, q_Ie rfl rfl, ?_, fun i hi => ?_⟩
  · rw [q_In (by omega), q_In (by omega), q_In (by omega)]
    exact v2
  · by_cases e : i = c
    · subst e
      rw [a_cpu_0, a_cpu_1, a_cpu_2]
      refine ⟨?_, ?_⟩
      · rw [q_In (by omega), q_In (by omega), q_Ie rfl rfl]
        exact hx
      · rw [q_In (by omega), q_Ie rfl rfl]
        exact hy
    · rw [a_cpu_lo (by omega), a_cpu_lo (by omega), a_cpu_lo (by omega)]
      refine ⟨?_, ?_⟩
      · rw [q_In (by omega), q_In (by omega), q_In (by omega)]
        exact (v3 i (by omega)).1
      · rw [q_In (by omega), q_In (by omega), q_In (by omega)]
        exact (v3 i (by omega)).2
/-- a step is put down while a text is read -/
theorem x_putL {by8 : Nat → Nat} {L lim : Nat} {h : z_T} {t : a_tk} {so c o w s n : Nat} {bk cf : Nat → Nat} {x y : Int32} {Q : Int32 × z_T → Prop} (hs : 83 ≤ so) (l : xL by8 L lim h t) (S : xSn h so bk cf c o) (hc : c < 40) (hx : x = nI (a_cst w)) (hy : y = nI (a_cse bk w s n))
    (k : ∀ h', x_fr (xSf so) h h' → xL by8 L lim h' t → xSn h' so bk (a_cpu cf c w s n) (c + 1) o → Q (nI 1, h')) : p_W (fX7_put so x y h) Q :=
  x_put7 hs S hc hx hy (fun h' f S' => k h' (f.w (fun o k _ c => by unfold xSf at c; omega)) (l.fr f (fun o k c => by unfold xKt at c; omega)) S')
theorem x_isOrder : ∀ c, c < 100 → fX6_isOrder (nI c) = some (bI (60 ≤ c ∧ c ≤ 62)) := by decide +kernel
theorem x_orderB {so bo e3 s n v S j : Nat} {h : z_T} {Q : (Int32 × Int32) ⊕ (Int32 × z_T) → Prop} (hs : 60 ≤ s ∧ s ≤ 62) (hn : n ≤ 99) (hv : v ≤ 99) (hj : j < 31)
    (k : Q (.inl (nI (S ||| (if a_cmp s v n = true then 2 ^ j else 0)), nI (j + 1)))) : p_W (fX7_readOrder_b90 so bo e3 (nI s) (nI n) (nI S) (nI j) (nI v) h) Q := by
  have yes : a_cmp s v n = true → p_W (fX7_readOrder_b148 so bo e3 (nI s) (nI n) (nI S) (nI j) (nI 1) h) Q := fun c => by
    rw [if_pos c] at k
    unfold fX7_readOrder_b148 fX7_readOrder_b164
    simp (disch := first | assumption | omega) only [p_some, p_gd, p_br, p_bi, p_nm, p_mp, p_Sl, p_Sr, p_bis, p_gdt, Nat.not_lt_zero, Nat.reduceEqDiff, Nat.reduceLT, Nat.reduceLeDiff, true_and, and_true, true_implies, false_implies, not_true_eq_false, not_false_eq_true, implies_true, and_self, ne_eq, decide_true, decide_false, Bool.not_true, Bool.not_false, if_true, if_false, reduceIte, r_lit, s_10, r_shl, fa_or, nI_add]
    exact k
  have no : ¬ a_cmp s v n = true → p_W (fX7_readOrder_b148 so bo e3 (nI s) (nI n) (nI S) (nI j) (nI 0) h) Q := fun c => by
    rw [if_neg c, Nat.or_zero] at k
    unfold fX7_readOrder_b148 fX7_readOrder_b164
    simp (disch := first | assumption | omega) only [p_some, p_gd, p_br, p_bi, p_nm, p_mp, p_Sl, p_Sr, p_bis, p_gdt, Nat.not_lt_zero, Nat.reduceEqDiff, Nat.reduceLT, Nat.reduceLeDiff, true_and, and_true, true_implies, false_implies, not_true_eq_false, not_false_eq_true, implies_true, and_self, ne_eq, decide_true, decide_false, Bool.not_true, Bool.not_false, if_true, if_false, reduceIte, r_lit, nI_add]
    exact k
  have d : a_cmp s v n = true ↔ (if s = 60 then v < n else if s = 61 then v = n else n < v) := by unfold a_cmp; exact decide_eq_true_iff
  unfold fX7_readOrder_b90
  have e3' : s = 60 ∨ s = 61 ∨ s = 62 := by omega
  rcases e3' with rfl | rfl | rfl
  · rw [if_pos rfl] at d
    rw [d] at yes no
    simp (disch := first | assumption | omega) only [p_some, p_gd, p_br, p_bi, p_nm, p_mp, p_Sl, p_Sr, p_bis, p_gdt, Nat.not_lt_zero, Nat.reduceEqDiff, Nat.reduceLT, Nat.reduceLeDiff, true_and, and_true, true_implies, false_implies, not_true_eq_false, not_false_eq_true, implies_true, and_self, ne_eq, decide_true, decide_false, Bool.not_true, Bool.not_false, if_true, if_false, reduceIte, r_lit, nI_leI]
    exact ⟨fun c => no (by omega), fun c => yes (by omega)⟩
  · rw [if_neg (by omega), if_pos rfl] at d
    rw [d] at yes no
    simp (disch := first | assumption | omega) only [p_some, p_gd, p_br, p_bi, p_nm, p_mp, p_Sl, p_Sr, p_bis, p_gdt, Nat.not_lt_zero, Nat.reduceEqDiff, Nat.reduceLT, Nat.reduceLeDiff, true_and, and_true, true_implies, false_implies, not_true_eq_false, not_false_eq_true, implies_true, and_self, ne_eq, decide_true, decide_false, Bool.not_true, Bool.not_false, if_true, if_false, reduceIte, r_lit, nI_eq]
    exact ⟨fun c => yes c, fun c => no c⟩
  · rw [if_neg (by omega), if_neg (by omega)] at d
    rw [d] at yes no
    simp (disch := first | assumption | omega) only [p_some, p_gd, p_br, p_bi, p_nm, p_mp, p_Sl, p_Sr, p_bis, p_gdt, Nat.not_lt_zero, Nat.reduceEqDiff, Nat.reduceLT, Nat.reduceLeDiff, true_and, and_true, true_implies, false_implies, not_true_eq_false, not_false_eq_true, implies_true, and_self, ne_eq, decide_true, decide_false, Bool.not_true, Bool.not_false, if_true, if_false, reduceIte, r_lit, nI_leI, nI_eq]
    exact ⟨fun c => no (by omega), fun c => yes (by omega)⟩
section XLEAF
variable {by8 : Nat → Nat} {L lim so bo c o : Nat} {h : z_T} {t : a_tk} {bk nm cf : Nat → Nat} {Q : Int32 × z_T → Prop}
theorem x_readOrder {e3 : Nat} (b : BOK bk) (hs : 83 ≤ so) (hbo : bo + 8 ≤ so) (hb : bo = 1 ∨ 83 ≤ bo) (he : 20 ≤ e3 ∧ e3 ≤ 22) (hc : c < 40) (l : xL by8 L lim h t) (S : xSn h so bk cf c o) (R : xBN h bo bk nm)
    (k0 : ∀ h' e, a_lfo (a_ne by8 L lim) (fun d => nm (8 + d)) (bk 1) (e3 + 1) cf c o t = .inl e → x_fr (xSf so) h h' → xF h' e → Q (nI 0, h'))
    (k1 : ∀ h' v, a_lfo (a_ne by8 L lim) (fun d => nm (8 + d)) (bk 1) (e3 + 1) cf c o t = .inr v → x_fr (xSf so) h h' → xL by8 L lim h' v.2.2.2 → xSn h' so bk v.1 v.2.1 v.2.2.1 → Q (nI 1, h')) : p_W (fX7_readOrder so 13 bo e3 h) Q := by
  have s := l.1
  have h8 := b.1
  obtain ⟨-, t4, -, -, -, t9, -⟩ := l.2.2.1.k
  have io := x_isOrder t.1 t9
  unfold a_lfo at k0 k1
  rw [if_neg (by omega), if_neg (by omega), if_neg (by omega)] at k0 k1
  unfold fX7_readOrder
  simp (disch := first | assumption | omega) only [p_some, p_gd, p_br, p_bi, p_nm, p_mp, p_Sl, p_Sr, p_bis, p_gdt, Nat.not_lt_zero, Nat.reduceEqDiff, Nat.reduceLT, Nat.reduceLeDiff, true_and, and_true, true_implies, false_implies, not_true_eq_false, not_false_eq_true, implies_true, and_self, ne_eq, decide_true, decide_false, Bool.not_true, Bool.not_false, if_true, if_false, reduceIte, xk13 s, t4, io, bI_0, r_lit]
  refine ⟨fun q => ?_, fun q => ?_⟩
  · rw [if_neg q] at k0
    refine x_fail l (fun h1 f1 g1 => ?_)
    simp (disch := first | assumption | omega) only [p_some, p_gd, p_br, p_bi, p_nm, p_mp, p_Sl, p_Sr, p_bis, p_gdt, Nat.not_lt_zero, Nat.reduceEqDiff, Nat.reduceLT, Nat.reduceLeDiff, true_and, and_true, true_implies, false_implies, not_true_eq_false, not_false_eq_true, implies_true, and_self, ne_eq, decide_true, decide_false, Bool.not_true, Bool.not_false, if_true, if_false, reduceIte, s_yb0]
    exact k0 h1 _ rfl (xSf.gf f1) g1
  · have q' := Classical.not_not.mp q
    rw [if_pos q'] at k0 k1
    refine x_advL l (by omega) (fun h1 f1 l1 => ?_)
    have s1 := l1.1
    have G1 := xGF.go f1
    simp (disch := first | assumption | omega) only [p_some, p_gd, p_br, p_bi, p_nm, p_mp, p_Sl, p_Sr, p_bis, p_gdt, Nat.not_lt_zero, Nat.reduceEqDiff, Nat.reduceLT, Nat.reduceLeDiff, true_and, and_true, true_implies, false_implies, not_true_eq_false, not_false_eq_true, implies_true, and_self, ne_eq, decide_true, decide_false, Bool.not_true, Bool.not_false, if_true, if_false, reduceIte, xk13 s1]
    refine x_takeNumber (lo := 0) (hi := 99) l1 (by omega) (by omega) (fun h2 F c2 f2 g2 => ?_) (fun h2 c3 n0 n9 f2 l2 => ?_)
    · simp (disch := first | assumption | omega) only [p_some, p_gd, p_br, p_bi, p_nm, p_mp, p_Sl, p_Sr, p_bis, p_gdt, Nat.not_lt_zero, Nat.reduceEqDiff, Nat.reduceLT, Nat.reduceLeDiff, true_and, and_true, true_implies, false_implies, not_true_eq_false, not_false_eq_true, implies_true, and_self, ne_eq, decide_true, decide_false, Bool.not_true, Bool.not_false, if_true, if_false, reduceIte, r_m1]
      refine k0 h2 (F, (a_ne by8 L lim t).2.2.1) ?_ (xSf.gf (G1.tr f2)) g2
      unfold a_nb
      rcases c2 with ⟨c2, rfl⟩ | ⟨c2, c3, rfl⟩
      · rw [if_neg c2, a_bdl]
      · rw [if_pos c2, if_neg c3, a_bdl]
    · unfold a_nb at k1
      rw [if_pos c3, if_pos ⟨n0, n9⟩, a_bdr] at k1
      have G2 := G1.tr f2
      have S2 := S.fr hs G2 (fun k => by unfold xGF; omega) (fun k => by unfold xGF; omega) (by unfold xGF; omega) (by unfold xGF; omega)
      have R2 := R.fr hb G2 (fun j k hj => by unfold xGF; omega)
      obtain ⟨n, hn⟩ : ∃ n, (a_ne by8 L lim t).2.1 = n := ⟨_, rfl⟩
      rw [hn] at n9 k1 ⊢
      obtain ⟨sg, hsg⟩ : ∃ sg, t.1 = sg := ⟨_, rfl⟩
      rw [hsg] at q' k1 ⊢
      simp (disch := first | assumption | omega) only [p_some, p_gd, p_br, p_bi, p_nm, p_mp, p_Sl, p_Sr, p_bis, p_gdt, Nat.not_lt_zero, Nat.reduceEqDiff, Nat.reduceLT, Nat.reduceLeDiff, true_and, and_true, true_implies, false_implies, not_true_eq_false, not_false_eq_true, implies_true, and_self, ne_eq, decide_true, decide_false, Bool.not_true, Bool.not_false, if_true, if_false, reduceIte, r_m1, r_m1n]
      unfold fX7_readOrder_b47
      refine p_for (bk 0) (fun j w => w = (nI (a_bs (fun t => a_cmp sg (a_cvl bk (e3 + 1 - 18) t) n) j), nI j)) ?_ ?_ 0 (by omega) rfl
      · rintro j w hj rfl
        have hr := b.2.2.2.2.2.2.2.2.1 j (by omega)
        have fin : ∀ v, v = a_cvl bk (e3 + 1 - 18) j → v ≤ 99 → p_W (fX7_readOrder_b90 so bo e3 (nI sg) (nI n) (nI (a_bs (fun t => a_cmp sg (a_cvl bk (e3 + 1 - 18) t) n) j)) (nI j) (nI v) h2) (p_S (fun w => w = (nI (a_bs (fun t => a_cmp sg (a_cvl bk (e3 + 1 - 18) t) n) (j + 1)), nI (j + 1))) Q) := fun v e h9 => by
          refine x_orderB q' n9 h9 (by omega) ?_
          rw [a_bs, e]
          rfl
        unfold fX7_readOrder_b47_i
        simp (disch := first | assumption | omega) only [p_some, p_gd, p_br, p_bi, p_nm, p_mp, p_Sl, p_Sr, p_bis, p_gdt, q_IL, q_IR, q_LI, q_LR, q_RI, q_RL, q_KI, q_KL, q_KR, q_NI, q_NL, q_NR, q_nI, q_nL, q_nR, q_okI, q_okL, q_okR, q_Ie, q_In, q_Le, q_Ln, SM_I, SM_L, s_c0, s_cg0, s_cl0, s_cge, s_cle, r_le, r_lt, r_eq, r_md, r_2, r_3, r_lit, r_litL, r_m1, nI_add, nI_1, nI_clamp, nI_leI, nI_ltI, nI_eq, pk_sub, q_ix, nI_l, lN_add, lN_mul, r_m1n, r_m1n', r_m1lt, r_m1nlt, r_m1le, r_m1nle, Nat.not_lt_zero, Nat.reduceEqDiff, Nat.reduceLT, Nat.reduceLeDiff, true_and, and_true, true_implies, false_implies, not_true_eq_false, not_false_eq_true, implies_true, and_self, ne_eq, decide_true, decide_false, Bool.not_true, Bool.not_false, if_true, if_false, reduceIte, xb_0, xb_1, xb_2, xb_3, xb_4, xb_5, xb_6, xb_7, xb_8, xb_9, xb_10, xb_11, xb_12, xb_13, xb_14, xb_15, xb_16, xb_17, xb_18, xb_19, xb_20, xb_21, xo_0, xo_1, xo_2, xo_3, xo_4, xo_5, xo_6, xo_7, xo_8, xo_9, xb_0 R2.1.1, R2.1.2.1, show ¬ bk 0 ≤ j by omega, show e3 < 23 by omega]
        by_cases e20 : e3 = 20
        · subst e20
          simp (disch := first | assumption | omega) only [p_some, p_gd, p_br, p_bi, p_nm, p_mp, p_Sl, p_Sr, p_bis, p_gdt, q_IL, q_IR, q_LI, q_LR, q_RI, q_RL, q_KI, q_KL, q_KR, q_NI, q_NL, q_NR, q_nI, q_nL, q_nR, q_okI, q_okL, q_okR, q_Ie, q_In, q_Le, q_Ln, SM_I, SM_L, s_c0, s_cg0, s_cl0, s_cge, s_cle, r_le, r_lt, r_eq, r_md, r_2, r_3, r_lit, r_litL, r_m1, nI_add, nI_1, nI_clamp, nI_leI, nI_ltI, nI_eq, pk_sub, q_ix, nI_l, lN_add, lN_mul, r_m1n, r_m1n', r_m1lt, r_m1nlt, r_m1le, r_m1nle, Nat.not_lt_zero, Nat.reduceEqDiff, Nat.reduceLT, Nat.reduceLeDiff, true_and, and_true, true_implies, false_implies, not_true_eq_false, not_false_eq_true, implies_true, and_self, ne_eq, decide_true, decide_false, Bool.not_true, Bool.not_false, if_true, if_false, reduceIte, xb_0, xb_1, xb_2, xb_3, xb_4, xb_5, xb_6, xb_7, xb_8, xb_9, xb_10, xb_11, xb_12, xb_13, xb_14, xb_15, xb_16, xb_17, xb_18, xb_19, xb_20, xb_21, xo_0, xo_1, xo_2, xo_3, xo_4, xo_5, xo_6, xo_7, xo_8, xo_9, x_inRoom R2.1]
          exact fin _ rfl (by omega)
        · by_cases e21 : e3 = 21
          · subst e21
            simp (disch := first | assumption | omega) only [p_some, p_gd, p_br, p_bi, p_nm, p_mp, p_Sl, p_Sr, p_bis, p_gdt, q_IL, q_IR, q_LI, q_LR, q_RI, q_RL, q_KI, q_KL, q_KR, q_NI, q_NL, q_NR, q_nI, q_nL, q_nR, q_okI, q_okL, q_okR, q_Ie, q_In, q_Le, q_Ln, SM_I, SM_L, s_c0, s_cg0, s_cl0, s_cge, s_cle, r_le, r_lt, r_eq, r_md, r_2, r_3, r_lit, r_litL, r_m1, nI_add, nI_1, nI_clamp, nI_leI, nI_ltI, nI_eq, pk_sub, q_ix, nI_l, lN_add, lN_mul, r_m1n, r_m1n', r_m1lt, r_m1nlt, r_m1le, r_m1nle, Nat.not_lt_zero, Nat.reduceEqDiff, Nat.reduceLT, Nat.reduceLeDiff, true_and, and_true, true_implies, false_implies, not_true_eq_false, not_false_eq_true, implies_true, and_self, ne_eq, decide_true, decide_false, Bool.not_true, Bool.not_false, if_true, if_false, reduceIte, xb_0, xb_1, xb_2, xb_3, xb_4, xb_5, xb_6, xb_7, xb_8, xb_9, xb_10, xb_11, xb_12, xb_13, xb_14, xb_15, xb_16, xb_17, xb_18, xb_19, xb_20, xb_21, xo_0, xo_1, xo_2, xo_3, xo_4, xo_5, xo_6, xo_7, xo_8, xo_9, x_inDream R2.1]
            exact fin _ rfl (by omega)
          · simp (disch := first | assumption | omega) only [p_some, p_gd, p_br, p_bi, p_nm, p_mp, p_Sl, p_Sr, p_bis, p_gdt, q_IL, q_IR, q_LI, q_LR, q_RI, q_RL, q_KI, q_KL, q_KR, q_NI, q_NL, q_NR, q_nI, q_nL, q_nR, q_okI, q_okL, q_okR, q_Ie, q_In, q_Le, q_Ln, SM_I, SM_L, s_c0, s_cg0, s_cl0, s_cge, s_cle, r_le, r_lt, r_eq, r_md, r_2, r_3, r_lit, r_litL, r_m1, nI_add, nI_1, nI_clamp, nI_leI, nI_ltI, nI_eq, pk_sub, q_ix, nI_l, lN_add, lN_mul, r_m1n, r_m1n', r_m1lt, r_m1nlt, r_m1le, r_m1nle, Nat.not_lt_zero, Nat.reduceEqDiff, Nat.reduceLT, Nat.reduceLeDiff, true_and, and_true, true_implies, false_implies, not_true_eq_false, not_false_eq_true, implies_true, and_self, ne_eq, decide_true, decide_false, Bool.not_true, Bool.not_false, if_true, if_false, reduceIte, xb_0, xb_1, xb_2, xb_3, xb_4, xb_5, xb_6, xb_7, xb_8, xb_9, xb_10, xb_11, xb_12, xb_13, xb_14, xb_15, xb_16, xb_17, xb_18, xb_19, xb_20, xb_21, xo_0, xo_1, xo_2, xo_3, xo_4, xo_5, xo_6, xo_7, xo_8, xo_9, e20, e21]
            refine fin _ ?_ (by omega)
            unfold a_cvl
            rw [if_neg (by omega), if_neg (by omega)]
      · rintro w rfl
        have S2s := S2.1.1
        unfold fX7_readOrder_b47_i
        simp (disch := first | assumption | omega) only [p_some, p_gd, p_br, p_bi, p_nm, p_mp, p_Sl, p_Sr, p_bis, p_gdt, q_IL, q_IR, q_LI, q_LR, q_RI, q_RL, q_KI, q_KL, q_KR, q_NI, q_NL, q_NR, q_nI, q_nL, q_nR, q_okI, q_okL, q_okR, q_Ie, q_In, q_Le, q_Ln, SM_I, SM_L, s_c0, s_cg0, s_cl0, s_cge, s_cle, r_le, r_lt, r_eq, r_md, r_2, r_3, r_lit, r_litL, r_m1, nI_add, nI_1, nI_clamp, nI_leI, nI_ltI, nI_eq, pk_sub, q_ix, nI_l, lN_add, lN_mul, r_m1n, r_m1n', r_m1lt, r_m1nlt, r_m1le, r_m1nle, Nat.not_lt_zero, Nat.reduceEqDiff, Nat.reduceLT, Nat.reduceLeDiff, true_and, and_true, true_implies, false_implies, not_true_eq_false, not_false_eq_true, implies_true, and_self, ne_eq, decide_true, decide_false, Bool.not_true, Bool.not_false, if_true, if_false, reduceIte, xb_0, xb_1, xb_2, xb_3, xb_4, xb_5, xb_6, xb_7, xb_8, xb_9, xb_10, xb_11, xb_12, xb_13, xb_14, xb_15, xb_16, xb_17, xb_18, xb_19, xb_20, xb_21, xo_0, xo_1, xo_2, xo_3, xo_4, xo_5, xo_6, xo_7, xo_8, xo_9, xb_0 R2.1.1, R2.1.2.1, Nat.le_refl, S2s]
        refine x_putL (w := e3 + 1 - 18) (s := sg) (n := n) hs l2 S2 hc ?_ ?_ (fun h3 f3 l3 S3 => ?_)
        · unfold a_cst
          rw [if_neg (by omega), if_neg (by omega), if_neg (by omega), if_neg (by omega)]
        · unfold a_cse
          rw [if_neg (by omega), if_neg (by omega), if_pos (by omega)]
        · simp (disch := first | assumption | omega) only [p_some, p_gd, p_br, p_bi, p_nm, p_mp, p_Sl, p_Sr, p_bis, p_gdt, Nat.not_lt_zero, Nat.reduceEqDiff, Nat.reduceLT, Nat.reduceLeDiff, true_and, and_true, true_implies, false_implies, not_true_eq_false, not_false_eq_true, implies_true, and_self, ne_eq, decide_true, decide_false, Bool.not_true, Bool.not_false, if_true, if_false, reduceIte, s_yb1]
          exact k1 h3 _ rfl ((xSf.gf G2).tr f3) l3 S3
theorem x_readKept7 (b : BOK bk) (N : NMO bk nm) (hs : 83 ≤ so) (hbo : bo + 8 ≤ so) (hb : bo = 1 ∨ 83 ≤ bo) (hc : c < 40) (l : xL by8 L lim h t) (S : xSn h so bk cf c o) (R : xBN h bo bk nm)
    (k0 : ∀ h' e, a_lfo (a_ne by8 L lim) (fun d => nm (8 + d)) (bk 1) 19 cf c o t = .inl e → x_fr (xSf so) h h' → xF h' e → Q (nI 0, h'))
    (k1 : ∀ h' v, a_lfo (a_ne by8 L lim) (fun d => nm (8 + d)) (bk 1) 19 cf c o t = .inr v → x_fr (xSf so) h h' → xL by8 L lim h' v.2.2.2 → xSn h' so bk v.1 v.2.1 v.2.2.1 → Q (nI 1, h')) : p_W (fX7_readKept so 13 bo h) Q := by
  have s := l.1
  have h6 := b.2.1
  unfold a_lfo at k0 k1
  rw [if_neg (by omega), if_neg (by omega), if_pos rfl] at k0 k1
  unfold fX7_readKept
  simp (disch := first | assumption | omega) only [p_some, p_gd, p_br, p_bi, p_nm, p_mp, p_Sl, p_Sr, p_bis, p_gdt, Nat.not_lt_zero, Nat.reduceEqDiff, Nat.reduceLT, Nat.reduceLeDiff, true_and, and_true, true_implies, false_implies, not_true_eq_false, not_false_eq_true, implies_true, and_self, ne_eq, decide_true, decide_false, Bool.not_true, Bool.not_false, if_true, if_false, reduceIte, xk13 s, r_lit]
  refine x_dreamHere (f := fun d => nm (8 + d)) l R.1.1 R.1.2.2.1 h6 (fun k hk => ⟨R.2.2 k hk, (N.2 k hk).2⟩) (fun h1 F c2 f g => ?_) (fun k ck hk e => ?_)
  · simp (disch := first | assumption | omega) only [p_some, p_gd, p_br, p_bi, p_nm, p_mp, p_Sl, p_Sr, p_bis, p_gdt, Nat.not_lt_zero, Nat.reduceEqDiff, Nat.reduceLT, Nat.reduceLeDiff, true_and, and_true, true_implies, false_implies, not_true_eq_false, not_false_eq_true, implies_true, and_self, ne_eq, decide_true, decide_false, Bool.not_true, Bool.not_false, if_true, if_false, reduceIte, r_m1]
    refine k0 h1 _ ?_ (xSf.gf f) g
    rcases c2 with ⟨c2, rfl⟩ | ⟨c2, c3, rfl⟩
    · rw [if_neg c2]
    · rw [if_pos c2, if_neg ((a_fi_m (by omega)).mp c3)]
  · have ek := a_fi_k (by omega) hk e
    rw [if_pos ck, if_pos (by rw [ek]; exact hk), ek] at k1
    have k2 := a_kk1 (t := t) (by omega)
    simp (disch := first | assumption | omega) only [p_some, p_gd, p_br, p_bi, p_nm, p_mp, p_Sl, p_Sr, p_bis, p_gdt, Nat.not_lt_zero, Nat.reduceEqDiff, Nat.reduceLT, Nat.reduceLeDiff, true_and, and_true, true_implies, false_implies, not_true_eq_false, not_false_eq_true, implies_true, and_self, ne_eq, decide_true, decide_false, Bool.not_true, Bool.not_false, if_true, if_false, reduceIte, r_m1, r_m1n, nI_add, xk13 s]
    refine x_advL l (by omega) (fun h1 f1 l1 => ?_)
    have G1 := xGF.go f1
    have S1 := S.fr hs G1 (fun k => by unfold xGF; omega) (fun k => by unfold xGF; omega) (by unfold xGF; omega) (by unfold xGF; omega)
    have R1 := R.fr hb G1 (fun j k hj => by unfold xGF; omega)
    simp (disch := first | assumption | omega) only [p_some, p_gd, p_br, p_bi, p_nm, p_mp, p_Sl, p_Sr, p_bis, p_gdt, Nat.not_lt_zero, Nat.reduceEqDiff, Nat.reduceLT, Nat.reduceLeDiff, true_and, and_true, true_implies, false_implies, not_true_eq_false, not_false_eq_true, implies_true, and_self, ne_eq, decide_true, decide_false, Bool.not_true, Bool.not_false, if_true, if_false, reduceIte, xb_0 R1.1.1, x_keptIn R1.1, S1.1.1]
    refine x_putL (w := 2) (s := 0) (n := k) hs l1 S1 hc rfl rfl (fun h3 f3 l3 S3 => ?_)
    simp (disch := first | assumption | omega) only [p_some, p_gd, p_br, p_bi, p_nm, p_mp, p_Sl, p_Sr, p_bis, p_gdt, Nat.not_lt_zero, Nat.reduceEqDiff, Nat.reduceLT, Nat.reduceLeDiff, true_and, and_true, true_implies, false_implies, not_true_eq_false, not_false_eq_true, implies_true, and_self, ne_eq, decide_true, decide_false, Bool.not_true, Bool.not_false, if_true, if_false, reduceIte, s_yb1]
    exact k1 h3 _ rfl ((xSf.gf G1).tr f3) l3 S3
end XLEAF
