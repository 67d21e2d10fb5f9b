/-! the class reads the operands of a sentence, and what joins them -/
def xHP (by8 : Nat → Nat) (L lim so bo : Nat) (bk nm : Nat → Nat) (rc : Nat → Nat → Nat → Int32 → z_T → Option (Int32 × z_T)) (x3 : Int32) (P : a_CP) : Prop :=
  ∀ cf c o (h : z_T) (t : a_tk) (Q : Int32 × z_T → Prop), c ≤ 2 * o → o ≤ 20 → WFC (bk 1) cf c → xL by8 L lim h t → xSn h so bk cf c o → xBN h bo bk nm →
    (∀ h' e, P cf c o t = .inl e → x_fr (xSf so) h h' → xF h' e → Q (nI 0, h')) →
    (∀ h' v, P cf c o t = .inr v → x_fr (xSf so) h h' → xL by8 L lim h' v.2.2.2 → xSn h' so bk v.1 v.2.1 v.2.2.1 → Q (nI 1, h')) → p_W (rc so 13 bo x3 h) Q
theorem x_jnAll0 {rc : Nat → Nat → Nat → Int32 → z_T → Option (Int32 × z_T)} {x3 : Int32} {i so bo : Nat} {h : z_T} {Q : Int32 × z_T → Prop} (hi : i ≤ 20) (k : Q (nI 0, h)) : p_W (y_lp (fun q : Int32 × Int32 × z_T => fX7_readAll_b12_i rc so 13 bo x3 q.1 q.2.1 q.2.2) (nI 0, nI i, h)) Q := by
  refine p_unP (fun P hP => ?_)
  unfold fX7_readAll_b12_i
  simp (disch := first | assumption | omega) only [p_some, p_gd, p_br, p_bi, p_nm, p_mp, p_Sl, p_Sr, p_bis, p_gdt, Nat.not_lt_zero, Nat.reduceEqDiff, Nat.reduceLT, Nat.reduceLeDiff, true_and, and_true, true_implies, false_implies, not_true_eq_false, not_false_eq_true, implies_true, and_self, ne_eq, decide_true, decide_false, Bool.not_true, Bool.not_false, if_true, if_false, reduceIte, r_lit, nI_leI, s_yb0]
  by_cases c : 20 ≤ i
  · exact ⟨fun _ => k, fun z => absurd c z⟩
  · exact ⟨fun z => absurd z c, fun _ => k⟩
theorem x_jnCond0 {rc : Nat → Nat → Nat → Int32 → z_T → Option (Int32 × z_T)} {x3 : Int32} {i so bo : Nat} {h : z_T} {Q : Int32 × z_T → Prop} (hi : i ≤ 20) (k : Q (nI 0, h)) : p_W (y_lp (fun q : Int32 × Int32 × z_T => fX7_readCond_b12_i rc so 13 bo x3 q.1 q.2.1 q.2.2) (nI 0, nI i, h)) Q := by
  refine p_unP (fun P hP => ?_)
  unfold fX7_readCond_b12_i
  simp (disch := first | assumption | omega) only [p_some, p_gd, p_br, p_bi, p_nm, p_mp, p_Sl, p_Sr, p_bis, p_gdt, Nat.not_lt_zero, Nat.reduceEqDiff, Nat.reduceLT, Nat.reduceLeDiff, true_and, and_true, true_implies, false_implies, not_true_eq_false, not_false_eq_true, implies_true, and_self, ne_eq, decide_true, decide_false, Bool.not_true, Bool.not_false, if_true, if_false, reduceIte, r_lit, nI_leI, s_yb0]
  by_cases c : 20 ≤ i
  · exact ⟨fun _ => k, fun z => absurd c z⟩
  · exact ⟨fun z => absurd z c, fun _ => k⟩
section XJN
variable {by8 : Nat → Nat} {L lim so bo : Nat} {bk nm : Nat → Nat}
theorem x_jnAll {rc : Nat → Nat → Nat → Int32 → z_T → Option (Int32 × z_T)} {x3 : Int32} {P : a_CP} (hs : 83 ≤ so) (hbo : bo + 8 ≤ so) (hb : bo = 1 ∨ 83 ≤ bo) (hP : xHP by8 L lim so bo bk nm (rc) x3 P) (hR : ∀ cf c o t v, WFC (bk 1) cf c → P cf c o t = .inr v → a_rel (bk 1) cf c o v) : ∀ m i, m + i = 20 → ∀ cf c o (h : z_T) (t : a_tk) (Q : Int32 × z_T → Prop), WFC (bk 1) cf c → 1 ≤ a_ht cf c → c + 1 ≤ 2 * o → o ≤ 20 → xL by8 L lim h t → xSn h so bk cf c o → xBN h bo bk nm →
    (∀ h' e, a_jn (a_ne by8 L lim) P 16 21 m cf c o t = .inl e → x_fr (xSf so) h h' → xF h' e → Q (nI 0, h')) →
    (∀ h' v, a_jn (a_ne by8 L lim) P 16 21 m cf c o t = .inr v → x_fr (xSf so) h h' → xL by8 L lim h' v.2.2.2 → xSn h' so bk v.1 v.2.1 v.2.2.1 → Q (nI 1, h')) →
    p_W (y_lp (fun q : Int32 × Int32 × z_T => fX7_readAll_b12_i rc so 13 bo x3 q.1 q.2.1 q.2.2) (nI 1, nI i, h)) Q := by
  intro m
  induction m with
  | zero =>
    intro i hi cf c o h t Q W h1 hc ho l S R k0 k1
    refine p_unP (fun P' hP' => ?_)
    unfold fX7_readAll_b12_i
    simp (disch := first | assumption | omega) only [p_some, p_gd, p_br, p_bi, p_nm, p_mp, p_Sl, p_Sr, p_bis, p_gdt, Nat.not_lt_zero, Nat.reduceEqDiff, Nat.reduceLT, Nat.reduceLeDiff, true_and, and_true, true_implies, false_implies, not_true_eq_false, not_false_eq_true, implies_true, and_self, ne_eq, decide_true, decide_false, Bool.not_true, Bool.not_false, if_true, if_false, reduceIte, r_lit, nI_leI, show 20 ≤ i by omega, s_yb1]
    exact k1 h _ rfl x_fr.rf l S
  | succ m ih =>
    intro i hi cf c o h t Q W h1 hc ho l S R k0 k1
    have s := l.1
    have ia := x_isAt l (i := 15) (by decide)
    refine p_unP (fun P' hP' => ?_)
    by_cases ck : a_kk t = 16
    · rw [bI_t (show a_kk t = 15 + 1 from ck)] at ia
      rw [a_jn_s ck] at k0 k1
      unfold fX7_readAll_b12_i
      simp (disch := first | assumption | omega) only [p_some, p_gd, p_br, p_bi, p_nm, p_mp, p_Sl, p_Sr, p_bis, p_gdt, Nat.not_lt_zero, Nat.reduceEqDiff, Nat.reduceLT, Nat.reduceLeDiff, true_and, and_true, true_implies, false_implies, not_true_eq_false, not_false_eq_true, implies_true, and_self, ne_eq, decide_true, decide_false, Bool.not_true, Bool.not_false, if_true, if_false, reduceIte, r_lit, nI_leI, show ¬ 20 ≤ i by omega, s_10, xk13 s, ia]
      refine x_advL l (by have := a_kk1 (t := t) (by omega); omega) (fun h2 f2 l2 => ?_)
      have G2 := xGF.go f2
      have S2 := S.fr hs G2 (fun k => by unfold xGF; omega) (fun k => by unfold xGF; omega) (by unfold xGF; omega) (by unfold xGF; omega)
      have R2 := R.fr hb G2 (fun j k hj => by unfold xGF; omega)
      simp (disch := first | assumption | omega) only [p_some, p_gd, p_br, p_bi, p_nm, p_mp, p_Sl, p_Sr, p_bis, p_gdt, Nat.not_lt_zero, Nat.reduceEqDiff, Nat.reduceLT, Nat.reduceLeDiff, true_and, and_true, true_implies, false_implies, not_true_eq_false, not_false_eq_true, implies_true, and_self, ne_eq, decide_true, decide_false, Bool.not_true, Bool.not_false, if_true, if_false, reduceIte, S2.1.1]
      refine hP cf c o h2 _ _ (by omega) ho W l2 S2 R2 (fun h3 e q f g => ?_) (fun h3 v q f3 l3 S3 => ?_)
      · unfold fX7_readAll_b61 fX7_readAll_b62
        simp (disch := first | assumption | omega) only [p_some, p_gd, p_br, p_bi, p_nm, p_mp, p_Sl, p_Sr, p_bis, p_gdt, Nat.not_lt_zero, Nat.reduceEqDiff, Nat.reduceLT, Nat.reduceLeDiff, true_and, and_true, true_implies, false_implies, not_true_eq_false, not_false_eq_true, implies_true, and_self, ne_eq, decide_true, decide_false, Bool.not_true, Bool.not_false, if_true, if_false, reduceIte, r_lit, nI_add]
        refine hP' _ (x_jnAll0 (by omega) ?_)
        exact k0 h3 e (by rw [q, a_bdl]) ((xSf.gf G2).tr f) g
      · obtain ⟨r1, r2, r3, r4, r5, r6, r7⟩ := hR _ _ _ _ _ W q
        rw [q, a_bdr] at k0 k1
        simp (disch := first | assumption | omega) only [p_some, p_gd, p_br, p_bi, p_nm, p_mp, p_Sl, p_Sr, p_bis, p_gdt, Nat.not_lt_zero, Nat.reduceEqDiff, Nat.reduceLT, Nat.reduceLeDiff, true_and, and_true, true_implies, false_implies, not_true_eq_false, not_false_eq_true, implies_true, and_self, ne_eq, decide_true, decide_false, Bool.not_true, Bool.not_false, if_true, if_false, reduceIte, s_10, S3.1.1, r_lit]
        refine x_putL (w := 21) (s := 0) (n := 0) hs l3 S3 (by omega) rfl rfl (fun h4 f4 l4 S4 => ?_)
        have R4 := (R2.fr hb f3 (fun j k hj => by unfold xSf xGF; omega)).fr hb f4 (fun j k hj => by unfold xSf xGF; omega)
        have F4 := ((xSf.gf G2).tr f3).tr f4
        unfold fX7_readAll_b62
        simp (disch := first | assumption | omega) only [p_some, p_gd, p_br, p_bi, p_nm, p_mp, p_Sl, p_Sr, p_bis, p_gdt, Nat.not_lt_zero, Nat.reduceEqDiff, Nat.reduceLT, Nat.reduceLeDiff, true_and, and_true, true_implies, false_implies, not_true_eq_false, not_false_eq_true, implies_true, and_self, ne_eq, decide_true, decide_false, Bool.not_true, Bool.not_false, if_true, if_false, reduceIte, s_10, r_lit, nI_add]
        refine hP' _ (ih (i + 1) (by omega) _ _ _ h4 _ Q (r2.pu (by omega) (by omega) (by omega)) ?_ (by omega) r6 l4 S4 R4 (fun h5 e q f g => k0 h5 e q (F4.tr f) g) (fun h5 u q f5 l5 S5 => k1 h5 u q (F4.tr f5) l5 S5))
        rw [a_ht_pu, if_neg (by omega), if_neg (by omega)]
        omega
    · rw [bI_f (show ¬ a_kk t = 15 + 1 from ck)] at ia
      rw [a_jn_e ck] at k1
      unfold fX7_readAll_b12_i
      simp (disch := first | assumption | omega) only [p_some, p_gd, p_br, p_bi, p_nm, p_mp, p_Sl, p_Sr, p_bis, p_gdt, Nat.not_lt_zero, Nat.reduceEqDiff, Nat.reduceLT, Nat.reduceLeDiff, true_and, and_true, true_implies, false_implies, not_true_eq_false, not_false_eq_true, implies_true, and_self, ne_eq, decide_true, decide_false, Bool.not_true, Bool.not_false, if_true, if_false, reduceIte, r_lit, nI_leI, show ¬ 20 ≤ i by omega, s_10, xk13 s, ia, s_yb1]
      exact k1 h _ rfl x_fr.rf l S
theorem x_readAll {rc : Nat → Nat → Nat → Int32 → z_T → Option (Int32 × z_T)} {x3 : Int32} {P : a_CP} (hs : 83 ≤ so) (hbo : bo + 8 ≤ so) (hb : bo = 1 ∨ 83 ≤ bo) (hP : xHP by8 L lim so bo bk nm (rc) x3 P) (hR : ∀ cf c o t v, WFC (bk 1) cf c → P cf c o t = .inr v → a_rel (bk 1) cf c o v) : xHP by8 L lim so bo bk nm (fX7_readAll rc) x3 (a_al1 (a_ne by8 L lim) P) := by
  intro cf c o h t Q hc ho W l S R k0 k1
  unfold fX7_readAll fX7_readAll_b12
  have k0' := fun h' e q => k0 h' e (show a_bd (P cf c o t) _ = .inl e from q)
  have k1' := fun h' v q => k1 h' v (show a_bd (P cf c o t) _ = .inr v from q)
  clear k0 k1
  simp (disch := first | assumption | omega) only [p_some, p_gd, p_br, p_bi, p_nm, p_mp, p_Sl, p_Sr, p_bis, p_gdt, Nat.not_lt_zero, Nat.reduceEqDiff, Nat.reduceLT, Nat.reduceLeDiff, true_and, and_true, true_implies, false_implies, not_true_eq_false, not_false_eq_true, implies_true, and_self, ne_eq, decide_true, decide_false, Bool.not_true, Bool.not_false, if_true, if_false, reduceIte, S.1.1, r_lit]
  refine hP cf c o h t _ hc ho W l S R (fun h3 e q f g => ?_) (fun h3 v q f3 l3 S3 => ?_)
  · refine x_jnAll0 (by omega) ?_
    exact k0' h3 e (by rw [q, a_bdl]) f g
  · obtain ⟨r1, r2, r3, r4, r5, r6, r7⟩ := hR _ _ _ _ _ W q
    rw [q, a_bdr] at k0' k1'
    have R3 := R.fr hb f3 (fun j k hj => by unfold xSf xGF; omega)
    refine x_jnAll hs hbo hb hP (fun cf c o t v W q => hR cf c o t v W q) 20 0 rfl _ _ _ h3 _ Q r2 (by omega) (by omega) r6 l3 S3 R3 (fun h5 e q f g => k0' h5 e q (f3.tr f) g) (fun h5 u q f5 l5 S5 => k1' h5 u q (f3.tr f5) l5 S5)
theorem x_jnCond {rc : Nat → Nat → Nat → Int32 → z_T → Option (Int32 × z_T)} {x3 : Int32} {P : a_CP} (hs : 83 ≤ so) (hbo : bo + 8 ≤ so) (hb : bo = 1 ∨ 83 ≤ bo) (hP : xHP by8 L lim so bo bk nm (fX7_readAll rc) x3 P) (hR : ∀ cf c o t v, WFC (bk 1) cf c → P cf c o t = .inr v → a_rel (bk 1) cf c o v) : ∀ m i, m + i = 20 → ∀ cf c o (h : z_T) (t : a_tk) (Q : Int32 × z_T → Prop), WFC (bk 1) cf c → 1 ≤ a_ht cf c → c + 1 ≤ 2 * o → o ≤ 20 → xL by8 L lim h t → xSn h so bk cf c o → xBN h bo bk nm →
    (∀ h' e, a_jn (a_ne by8 L lim) P 15 22 m cf c o t = .inl e → x_fr (xSf so) h h' → xF h' e → Q (nI 0, h')) →
    (∀ h' v, a_jn (a_ne by8 L lim) P 15 22 m cf c o t = .inr v → x_fr (xSf so) h h' → xL by8 L lim h' v.2.2.2 → xSn h' so bk v.1 v.2.1 v.2.2.1 → Q (nI 1, h')) →
    p_W (y_lp (fun q : Int32 × Int32 × z_T => fX7_readCond_b12_i rc so 13 bo x3 q.1 q.2.1 q.2.2) (nI 1, nI i, h)) Q := by
  intro m
  induction m with
  | zero =>
    intro i hi cf c o h t Q W h1 hc ho l S R k0 k1
    refine p_unP (fun P' hP' => ?_)
    unfold fX7_readCond_b12_i
    simp (disch := first | assumption | omega) only [p_some, p_gd, p_br, p_bi, p_nm, p_mp, p_Sl, p_Sr, p_bis, p_gdt, Nat.not_lt_zero, Nat.reduceEqDiff, Nat.reduceLT, Nat.reduceLeDiff, true_and, and_true, true_implies, false_implies, not_true_eq_false, not_false_eq_true, implies_true, and_self, ne_eq, decide_true, decide_false, Bool.not_true, Bool.not_false, if_true, if_false, reduceIte, r_lit, nI_leI, show 20 ≤ i by omega, s_yb1]
    exact k1 h _ rfl x_fr.rf l S
  | succ m ih =>
    intro i hi cf c o h t Q W h1 hc ho l S R k0 k1
    have s := l.1
    have ia := x_isAt l (i := 14) (by decide)
    refine p_unP (fun P' hP' => ?_)
    by_cases ck : a_kk t = 15
    · rw [bI_t (show a_kk t = 14 + 1 from ck)] at ia
      rw [a_jn_s ck] at k0 k1
      unfold fX7_readCond_b12_i
      simp (disch := first | assumption | omega) only [p_some, p_gd, p_br, p_bi, p_nm, p_mp, p_Sl, p_Sr, p_bis, p_gdt, Nat.not_lt_zero, Nat.reduceEqDiff, Nat.reduceLT, Nat.reduceLeDiff, true_and, and_true, true_implies, false_implies, not_true_eq_false, not_false_eq_true, implies_true, and_self, ne_eq, decide_true, decide_false, Bool.not_true, Bool.not_false, if_true, if_false, reduceIte, r_lit, nI_leI, show ¬ 20 ≤ i by omega, s_10, xk13 s, ia]
      refine x_advL l (by have := a_kk1 (t := t) (by omega); omega) (fun h2 f2 l2 => ?_)
      have G2 := xGF.go f2
      have S2 := S.fr hs G2 (fun k => by unfold xGF; omega) (fun k => by unfold xGF; omega) (by unfold xGF; omega) (by unfold xGF; omega)
      have R2 := R.fr hb G2 (fun j k hj => by unfold xGF; omega)
      simp (disch := first | assumption | omega) only [p_some, p_gd, p_br, p_bi, p_nm, p_mp, p_Sl, p_Sr, p_bis, p_gdt, Nat.not_lt_zero, Nat.reduceEqDiff, Nat.reduceLT, Nat.reduceLeDiff, true_and, and_true, true_implies, false_implies, not_true_eq_false, not_false_eq_true, implies_true, and_self, ne_eq, decide_true, decide_false, Bool.not_true, Bool.not_false, if_true, if_false, reduceIte, S2.1.1]
      refine hP cf c o h2 _ _ (by omega) ho W l2 S2 R2 (fun h3 e q f g => ?_) (fun h3 v q f3 l3 S3 => ?_)
      · unfold fX7_readCond_b61 fX7_readCond_b62
        simp (disch := first | assumption | omega) only [p_some, p_gd, p_br, p_bi, p_nm, p_mp, p_Sl, p_Sr, p_bis, p_gdt, Nat.not_lt_zero, Nat.reduceEqDiff, Nat.reduceLT, Nat.reduceLeDiff, true_and, and_true, true_implies, false_implies, not_true_eq_false, not_false_eq_true, implies_true, and_self, ne_eq, decide_true, decide_false, Bool.not_true, Bool.not_false, if_true, if_false, reduceIte, r_lit, nI_add]
        refine hP' _ (x_jnCond0 (by omega) ?_)
        exact k0 h3 e (by rw [q, a_bdl]) ((xSf.gf G2).tr f) g
      · obtain ⟨r1, r2, r3, r4, r5, r6, r7⟩ := hR _ _ _ _ _ W q
        rw [q, a_bdr] at k0 k1
        simp (disch := first | assumption | omega) only [p_some, p_gd, p_br, p_bi, p_nm, p_mp, p_Sl, p_Sr, p_bis, p_gdt, Nat.not_lt_zero, Nat.reduceEqDiff, Nat.reduceLT, Nat.reduceLeDiff, true_and, and_true, true_implies, false_implies, not_true_eq_false, not_false_eq_true, implies_true, and_self, ne_eq, decide_true, decide_false, Bool.not_true, Bool.not_false, if_true, if_false, reduceIte, s_10, S3.1.1, r_lit]
        refine x_putL (w := 22) (s := 0) (n := 0) hs l3 S3 (by omega) rfl rfl (fun h4 f4 l4 S4 => ?_)
        have R4 := (R2.fr hb f3 (fun j k hj => by unfold xSf xGF; omega)).fr hb f4 (fun j k hj => by unfold xSf xGF; omega)
        have F4 := ((xSf.gf G2).tr f3).tr f4
        unfold fX7_readCond_b62
        simp (disch := first | assumption | omega) only [p_some, p_gd, p_br, p_bi, p_nm, p_mp, p_Sl, p_Sr, p_bis, p_gdt, Nat.not_lt_zero, Nat.reduceEqDiff, Nat.reduceLT, Nat.reduceLeDiff, true_and, and_true, true_implies, false_implies, not_true_eq_false, not_false_eq_true, implies_true, and_self, ne_eq, decide_true, decide_false, Bool.not_true, Bool.not_false, if_true, if_false, reduceIte, s_10, r_lit, nI_add]
        refine hP' _ (ih (i + 1) (by omega) _ _ _ h4 _ Q (r2.pu (by omega) (by omega) (by omega)) ?_ (by omega) r6 l4 S4 R4 (fun h5 e q f g => k0 h5 e q (F4.tr f) g) (fun h5 u q f5 l5 S5 => k1 h5 u q (F4.tr f5) l5 S5))
        rw [a_ht_pu, if_neg (by omega), if_neg (by omega)]
        omega
    · rw [bI_f (show ¬ a_kk t = 14 + 1 from ck)] at ia
      rw [a_jn_e ck] at k1
      unfold fX7_readCond_b12_i
      simp (disch := first | assumption | omega) only [p_some, p_gd, p_br, p_bi, p_nm, p_mp, p_Sl, p_Sr, p_bis, p_gdt, Nat.not_lt_zero, Nat.reduceEqDiff, Nat.reduceLT, Nat.reduceLeDiff, true_and, and_true, true_implies, false_implies, not_true_eq_false, not_false_eq_true, implies_true, and_self, ne_eq, decide_true, decide_false, Bool.not_true, Bool.not_false, if_true, if_false, reduceIte, r_lit, nI_leI, show ¬ 20 ≤ i by omega, s_10, xk13 s, ia, s_yb1]
      exact k1 h _ rfl x_fr.rf l S
theorem x_readCond {rc : Nat → Nat → Nat → Int32 → z_T → Option (Int32 × z_T)} {x3 : Int32} {P : a_CP} (hs : 83 ≤ so) (hbo : bo + 8 ≤ so) (hb : bo = 1 ∨ 83 ≤ bo) (hP : xHP by8 L lim so bo bk nm rc x3 P) (hR : ∀ cf c o t v, WFC (bk 1) cf c → P cf c o t = .inr v → a_rel (bk 1) cf c o v) : xHP by8 L lim so bo bk nm (fX7_readCond rc) x3 (a_co (a_ne by8 L lim) P) := by
  intro cf c o h t Q hc ho W l S R k0 k1
  have hP2 := x_readAll hs hbo hb hP hR
  have hR2 := fun cf c o t v W q => (a_al1_r (ne := a_ne by8 L lim) hR cf c o t v W q).1
  unfold fX7_readCond fX7_readCond_b12
  have k0' := fun h' e q => k0 h' e (show a_bd (a_al1 (a_ne by8 L lim) P cf c o t) _ = .inl e from q)
  have k1' := fun h' v q => k1 h' v (show a_bd (a_al1 (a_ne by8 L lim) P cf c o t) _ = .inr v from q)
  clear k0 k1
  simp (disch := first | assumption | omega) only [p_some, p_gd, p_br, p_bi, p_nm, p_mp, p_Sl, p_Sr, p_bis, p_gdt, Nat.not_lt_zero, Nat.reduceEqDiff, Nat.reduceLT, Nat.reduceLeDiff, true_and, and_true, true_implies, false_implies, not_true_eq_false, not_false_eq_true, implies_true, and_self, ne_eq, decide_true, decide_false, Bool.not_true, Bool.not_false, if_true, if_false, reduceIte, S.1.1, r_lit]
  refine hP2 cf c o h t _ hc ho W l S R (fun h3 e q f g => ?_) (fun h3 v q f3 l3 S3 => ?_)
  · refine x_jnCond0 (by omega) ?_
    exact k0' h3 e (by rw [q, a_bdl]) f g
  · obtain ⟨r1, r2, r3, r4, r5, r6, r7⟩ := hR2 _ _ _ _ _ W q
    rw [q, a_bdr] at k0' k1'
    have R3 := R.fr hb f3 (fun j k hj => by unfold xSf xGF; omega)
    refine x_jnCond hs hbo hb hP2 (fun cf c o t v W q => hR2 cf c o t v W q) 20 0 rfl _ _ _ h3 _ Q r2 (by omega) (by omega) r6 l3 S3 R3 (fun h5 e q f g => k0' h5 e q (f3.tr f) g) (fun h5 u q f5 l5 S5 => k1' h5 u q (f3.tr f5) l5 S5)
end XJN
