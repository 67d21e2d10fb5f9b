/-! the class reads a line of a book -/
def xBr (h : z_T) (bo : Nat) (bk nm : Nat → Nat) (told : Nat) : Prop := xBk h bo bk ∧ xNm h bo bk nm ∧ z_I h bo 3 = nI told
def xBf (bo o k : Nat) : Prop := xGF o k ∧ (o < bo ∨ bo + 8 ≤ o ∨ (o = bo ∧ k = 0))
theorem xBf.gf {bo : Nat} {h h' : z_T} (f : x_fr xGF h h') : x_fr (xBf bo) h h' := f.w (fun o k _ c => c.1)
theorem xBr.fr {C : Nat → Nat → Prop} {h h' : z_T} {bo : Nat} {bk nm : Nat → Nat} {told : Nat} (R : xBr h bo bk nm told) (hb : 83 ≤ bo) (f : x_fr C h h') (hc : ∀ j k, j < 8 → C (bo + j) k) : xBr h' bo bk nm told :=
  ⟨R.1.fr f (Or.inr hb) hc, ⟨fun t ht => (f.L (bo + 2) t (z_ok_lt (xb_4 R.1.1)) (hc 2 t (by omega))).trans (R.2.1.1 t ht), fun t ht => (f.L (bo + 5) t (z_ok_lt (xb_13 R.1.1)) (hc 5 t (by omega))).trans (R.2.1.2 t ht)⟩, (f.I bo 3 (z_ok_lt (xb_0 R.1.1)) (hc 0 3 (by omega))).trans R.2.2⟩
theorem xBr.gf {h h' : z_T} {bo : Nat} {bk nm : Nat → Nat} {told : Nat} (R : xBr h bo bk nm told) (hb : 83 ≤ bo) (f : x_fr xGF h h') : xBr h' bo bk nm told := R.fr hb f (fun j k hj => by unfold xGF; omega)
theorem x_takeNumberB {by8 : Nat → Nat} {L lim : Nat} {h : z_T} {t : Nat × Nat × Nat × Nat} {lo hi : Nat} {Q : Int32 × z_T → Prop} (l : xL by8 L lim h t) (h1 : lo < 1000) (h2 : hi < 1000) (k0 : ∀ h' e, a_nb lo hi t = .inl e → x_fr xGF h h' → xF h' e → Q (m1, h')) (k1 : ∀ h', a_nb lo hi t = .inr t.2.1 → t.2.1 ≤ hi → x_fr xGF h h' → xL by8 L lim h' (a_ne by8 L lim t) → Q (nI t.2.1, h')) : p_W (fX6_takeNumber 13 (nI lo) (nI hi) h) Q := by
  unfold a_nb at k0 k1
  refine x_takeNumber l h1 h2 (fun h' F c f g => ?_) (fun h' c c1 c2 f l1 => ?_)
  · rcases c with ⟨c, rfl⟩ | ⟨c, c2, rfl⟩
    · exact k0 h' _ (by rw [if_neg c]) f g
    · exact k0 h' _ (by rw [if_pos c, if_neg c2]) f g
  · exact k1 h' (by rw [if_pos c, if_pos ⟨c1, c2⟩]) c2 f l1
theorem x_takeNewName {by8 : Nat → Nat} {L lim bo : Nat} {h : z_T} {t : Nat × Nat × Nat × Nat} {bk nm : Nat → Nat} {told : Nat} {Q : Int32 × z_T → Prop} (l : xL by8 L lim h t) (b : BOK bk) (N : NMO bk nm) (R : xBr h bo bk nm told)
    (k0 : ∀ h' e, a_nw bk nm t = .inl e → x_fr xGF h h' → xF h' e → Q (nI 0, h')) (k1 : ∀ h', a_nw bk nm t = .inr t.2.1 → t.1 = 2 → x_fr xGF h h' → xL by8 L lim h' (a_ne by8 L lim t) → Q (nI 1, h')) : p_W (fX0_takeNewName bo 13 h) Q := by
  have s := l.1
  have h8 := b.1
  have h6 := b.2.1
  have nmE := x_isName l
  have B := R.1.1
  unfold a_nw at k0 k1
  have bad3 : a_kk t = 1 → (a_fx nm (bk 0) t.2.1 < bk 0 ∨ a_fx (fun d => nm (8 + d)) (bk 1) t.2.1 < bk 1) → p_W (fX0_takeNewName_b37 13 h) Q := fun ck cf => by
    unfold fX0_takeNewName_b37
    simp (disch := first | assumption | omega) only [p_some, p_gd, p_br, p_bi, p_nm, p_mp, p_Sl, p_Sr, p_bis, p_gdt, Nat.not_lt_zero, Nat.reduceEqDiff, Nat.reduceLT, Nat.reduceLeDiff, true_and, and_true, true_implies, false_implies, not_true_eq_false, not_false_eq_true, implies_true, and_self, ne_eq, decide_true, decide_false, Bool.not_true, Bool.not_false, if_true, if_false, reduceIte, xk13 s, r_lit]
    refine x_fail l (fun h1 f1 g1 => ?_)
    simp (disch := first | assumption | omega) only [p_some, p_gd, p_br, p_bi, p_nm, p_mp, p_Sl, p_Sr, p_bis, p_gdt, Nat.not_lt_zero, Nat.reduceEqDiff, Nat.reduceLT, Nat.reduceLeDiff, true_and, and_true, true_implies, false_implies, not_true_eq_false, not_false_eq_true, implies_true, and_self, ne_eq, decide_true, decide_false, Bool.not_true, Bool.not_false, if_true, if_false, reduceIte, s_yb0]
    exact k0 h1 _ (by rw [if_pos ck, if_pos cf]) f1 g1
  unfold fX0_takeNewName
  by_cases ck : a_kk t = 1
  · have c2 := a_kk1 (t := t) (by omega)
    obtain ⟨g1, g2, g3, -⟩ := l.2.2.1.k.2.2.1 c2
    have fd0 := x_testNamed B R.1.2.1 h8 (z_L h 13 6)
    have fd1 := x_dreamNamed B R.1.2.2.1 h6 (z_L h 13 6)
    rw [g1, a_fN_fi (f := nm) (fun k hk => ⟨R.2.1.1 k hk, (N.1 k hk).2⟩) g3, a_fi_fx] at fd0
    rw [g1, a_fN_fi (f := fun d => nm (8 + d)) (fun k hk => ⟨R.2.1.2 k hk, (N.2 k hk).2⟩) g3, a_fi_fx] at fd1
    rw [bI_t ck] at nmE
    by_cases cT : a_fx nm (bk 0) t.2.1 < bk 0
    · rw [if_pos cT] at fd0
      have := bad3 ck (Or.inl cT)
      generalize a_fx nm (bk 0) t.2.1 = F at *
      simp (disch := first | assumption | omega) only [p_some, p_gd, p_br, p_bi, p_nm, p_mp, p_Sl, p_Sr, p_bis, p_gdt, Nat.not_lt_zero, Nat.reduceEqDiff, Nat.reduceLT, Nat.reduceLeDiff, true_and, and_true, true_implies, false_implies, not_true_eq_false, not_false_eq_true, implies_true, and_self, ne_eq, decide_true, decide_false, Bool.not_true, Bool.not_false, if_true, if_false, reduceIte, xk13 s, nmE, r_lit, show (nI 1 = nI 0) = False from by decide, xb_0 B, g1, fd0, r_m1, r_m1n]
      exact this
    · rw [if_neg cT] at fd0
      by_cases cD : a_fx (fun d => nm (8 + d)) (bk 1) t.2.1 < bk 1
      · rw [if_pos cD] at fd1
        have := bad3 ck (Or.inr cD)
        generalize a_fx (fun d => nm (8 + d)) (bk 1) t.2.1 = F at *
        simp (disch := first | assumption | omega) only [p_some, p_gd, p_br, p_bi, p_nm, p_mp, p_Sl, p_Sr, p_bis, p_gdt, Nat.not_lt_zero, Nat.reduceEqDiff, Nat.reduceLT, Nat.reduceLeDiff, true_and, and_true, true_implies, false_implies, not_true_eq_false, not_false_eq_true, implies_true, and_self, ne_eq, decide_true, decide_false, Bool.not_true, Bool.not_false, if_true, if_false, reduceIte, xk13 s, nmE, r_lit, show (nI 1 = nI 0) = False from by decide, xb_0 B, g1, fd0, fd1, r_m1, r_m1n]
        exact this
      · rw [if_neg cD] at fd1
        have kk := fun h' => k1 h' (by rw [if_pos ck, if_neg (fun q => q.elim cT cD)]) c2
        clear k0 k1 bad3
        simp (disch := first | assumption | omega) only [p_some, p_gd, p_br, p_bi, p_nm, p_mp, p_Sl, p_Sr, p_bis, p_gdt, Nat.not_lt_zero, Nat.reduceEqDiff, Nat.reduceLT, Nat.reduceLeDiff, true_and, and_true, true_implies, false_implies, not_true_eq_false, not_false_eq_true, implies_true, and_self, ne_eq, decide_true, decide_false, Bool.not_true, Bool.not_false, if_true, if_false, reduceIte, xk13 s, nmE, r_lit, show (nI 1 = nI 0) = False from by decide, xb_0 B, g1, fd0, fd1, r_m1]
        refine x_advL l (by omega) (fun h1 f1 l1 => ?_)
        exact kk h1 (xGF.go f1) l1
  · rw [bI_f ck] at nmE
    simp (disch := first | assumption | omega) only [p_some, p_gd, p_br, p_bi, p_nm, p_mp, p_Sl, p_Sr, p_bis, p_gdt, Nat.not_lt_zero, Nat.reduceEqDiff, Nat.reduceLT, Nat.reduceLeDiff, true_and, and_true, true_implies, false_implies, not_true_eq_false, not_false_eq_true, implies_true, and_self, ne_eq, decide_true, decide_false, Bool.not_true, Bool.not_false, if_true, if_false, reduceIte, xk13 s, nmE, r_lit]
    refine x_fail l (fun h1 f1 g1 => ?_)
    simp (disch := first | assumption | omega) only [p_some, p_gd, p_br, p_bi, p_nm, p_mp, p_Sl, p_Sr, p_bis, p_gdt, Nat.not_lt_zero, Nat.reduceEqDiff, Nat.reduceLT, Nat.reduceLeDiff, true_and, and_true, true_implies, false_implies, not_true_eq_false, not_false_eq_true, implies_true, and_self, ne_eq, decide_true, decide_false, Bool.not_true, Bool.not_false, if_true, if_false, reduceIte, s_yb0]
    exact k0 h1 _ (by rw [if_neg ck]) f1 g1
theorem x_keptLoop {by8 : Nat → Nat} {L lim bo : Nat} {bk nm : Nat → Nat} {told : Nat} {Q : Int32 × z_T → Prop} (b : BOK bk) (N : NMO bk nm) (hb : 83 ≤ bo) : ∀ m set i (h : z_T) (t : Nat × Nat × Nat × Nat), set < 2 ^ bk 0 → a_pc set + m = 9 → i + m = 9 → xL by8 L lim h t → xBr h bo bk nm told →
    (∀ h' e, a_kept (a_ne by8 L lim) nm (bk 0) m set t = .inl e → x_fr xGF h h' → xF h' e → Q (m1, h')) →
    (∀ h' w, a_kept (a_ne by8 L lim) nm (bk 0) m set t = .inr w → x_fr xGF h h' → xL by8 L lim h' w.2 → Q (nI w.1, h')) →
    p_W (y_lp (fun w : Int32 × Int32 × z_T => fX0_readKept_b4_i bo 13 w.1 w.2.1 w.2.2) (nI set, nI i, h)) Q := by
  intro m
  have h8 := b.1
  induction m with
  | zero =>
    intro set i h t _ hp
    have := a_pc_le set
    omega
  | succ m ih =>
    intro set i h t hs hp hi l R k0 k1
    have s := l.1
    obtain ⟨-, t4, -, -, -, t9, -⟩ := l.2.2.1.k
    have B := R.1.1
    have h256 : set < 256 := Nat.lt_of_lt_of_le hs (Nat.le_trans (Nat.pow_le_pow_right (by decide) h8) (by decide))
    rw [a_kept] at k0 k1
    refine p_unP (fun P hP => ?_)
    unfold fX0_readKept_b4_i
    dsimp only
    by_cases c2 : t.1 = 2
    · rw [c2] at t4
      rw [if_pos c2] at k0 k1
      simp (disch := first | assumption | omega) only [p_some, p_gd, p_br, p_bi, p_nm, p_mp, p_Sl, p_Sr, p_bis, p_gdt, Nat.not_lt_zero, Nat.reduceEqDiff, Nat.reduceLT, Nat.reduceLeDiff, true_and, and_true, true_implies, false_implies, not_true_eq_false, not_false_eq_true, implies_true, and_self, ne_eq, decide_true, decide_false, Bool.not_true, Bool.not_false, if_true, if_false, reduceIte, xk13 s, r_lit, nI_ltI, show ¬ 8 < i by omega, t4]
      refine x_testHere l B R.1.2.1 h8 (fun k hk => ⟨R.2.1.1 k hk, (N.1 k hk).2⟩) (fun h1 F c f g => ?_) (fun k ck hk e => ?_)
      · simp (disch := first | assumption | omega) only [p_some, p_gd, p_br, p_bi, p_nm, p_mp, p_Sl, p_Sr, p_bis, p_gdt, Nat.not_lt_zero, Nat.reduceEqDiff, Nat.reduceLT, Nat.reduceLeDiff, true_and, and_true, true_implies, false_implies, not_true_eq_false, not_false_eq_true, implies_true, and_self, ne_eq, decide_true, decide_false, Bool.not_true, Bool.not_false, if_true, if_false, reduceIte, r_m1]
        rcases c with ⟨c, rfl⟩ | ⟨c, c3, rfl⟩
        · rw [if_neg c] at k0
          exact k0 h1 _ rfl f g
        · rw [if_pos c, if_neg (fun q => (a_fi_m (by omega)).mp c3 q.1)] at k0
          exact k0 h1 _ rfl f g
      · have ek : a_fx nm (bk 0) t.2.1 = k := by
          rw [a_fi_fx] at e
          by_cases c : a_fx nm (bk 0) t.2.1 < bk 0
          · rw [if_pos c, nI_eq (by omega) (by omega)] at e
            exact e
          · rw [if_neg c] at e
            exact absurd e.symm (r_neg1 (by omega))
        rw [if_pos ck, ek] at k0 k1
        have por := a_pc_or set h256 k (by omega)
        have slt := a_set_lt hs hk
        simp (disch := first | assumption | omega) only [p_some, p_gd, p_br, p_bi, p_nm, p_mp, p_Sl, p_Sr, p_bis, p_gdt, Nat.not_lt_zero, Nat.reduceEqDiff, Nat.reduceLT, Nat.reduceLeDiff, true_and, and_true, true_implies, false_implies, not_true_eq_false, not_false_eq_true, implies_true, and_self, ne_eq, decide_true, decide_false, Bool.not_true, Bool.not_false, if_true, if_false, reduceIte, r_m1, r_m1n, r_shl, fa_or, s_tb, xk13 s]
        refine ⟨fun c => ?_, fun c => ?_⟩
        · have cb : set.testBit k = false := c
          rw [if_pos ⟨hk, cb⟩] at k0 k1
          refine x_advL l (by omega) (fun h1 f1 l1 => ?_)
          have g1 := xGF.go f1
          simp (disch := first | assumption | omega) only [p_some, p_gd, p_br, p_bi, p_nm, p_mp, p_Sl, p_Sr, p_bis, p_gdt, Nat.not_lt_zero, Nat.reduceEqDiff, Nat.reduceLT, Nat.reduceLeDiff, true_and, and_true, true_implies, false_implies, not_true_eq_false, not_false_eq_true, implies_true, and_self, ne_eq, decide_true, decide_false, Bool.not_true, Bool.not_false, if_true, if_false, reduceIte, nI_add, nI_1]
          refine hP _ ?_
          exact ih (set ||| 2 ^ k) (i + 1) h1 _ slt (by rw [por cb]; omega) (by omega) l1 (R.gf hb g1) (fun h2 e q f2 g => k0 h2 e q (g1.tr f2) g) (fun h2 w q f2 l2 => k1 h2 w q (g1.tr f2) l2)
        · have cb : ¬ set.testBit k = false := c
          rw [if_neg (fun q => cb q.2)] at k0
          refine x_fail l (fun h1 f1 g1 => ?_)
          exact k0 h1 _ rfl f1 g1
    · rw [if_neg c2] at k1
      simp (disch := first | assumption | omega) only [p_some, p_gd, p_br, p_bi, p_nm, p_mp, p_Sl, p_Sr, p_bis, p_gdt, Nat.not_lt_zero, Nat.reduceEqDiff, Nat.reduceLT, Nat.reduceLeDiff, true_and, and_true, true_implies, false_implies, not_true_eq_false, not_false_eq_true, implies_true, and_self, ne_eq, decide_true, decide_false, Bool.not_true, Bool.not_false, if_true, if_false, reduceIte, xk13 s, r_lit, nI_ltI, show ¬ 8 < i by omega, t4, nI_eq, c2]
      exact k1 h (set, t) rfl x_fr.rf l
