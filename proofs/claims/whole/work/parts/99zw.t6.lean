/-! a tree by its places (1 the first, 2 p and 2 p + 1 behind p), told once; the class reads it -/
def a_nv (c : Nat) : Int32 := if c = 0 then 0 else if c = 1 then -1 else if c = 2 then -2 else nI (c - 3)
abbrev a_TS : Type := (Nat → Nat) × Nat × (Nat × Nat × Nat × Nat)
def a_sgn (c : Nat) (t : Nat × Nat × Nat × Nat) : (Nat × Nat) ⊕ Unit := if t.1 = c then .inr () else .inl (1, t.2.2.1)
def a_tr (ne : Nat × Nat × Nat × Nat → Nat × Nat × Nat × Nat) (f : Nat → Nat) (n0 : Nat) : Nat → Nat → Nat → (Nat → Nat) → Nat → Nat × Nat × Nat × Nat → (Nat × Nat) ⊕ a_TS
  | 0, p, way, nd, cnt, t => if a_kk t = 13 then .inr (a_ud nd p 1, cnt, ne t) else if a_kk t = 14 then .inr (a_ud nd p 2, cnt, ne t) else if a_kk t = 1 then (if a_fx f n0 t.2.1 < n0 ∧ way.testBit (a_fx f n0 t.2.1) = false then .inl (4, t.2.2.1) else .inl (3, t.2.2.1)) else .inl (1, t.2.2.1)
  | d + 1, p, way, nd, cnt, t => if a_kk t = 13 then .inr (a_ud nd p 1, cnt, ne t) else if a_kk t = 14 then .inr (a_ud nd p 2, cnt, ne t) else if a_kk t = 1 then (if a_fx f n0 t.2.1 < n0 ∧ way.testBit (a_fx f n0 t.2.1) = false then
      a_bd (a_sgn 40 (ne t)) fun _ =>
      a_bd (a_tr ne f n0 d (2 * p) (way ||| 2 ^ a_fx f n0 t.2.1) (a_ud nd p (3 + a_fx f n0 t.2.1)) (cnt + 1) (ne (ne t))) fun w =>
      a_bd (a_sgn 59 w.2.2) fun _ =>
      a_bd (a_tr ne f n0 d (2 * p + 1) (way ||| 2 ^ a_fx f n0 t.2.1) w.1 w.2.1 (ne w.2.2)) fun v =>
      a_bd (a_sgn 41 v.2.2) fun _ => .inr (v.1, v.2.1, ne v.2.2)
    else .inl (3, t.2.2.1)) else .inl (1, t.2.2.1)
def xTn (h : z_T) (to : Nat) (nd : Nat → Nat) (cnt : Nat) : Prop := z_ok h to 9 = true ∧ z_R h to 0 = some (to + 1) ∧ z_ok h (to + 1) 13 = true ∧ z_N h (to + 1) = 32 ∧ (∀ p, p < 32 → z_I h (to + 1) p = a_nv (nd p)) ∧ z_I h to 1 = nI cnt
def xTf (to o k : Nat) : Prop := xGF o k ∧ (o ≠ to ∨ k ≠ 1) ∧ o ≠ to + 1
theorem xTf.gf {to : Nat} {h h' : z_T} (f : x_fr xGF h h') : x_fr (xTf to) h h' := f.w (fun o k _ c => c.1)
theorem xTn.fr {C : Nat → Nat → Prop} {h h' : z_T} {to cnt : Nat} {nd : Nat → Nat} (T : xTn h to nd cnt) (ht : 83 ≤ to) (f : x_fr C h h') (c1 : ∀ k, C (to + 1) k) (c2 : C to 1) : xTn h' to nd cnt := by
  obtain ⟨t1, t2, t3, t4, t5, t6⟩ := T
  have l1 := z_ok_lt t1
  have l2 := z_ok_lt t3
  refine ⟨x_ok f t1, ?_, x_ok f t3, ?_, fun p hp => (f.I _ p l2 (c1 p)).trans (t5 p hp), (f.I to 1 l1 c2).trans t6⟩
  · rw [((f.2 to l1).2 0).2 (by unfold xM; omega)]
    exact t2
  · rw [(f.2 _ l2).1.2]
    exact t4
theorem x_takeS {by8 : Nat → Nat} {L lim : Nat} {h : z_T} {t : Nat × Nat × Nat × Nat} {c : Nat} {Q : Int32 × z_T → Prop} (l : xL by8 L lim h t) (hc : a_S c = true) (k0 : ∀ h' e, a_sgn c t = .inl e → x_fr xGF h h' → xF h' e → Q (nI 0, h')) (k1 : ∀ h', a_sgn c t = .inr () → x_fr xGF h h' → xL by8 L lim h' (a_ne by8 L lim t) → Q (nI 1, h')) : p_W (fX6_take 13 (nI c) h) Q := by
  unfold a_sgn at k0 k1
  refine x_take l hc (fun h' c f g => ?_) (fun h' c f g => ?_)
  · exact k0 h' _ (by rw [if_neg c]) f g
  · exact k1 h' (by rw [if_pos c]) f g
theorem x_leaf {by8 : Nat → Nat} {L lim to p c cnt : Nat} {nd : Nat → Nat} {h : z_T} {t : Nat × Nat × Nat × Nat} {v : Int32} {rc : Nat → Nat → Nat → Int32 → Int32 → Int32 → z_T → Option (Int32 × z_T)} {Q : Int32 × z_T → Prop} (l : xL by8 L lim h t) (T : xTn h to nd cnt) (ht : 83 ≤ to) (hp : p < 32) (hv : v = a_nv c) (h2 : 2 ≤ t.1)
    (k1 : ∀ h', x_fr (xTf to) h h' → xL by8 L lim h' (a_ne by8 L lim t) → xTn h' to (a_ud nd p c) cnt → Q (nI 1, h')) : p_W (fX9_readNode_b60 rc 13 (to + 1) (nI p) v h) Q := by
  obtain ⟨t1, t2, t3, t4, t5, t6⟩ := T
  have s := l.1
  unfold fX9_readNode_b60
  simp (disch := first | assumption | omega) only [p_some, p_gd, p_br, p_bi, p_nm, p_mp, p_Sl, p_Sr, p_bis, p_gdt, Nat.not_lt_zero, Nat.reduceEqDiff, Nat.reduceLT, Nat.reduceLeDiff, true_and, and_true, true_implies, false_implies, not_true_eq_false, not_false_eq_true, implies_true, and_self, ne_eq, decide_true, decide_false, Bool.not_true, Bool.not_false, if_true, if_false, reduceIte, t3, t4, q_ix, nI_clamp]
  have f0 : x_fr (xTf to) h (z_sI h (to + 1) p v) := x_fr.rf.sI (fun _ => by unfold xTf; omega)
  have l0 : xL by8 L lim (z_sI h (to + 1) p v) t := l.fr (C := fun o k => o < 83) (x_fr.rf.sI (fun _ => by omega)) (fun o k c => by unfold xKt at c; omega)
  have T0 : xTn (z_sI h (to + 1) p v) to (a_ud nd p c) cnt := by
    refine ⟨t1, t2, t3, t4, fun q hq => ?_, (q_In (by omega)).trans t6⟩
    unfold a_ud
    by_cases e : q = p
    · rw [if_pos e, q_Ie rfl e, hv]
    · rw [if_neg e, q_In (by omega)]
      exact t5 q hq
  generalize z_sI h (to + 1) p v = h0 at *
  have s0 := l0.1
  refine ⟨xk13 s0, ?_⟩
  refine x_advL l0 h2 (fun h1 f1 l1 => ?_)
  exact k1 h1 (f0.tr (xTf.gf (xGF.go f1))) l1 (T0.fr ht (xGF.go f1) (fun k => by unfold xGF; omega) (by unfold xGF; omega))
