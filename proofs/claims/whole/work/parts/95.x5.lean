/-! a night of the class: copied, drawn, judged -/
theorem x_fr.cI {C : Nat → Nat → Prop} {h h' : z_T} {o0 o1 : Nat} {sp dp n : Int32} (f : x_fr C h h') (hc : o1 < z_n h → ∀ k, ¬ C o1 k) : x_fr C h (z_cpI h' o0 o1 sp dp n) := by
  refine ⟨f.1, fun o ho => ⟨(f.2 o ho).1, fun k => ⟨fun c => ?_, ((f.2 o ho).2 k).2⟩⟩⟩
  have g := ((f.2 o ho).2 k).1 c
  refine ⟨?_, g.2⟩
  rw [← g.1, z_cpI_o (fun e => by subst e; exact hc ho k c)]
theorem x_fr.cL {C : Nat → Nat → Prop} {h h' : z_T} {o0 o1 : Nat} {sp dp n : Int32} (f : x_fr C h h') (hc : o1 < z_n h → ∀ k, ¬ C o1 k) : x_fr C h (z_cpL h' o0 o1 sp dp n) := by
  refine ⟨f.1, fun o ho => ⟨(f.2 o ho).1, fun k => ⟨fun c => ?_, ((f.2 o ho).2 k).2⟩⟩⟩
  have g := ((f.2 o ho).2 k).1 c
  refine ⟨g.1, ?_, g.2.2⟩
  rw [← g.2.1, z_cpL_o (fun e => by subst e; exact hc ho k c)]
theorem q_Rc {h : z_T} {o0 o1 : Nat} {sp dp n : Int32} : z_R (z_cpI h o0 o1 sp dp n) = z_R h := rfl
theorem q_RcL {h : z_T} {o0 o1 : Nat} {sp dp n : Int32} : z_R (z_cpL h o0 o1 sp dp n) = z_R h := rfl
theorem q_okc {h : z_T} {o0 o1 a b : Nat} {sp dp n : Int32} : z_ok (z_cpI h o0 o1 sp dp n) a b = z_ok h a b := rfl
theorem q_okcL {h : z_T} {o0 o1 a b : Nat} {sp dp n : Int32} : z_ok (z_cpL h o0 o1 sp dp n) a b = z_ok h a b := rfl
theorem q_cpok {h : z_T} {o0 o1 n N0 N1 : Nat} (e0 : z_N h o0 = N0) (e1 : z_N h o1 = N1) (h0 : n ≤ N0) (h1 : n ≤ N1) (hn : n < 2 ^ 31) : z_cpok h o0 o1 (nI 0) (nI 0) (nI n) = true := by
  unfold z_cpok
  rw [e0, e1, nI_clamp hn, nI_clamp (show 0 < 2 ^ 31 by decide)]
  have a : ¬ nI n < 0 := nI_pos hn
  have b : ¬ nI 0 < 0 := nI_pos (by decide)
  simp only [a, b, Nat.zero_add, h0, h1, not_false_eq_true, decide_true, Bool.and_self, Bool.and_true]
theorem q_cI {h : z_T} {o0 o1 n k : Nat} (hk : k < n) (hn : n < 2 ^ 31) : z_I (z_cpI h o0 o1 (nI 0) (nI 0) (nI n)) o1 k = z_I h o0 k := by
  rw [z_cpI_s, nI_clamp hn, nI_clamp (show 0 < 2 ^ 31 by decide)]
  unfold va_cpy
  rw [if_pos ⟨by omega, by omega⟩]
  congr 1
  omega
theorem q_cL {h : z_T} {o0 o1 n k : Nat} (hk : k < n) (hn : n < 2 ^ 31) : z_L (z_cpL h o0 o1 (nI 0) (nI 0) (nI n)) o1 k = z_L h o0 k := by
  rw [z_cpL_s, nI_clamp hn, nI_clamp (show 0 < 2 ^ 31 by decide)]
  unfold va_cpy
  rw [if_pos ⟨by omega, by omega⟩]
  congr 1
  omega
theorem x_copy {h : z_T} {o o1 bo n : Nat} {bk ans : Nat → Nat} {Q : z_T → Prop} (s : xNs h o) (N : xNi h o1 bo bk ans n) (hn : n ≤ 12) (ho : isN o) (ho1 : isN o1) (hne : o ≠ o1) (hb : bo = 1 ∨ 83 ≤ bo)
    (k : ∀ h', x_fr (fun a k => nC o a k ∧ (a ≠ o ∨ k ≠ 0)) h h' → xNi h' o bo bk ans n → Q h') : p_W (fX2_copy o o1 h) Q := by
  have hd : bo + 7 < o ∨ o + 3 < bo := by unfold isN at ho; omega
  have hd1 : o + 3 < o1 ∨ o1 + 3 < o := by unfold isN at ho ho1; omega
  obtain ⟨s1, r1, B, v⟩ := N
  have c1 : ∀ h', z_N h' = z_N h → z_cpok h' (o1 + 1) (o + 1) (nI 0) (nI 0) (nI 12) = true := fun h' e => q_cpok (N0 := 12) (N1 := 12) (by rw [e]; exact xo_5 s1) (by rw [e]; exact xo_5 s) (by decide) (by decide) (by decide)
  have c2 : ∀ h', z_N h' = z_N h → z_cpok h' (o1 + 2) (o + 2) (nI 0) (nI 0) (nI 8) = true := fun h' e => q_cpok (N0 := 8) (N1 := 8) (by rw [e]; exact xo_7 s1) (by rw [e]; exact xo_7 s) (by decide) (by decide) (by decide)
  have c3 : ∀ h', z_N h' = z_N h → z_cpok h' (o1 + 3) (o + 3) (nI 0) (nI 0) (nI 7) = true := fun h' e => q_cpok (N0 := 7) (N1 := 7) (by rw [e]; exact xo_9 s1) (by rw [e]; exact xo_9 s) (by decide) (by decide) (by decide)
  unfold fX2_copy
  simp (disch := first | assumption | omega) only [p_some, p_gd, p_bi, p_nm, p_bis, q_IR, q_RI, q_Rn, q_Rc, q_RcL, q_okI, q_okR, q_okc, q_okcL, r_lit, xo_0 s, xo_1 s, xo_2 s, xo_3 s, xo_4 s, xo_6 s, xo_8 s, xo_0 s1, xo_1 s1, xo_2 s1, xo_3 s1, xo_4 s1, xo_6 s1, xo_8 s1, r1, xb_0 B.1, v.1, true_and]
  refine ⟨c1 _ rfl, c2 _ rfl, c3 _ rfl, ?_⟩
  have f0 : x_fr (fun a k => a ≠ o ∨ (k ≠ 0 ∧ k ≠ 1)) h (z_sI (z_sR h o 0 (some bo)) o 1 (nI n)) := (x_fr.rf.sR (fun _ => ⟨by omega, by unfold isN at ho; unfold xM; omega⟩)).sI (fun _ => by omega)
  have r0 : z_R (z_sI (z_sR h o 0 (some bo)) o 1 (nI n)) o 0 = some bo := by simp (disch := first | assumption | omega) only [q_IL, q_IR, q_LI, q_LR, q_RI, q_RL, q_KI, q_KL, q_KR, q_NI, q_NL, q_NR, q_nI, q_nL, q_nR, q_okI, q_okL, q_okR, q_Ie, q_In, q_Le, q_Ln, SM_I, SM_L, s_c0, s_cg0, s_cl0, s_cge, s_cle, r_le, r_lt, r_eq, r_md, r_2, r_3, r_lit, r_litL, r_m1, nI_add, nI_1, nI_clamp, nI_leI, nI_ltI, nI_eq, pk_sub, q_ix, nI_l, lN_add, lN_mul, r_m1n, r_m1n', r_m1lt, r_m1nlt, r_m1le, r_m1nle, Nat.not_lt_zero, Nat.reduceEqDiff, Nat.reduceLT, Nat.reduceLeDiff, true_and, and_true, true_implies, false_implies, not_true_eq_false, not_false_eq_true, implies_true, and_self, ne_eq, decide_true, decide_false, Bool.not_true, Bool.not_false, if_true, if_false, reduceIte, mk0, mk1, mk2, mk3, mk4, mk5, mk6, mk7, mk8, mk9, mk10, mk11, mk12, mk13, mk14, mk15, mk16, mk17, mk18, mk19, mk20, mk21, mk22, mn1, mn2, mn3, mn4, mn5, mn6, mn7, mn8, mn9, mn10, mn11, mn12, mn13, mn14, mn15, mn16, mn17, mn18, mn19, mn20, mn21, mn22, mr1, mr6, mr7, mr8, mr9, mr10, mr21, mr22, mr23, mr25, mr26, mr29, mr30, mr32, mr33, mr34, mr43, mr47, mr53, mr54, mr55, mr56, q_Re]
  have i0 : z_I (z_sI (z_sR h o 0 (some bo)) o 1 (nI n)) o 1 = nI n := q_Ie rfl rfl
  generalize z_sI (z_sR h o 0 (some bo)) o 1 (nI n) = h0 at f0 r0 i0 ⊢
  have s0 := s.fr f0 ho
  have s10 := s1.fr f0 ho1
  have v0 : xNv h0 o1 bk ans n := v.fr f0 (fun j k hj => by omega) s1
  have B0 : xBk h0 bo bk := B.fr f0 hb (fun j k hj => by omega)
  have f1 : x_fr (fun a k => a ≠ o + 1) h0 (z_cpI h0 (o1 + 1) (o + 1) (nI 0) (nI 0) (nI 12)) := x_fr.rf.cI (fun _ k => by omega)
  have a1 : ∀ i, i < n → z_I (z_cpI h0 (o1 + 1) (o + 1) (nI 0) (nI 0) (nI 12)) (o + 1) i = nI (ans i) := fun i hi => (q_cI (by omega) (by decide)).trans (v0.2.1 i hi)
  generalize z_cpI h0 (o1 + 1) (o + 1) (nI 0) (nI 0) (nI 12) = h1 at f1 a1 ⊢
  have t0 := s0.fr f1 ho
  have t10 := s10.fr f1 ho1
  have w0 : xNv h1 o1 bk ans n := v0.fr f1 (fun j k hj => by omega) s10
  have f2 : x_fr (fun a k => a ≠ o + 2) h1 (z_cpI h1 (o1 + 2) (o + 2) (nI 0) (nI 0) (nI 8)) := x_fr.rf.cI (fun _ k => by omega)
  have a2 : ∀ i, i < 8 → z_I (z_cpI h1 (o1 + 2) (o + 2) (nI 0) (nI 0) (nI 8)) (o + 2) i = nI (a_tm ans i n) := fun i hi => (q_cI (by omega) (by decide)).trans (w0.2.2.1 i hi)
  generalize z_cpI h1 (o1 + 2) (o + 2) (nI 0) (nI 0) (nI 8) = h2 at f2 a2 ⊢
  have u0 := t0.fr f2 ho
  have u10 := t10.fr f2 ho1
  have x0 : xNv h2 o1 bk ans n := w0.fr f2 (fun j k hj => by omega) t10
  have f3 : x_fr (fun a k => a ≠ o + 3) h2 (z_cpL h2 (o1 + 3) (o + 3) (nI 0) (nI 0) (nI 7)) := x_fr.rf.cL (fun _ k => by omega)
  have a3 : ∀ i, i < 7 → z_L (z_cpL h2 (o1 + 3) (o + 3) (nI 0) (nI 0) (nI 7)) (o + 3) i = lN (a_lk bk ans i n) := fun i hi => (q_cL (by omega) (by decide)).trans (x0.2.2.2 i hi)
  generalize z_cpL h2 (o1 + 3) (o + 3) (nI 0) (nI 0) (nI 7) = h3 at f3 a3 ⊢
  have F : x_fr (fun a k => a ≠ o + 1 ∧ a ≠ o + 2 ∧ a ≠ o + 3) h0 h3 := ((f1.w (fun a k _ c => c.1)).tr (f2.w (fun a k _ c => c.2.1))).tr (f3.w (fun a k _ c => c.2.2))
  refine k h3 ((f0.w (fun a k _ c => by unfold nC at c; omega)).tr (F.w (fun a k _ c => by unfold nC at c; omega))) ⟨u0.fr f3 ho, (F.R _ _ (z_ok_lt (xo_0 s0)) (by omega)).trans r0, B0.fr F hb (fun j k hj => by omega), (F.I _ _ (z_ok_lt (xo_0 s0)) (by omega)).trans i0, fun i hi => ?_, fun t ht => ?_, a3⟩
  · exact (f3.I _ _ (z_ok_lt (xo_4 u0)) (by omega)).trans ((f2.I _ _ (z_ok_lt (xo_4 t0)) (by omega)).trans (a1 i hi))
  · exact (f3.I _ _ (z_ok_lt (xo_6 u0)) (by omega)).trans (a2 t ht)
/-! draws -/
def a_nx (x : Int32) : Int32 := x * nI 1103515245 + nI 12345
def a_v (x : Int32) : Nat := x.toBitVec.toNat / 256
theorem a_v_lt (x : Int32) : a_v x < 2 ^ 24 := by
  have := x.toBitVec.isLt
  unfold a_v
  omega
theorem s_dr (x : Int32) : (x.toUInt32 >>> ((nI 8).toUInt32 &&& Int32.toUInt32 (nI 31))).toInt32 = nI (a_v x) := by
  have h := pk_ushr x (nI 8) 8 (by decide)
  have h2 := a_v_lt x
  apply Int32.toBitVec_inj.mp
  apply BitVec.eq_of_toNat_eq
  rw [show Int32.toUInt32 (nI 31) = Int32.toUInt32 31 from rfl, h, pk_tn (by omega)]
  rfl
def a_pick (w : Nat → Nat) : Nat → Nat → Nat → Nat
  | 0, _, _ => 0
  | f + 1, q, r => if w q ≤ r then a_pick w f (q + 1) (r - w q) else q
def a_dr (bk : Nat → Nat) (q : Nat) (x0 : Int32) : Nat → Int32 × (Nat → Nat)
  | 0 => (x0, fun _ => 0)
  | i + 1 => (a_nx (a_nx (a_dr bk q x0 i).1), a_u (a_dr bk q x0 i).2 i (2 * (a_v (a_nx (a_dr bk q x0 i).1) % bk 0) + if a_v (a_nx (a_nx (a_dr bk q x0 i).1)) % 9 < a_od bk (a_dr bk q x0 i).2 i q (a_v (a_nx (a_dr bk q x0 i).1) % bk 0) then 1 else 0))
def a_dq (bk : Nat → Nat) (x : Int32) : Nat := a_pick (a_w bk) 7 0 (a_v (a_nx x) % sumN (a_w bk) 7)
def a_da (bk : Nat → Nat) (x : Int32) (n : Nat) : Nat → Nat := (a_dr bk (a_dq bk x) (a_nx x) n).2
theorem a_pick_lt (w : Nat → Nat) : ∀ f q r, q + f ≤ 7 → a_pick w f q r < 7
  | 0, q, r, _ => by rw [a_pick]; omega
  | f + 1, q, r, h => by
    rw [a_pick]
    split
    · exact a_pick_lt w f (q + 1) (r - w q) (by omega)
    · omega
theorem a_dq_lt (bk : Nat → Nat) (x : Int32) : a_dq bk x < 7 := a_pick_lt _ _ _ _ (by omega)
theorem a_dr_t {bk : Nat → Nat} {q : Nat} {x0 : Int32} (h : 0 < bk 0) : ∀ n i, i < n → (a_dr bk q x0 n).2 i < 2 * bk 0
  | 0, i, hi => absurd hi (Nat.not_lt_zero _)
  | n + 1, i, hi => by
    rw [a_dr]
    have h1 := Nat.mod_lt (a_v (a_nx (a_dr bk q x0 n).1)) h
    show a_u _ n _ i < _
    unfold a_u
    by_cases e : i = n
    · rw [if_pos e]
      split <;> omega
    · rw [if_neg e]
      exact a_dr_t h n i (by omega)
theorem x_drawBelow {h : z_T} {o m : Nat} {Q : Int32 × z_T → Prop} (s : xNs h o) (hm0 : 0 < m) (hm : m < 2 ^ 31) (k : Q (nI (a_v (a_nx (z_I h o 5)) % m), z_sI h o 5 (a_nx (z_I h o 5)))) : p_W (fX2_drawBelow o (nI m) h) Q := by
  have h2 := a_v_lt (a_nx (z_I h o 5))
  unfold fX2_drawBelow
  have e : z_I h o 5 * nI 1103515245 + nI 12345 = a_nx (z_I h o 5) := rfl
  simp (disch := first | assumption | omega) only [p_some, p_gd, p_br, p_bi, p_nm, p_mp, p_Sl, p_Sr, p_bis, p_gdt, q_IL, q_IR, q_LI, q_LR, q_RI, q_RL, q_KI, q_KL, q_KR, q_NI, q_NL, q_NR, q_nI, q_nL, q_nR, q_okI, q_okL, q_okR, q_Ie, q_In, q_Le, q_Ln, SM_I, SM_L, s_c0, s_cg0, s_cl0, s_cge, s_cle, r_le, r_lt, r_eq, r_md, r_2, r_3, r_lit, r_litL, r_m1, nI_add, nI_1, nI_clamp, nI_leI, nI_ltI, nI_eq, pk_sub, q_ix, nI_l, lN_add, lN_mul, r_m1n, r_m1n', r_m1lt, r_m1nlt, r_m1le, r_m1nle, Nat.not_lt_zero, Nat.reduceEqDiff, Nat.reduceLT, Nat.reduceLeDiff, true_and, and_true, true_implies, false_implies, not_true_eq_false, not_false_eq_true, implies_true, and_self, ne_eq, decide_true, decide_false, Bool.not_true, Bool.not_false, if_true, if_false, reduceIte, xb_0, xb_1, xb_2, xb_3, xb_4, xb_5, xb_6, xb_7, xb_8, xb_9, xb_10, xb_11, xb_12, xb_13, xb_14, xb_15, xb_16, xb_17, xb_18, xb_19, xb_20, xb_21, xo_0, xo_1, xo_2, xo_3, xo_4, xo_5, xo_6, xo_7, xo_8, xo_9, xo_0 s, e, s_dr, pk_div, show ¬ m ≤ 0 by omega, show ¬ m = 0 by omega]
  exact k
theorem BOK.wpos {bk : Nat → Nat} (b : BOK bk) : 0 < sumN (a_w bk) 7 := Nat.lt_of_lt_of_le b.2.2.1.1 (sumN_ge (f := a_w bk) (i := 0) (by decide))
theorem BOK.wle {bk : Nat → Nat} (b : BOK bk) : sumN (a_w bk) 7 ≤ 140 := sumN_le (b := 20) (fun i hi => b.w hi)
