/-! names as numbers: five bits a letter for the class, eight for the reference; the text made last as a list -/
def a_cv (c : Nat) : Nat := if c = 0 then 0 else 96 + c
def a_c8 : Nat → Nat → Nat
  | 0, _ => 0
  | m + 1, N => 256 * a_c8 m (N / 32) + a_cv (N % 32)
theorem a_cv_lt {c : Nat} (h : c < 32) : a_cv c < 128 := by unfold a_cv; split <;> omega
theorem a_c8_lt : ∀ m N, a_c8 m N < 256 ^ m
  | 0, _ => Nat.zero_lt_one
  | m + 1, N => by
    have h := a_c8_lt m (N / 32)
    have h2 := a_cv_lt (c := N % 32) (Nat.mod_lt _ (by decide))
    rw [a_c8, Nat.pow_succ]
    omega
theorem a_c8_dg : ∀ m N i, i < m → a_c8 m N / 256 ^ i % 256 = a_cv (N / 32 ^ i % 32)
  | 0, _, _, h => absurd h (Nat.not_lt_zero _)
  | m + 1, N, 0, _ => by
    have h2 := a_cv_lt (c := N % 32) (Nat.mod_lt _ (by decide))
    rw [a_c8, Nat.pow_zero, Nat.div_one, Nat.div_one]
    omega
  | m + 1, N, i + 1, h => by
    have h2 := a_cv_lt (c := N % 32) (Nat.mod_lt _ (by decide))
    have e : (256 * a_c8 m (N / 32) + a_cv (N % 32)) / 256 = a_c8 m (N / 32) := by omega
    have e1 : 256 ^ (i + 1) = 256 * 256 ^ i := Nat.pow_succ'
    have e2 : 32 ^ (i + 1) = 32 * 32 ^ i := Nat.pow_succ'
    rw [a_c8, e1, e2, ← Nat.div_div_eq_div_mul, ← Nat.div_div_eq_div_mul, e]
    exact a_c8_dg m (N / 32) i (by omega)
theorem a_c8_inj : ∀ m N N', N < 32 ^ m → N' < 32 ^ m → a_c8 m N = a_c8 m N' → N = N'
  | 0, N, N', h, h', _ => by rw [Nat.pow_zero] at h h'; omega
  | m + 1, N, N', h, h', e => by
    have h2 := a_cv_lt (c := N % 32) (Nat.mod_lt _ (by decide))
    have h3 := a_cv_lt (c := N' % 32) (Nat.mod_lt _ (by decide))
    rw [a_c8, a_c8] at e
    rw [Nat.pow_succ] at h h'
    have e1 : a_c8 m (N / 32) = a_c8 m (N' / 32) := by omega
    have e2 : a_cv (N % 32) = a_cv (N' % 32) := by omega
    have e3 := a_c8_inj m _ _ (show N / 32 < 32 ^ m by omega) (show N' / 32 < 32 ^ m by omega) e1
    have e4 : N % 32 = N' % 32 := by
      unfold a_cv at e2
      split at e2 <;> split at e2 <;> omega
    omega
theorem a_dz : ∀ m N, N < 32 ^ m → (∀ i, i < m → N / 32 ^ i % 32 = 0) → N = 0
  | 0, N, h, _ => by rw [Nat.pow_zero] at h; omega
  | m + 1, N, h, d => by
    rw [Nat.pow_succ] at h
    have d0 := d 0 (by omega)
    rw [Nat.pow_zero, Nat.div_one] at d0
    have ih := a_dz m (N / 32) (by omega) (fun i hi => by
      have := d (i + 1) (by omega)
      rw [show 32 ^ (i + 1) = 32 * 32 ^ i from Nat.pow_succ', ← Nat.div_div_eq_div_mul] at this
      exact this)
    omega
theorem p_unP {S T : Type} {body : S → Option (S ⊕ T)} {s : S} {Q : T → Prop} (h : ∀ P : S → Prop, (∀ s', p_W (y_lp body s') Q → P s') → p_W (body s) (p_S P Q)) : p_W (y_lp body s) Q := p_un (h _ (fun _ q => q))
/-- what is put for a name, from its first letter -/
def a_ew (d : Nat → Nat) : Nat → List Nat
  | 0 => []
  | m + 1 => (if d m = 0 then [] else [d m]) ++ a_ew d m
theorem a_ew_congr {d d' : Nat → Nat} : ∀ {m}, (∀ i, i < m → d i = d' i) → a_ew d m = a_ew d' m
  | 0, _ => rfl
  | m + 1, h => by rw [a_ew, a_ew, h m (by omega), a_ew_congr (fun i hi => h i (by omega))]
theorem a_ew_len {d : Nat → Nat} : ∀ {m}, (a_ew d m).length ≤ m
  | 0 => Nat.le_refl _
  | m + 1 => by
    have ih := a_ew_len (d := d) (m := m)
    rw [a_ew, List.length_append]
    split
    · rw [List.length_nil]; omega
    · rw [List.length_singleton]; omega
theorem a_ew_nil {d : Nat → Nat} : ∀ {m}, a_ew d m = [] → ∀ i, i < m → d i = 0
  | 0, _, _, hi => absurd hi (Nat.not_lt_zero _)
  | m + 1, h, i, hi => by
    rw [a_ew, List.append_eq_nil_iff] at h
    by_cases e : i = m
    · subst e
      by_cases c : d i = 0
      · exact c
      · rw [if_neg c] at h
        exact absurd h.1 (List.cons_ne_nil _ _)
    · exact a_ew_nil h.2 i (by omega)
def a_nt (N : Nat) : List Nat := a_ew (fun i => a_cv (N / 32 ^ i % 32)) 7
theorem a_nt_ne {N : Nat} (h0 : 0 < N) (h : N < 32 ^ 7) : a_nt N ≠ [] := fun e => by
  have hz := a_dz 7 N h (fun i hi => by
    have := a_ew_nil e i hi
    unfold a_cv at this
    split at this <;> omega)
  omega
theorem a_nt_8 {N : Nat} : a_nt N = a_ew (fun i => a_c8 7 N / 256 ^ i % 256) 7 := (a_ew_congr (fun i hi => a_c8_dg 7 N i hi)).symm
def a_tx (T : List Nat) : Nat → Int32 := fun i => nI (T.getD i 0)
theorem a_tx_in {T : List Nat} {c i : Nat} (h : i < T.length) : a_tx (T ++ [c]) i = a_tx T i := by
  unfold a_tx
  rw [List.getD_eq_getElem?_getD, List.getElem?_append_left h, ← List.getD_eq_getElem?_getD]
theorem a_tx_at {T : List Nat} {c : Nat} : a_tx (T ++ [c]) T.length = nI c := by
  unfold a_tx
  rw [List.getD_eq_getElem?_getD, List.getElem?_append_right (Nat.le_refl _), Nat.sub_self]
  rfl
def xT (h : z_T) (T : List Nat) : Prop := xTx h T.length (a_tx T)
def mT (h : z_T) (T : List Nat) : Prop := mTx h T.length (a_tx T)
def xCt (a k : Nat) : Prop := a ≠ 12 ∧ (a ≠ 11 ∨ k ≠ 1)
def mCt (a k : Nat) : Prop := a ≠ 12 ∧ (a ≠ 0 ∨ k ≠ 31)
theorem s_b7 : ∀ c, c < 128 → (nI c).toInt8.toInt32.toInt8.toInt32 = nI c := by decide +kernel
theorem a_len1 {T : List Nat} {c : Nat} : (T ++ [c]).length = T.length + 1 := by rw [List.length_append, List.length_singleton]
theorem x_putC {h : z_T} {T : List Nat} {c : Nat} {Q : z_T → Prop} (s : SX h) (X : xT h T) (hL : T.length < 940) (hc : c < 128) (k : ∀ h', x_fr xCt h h' → xT h' (T ++ [c]) → Q h') : p_W (fX1_put 11 (nI c) h) Q := by
  have b := s_b7 c hc
  have i2 : ∀ i, i < T.length → a_tx (T ++ [c]) i = a_tx T i := fun i hi => a_tx_in hi
  have i3 := a_tx_at (T := T) (c := c)
  obtain ⟨X1, X2⟩ := X
  unfold xT at k
  rw [a_len1] at k
  generalize a_tx (T ++ [c]) = t' at *
  generalize a_tx T = t at *
  generalize T.length = L at *
  unfold fX1_put
  simp (disch := first | assumption | omega) only [p_some, p_gd, p_br, p_bi, p_nm, p_mp, p_Sl, p_Sr, p_bis, p_gdt, q_IL, q_IR, q_LI, q_LR, q_RI, q_RL, q_KI, q_KL, q_KR, q_NI, q_NL, q_NR, q_nI, q_nL, q_nR, q_okI, q_okL, q_okR, q_Ie, q_In, q_Le, q_Ln, SM_I, SM_L, s_c0, s_cg0, s_cl0, s_cge, s_cle, r_le, r_lt, r_eq, r_md, r_2, r_3, r_lit, r_litL, r_m1, nI_add, nI_1, nI_clamp, nI_leI, nI_ltI, nI_eq, pk_sub, q_ix, nI_l, lN_add, lN_mul, r_m1n, r_m1n', r_m1lt, r_m1nlt, r_m1le, r_m1nle, Nat.not_lt_zero, Nat.reduceEqDiff, Nat.reduceLT, Nat.reduceLeDiff, true_and, and_true, true_implies, false_implies, not_true_eq_false, not_false_eq_true, implies_true, and_self, ne_eq, decide_true, decide_false, Bool.not_true, Bool.not_false, if_true, if_false, reduceIte, xk11 s, xr11_0 s, xk12 s, xn12 s, X1, b, show ¬ 940 ≤ L by omega]
  refine k _ ((x_fr.rf.sI (fun _ => by unfold xCt; omega)).sI (fun _ => by unfold xCt; omega)) ⟨q_Ie rfl rfl, fun i hi => ?_⟩
  rw [q_In (by omega)]
  by_cases e : i = L
  · rw [q_Ie rfl e, e, i3]
  · rw [q_In (by omega), X2 i (by omega), i2 i (by omega)]
theorem m_putC {h : z_T} {T : List Nat} {c : Nat} {Q : z_T → Prop} (s : SM h) (X : mT h T) (hL : T.length < 400) (hc : c < 128) (k : ∀ h', m_fr mCt h h' → mT h' (T ++ [c]) → Q h') : p_W (fX12_put 0 (nI c) h) Q := by
  have b := s_b7 c hc
  have i2 : ∀ i, i < T.length → a_tx (T ++ [c]) i = a_tx T i := fun i hi => a_tx_in hi
  have i3 := a_tx_at (T := T) (c := c)
  obtain ⟨X1, X2⟩ := X
  unfold mT at k
  rw [a_len1] at k
  generalize a_tx (T ++ [c]) = t' at *
  generalize a_tx T = t at *
  generalize T.length = L at *
  unfold fX12_put
  simp (disch := first | assumption | omega) only [p_some, p_gd, p_br, p_bi, p_nm, p_mp, p_Sl, p_Sr, p_bis, p_gdt, q_IL, q_IR, q_LI, q_LR, q_RI, q_RL, q_KI, q_KL, q_KR, q_NI, q_NL, q_NR, q_nI, q_nL, q_nR, q_okI, q_okL, q_okR, q_Ie, q_In, q_Le, q_Ln, SM_I, SM_L, s_c0, s_cg0, s_cl0, s_cge, s_cle, r_le, r_lt, r_eq, r_md, r_2, r_3, r_lit, r_litL, r_m1, nI_add, nI_1, nI_clamp, nI_leI, nI_ltI, nI_eq, pk_sub, q_ix, nI_l, lN_add, lN_mul, r_m1n, r_m1n', r_m1lt, r_m1nlt, r_m1le, r_m1nle, Nat.not_lt_zero, Nat.reduceEqDiff, Nat.reduceLT, Nat.reduceLeDiff, true_and, and_true, true_implies, false_implies, not_true_eq_false, not_false_eq_true, implies_true, and_self, ne_eq, decide_true, decide_false, Bool.not_true, Bool.not_false, if_true, if_false, reduceIte, mk0, mk1, mk2, mk3, mk4, mk5, mk6, mk7, mk8, mk9, mk10, mk11, mk12, mk13, mk14, mk15, mk16, mk17, mk18, mk19, mk20, mk21, mk22, mn1, mn2, mn3, mn4, mn5, mn6, mn7, mn8, mn9, mn10, mn11, mn12, mn13, mn14, mn15, mn16, mn17, mn18, mn19, mn20, mn21, mn22, mr1, mr6, mr7, mr8, mr9, mr10, mr21, mr22, mr23, mr25, mr26, mr29, mr30, mr32, mr33, mr34, mr43, mr47, mr53, mr54, mr55, mr56, X1, b]
  refine k _ ((m_fr.rf.sI (by unfold mCt; omega)).sI (by unfold mCt; omega)) ⟨q_Ie rfl rfl, fun i hi => ?_⟩
  rw [q_In (by omega)]
  by_cases e : i = L
  · rw [q_Ie rfl e, e, i3]
  · rw [q_In (by omega), X2 i (by omega), i2 i (by omega)]
def a_v5 (m : Nat) : Int32 := if m = 0 then -5 else nI (5 * (m - 1))
def a_v8 (m : Nat) : Int32 := if m = 0 then -8 else nI (8 * (m - 1))
theorem a_v5_s : ∀ m, m < 7 → nI (5 * m) + -5 = a_v5 m := by decide +kernel
theorem a_v8_s : ∀ m, m < 7 → nI (8 * m) + -8 = a_v8 m := by decide +kernel
theorem s_smL : ∀ k, k < 64 → ((lN k).toBitVec.smod 64).toNat = k := by decide +kernel
theorem s_c63 : ∀ k, k < 64 → ((nI k).toInt64 &&& lN 63) = lN k := by decide +kernel
theorem s_dg5 {N m : Nat} (hN : N < 32 ^ 7) (hm : m < 7) : (lN N >>> ((nI (5 * m)).toInt64 &&& lN 63)).toInt32 &&& nI 31 = nI (N / 32 ^ m % 32) := by
  have e : 2 ^ (5 * m) = 32 ^ m := by rw [Nat.pow_mul]
  rw [s_c63 (5 * m) (by omega), pf_shr (s_smL (5 * m) (by omega)) (by omega), e, show (lN (N / 32 ^ m)).toInt32 = nI (N / 32 ^ m) from Int64.toInt32_ofNat']
  exact fa_mask _ 5
theorem s_dg8 {w m : Nat} (hw : w < 256 ^ 7) (hm : m < 7) : (lN w >>> ((nI (8 * m)).toInt64 &&& lN 63)) &&& lN 255 = lN (w / 256 ^ m % 256) := by
  have e : 2 ^ (8 * m) = 256 ^ m := by rw [Nat.pow_mul]
  have l : w / 256 ^ m ≤ w := Nat.div_le_self _ _
  rw [s_c63 (8 * m) (by omega), pf_shr (s_smL (8 * m) (by omega)) (by omega), e]
  exact wb_mask (k := 8) (by omega) (by decide)
theorem x_pnLoop {N : Nat} (hN : N < 32 ^ 7) : ∀ m, m ≤ 7 → ∀ (h : z_T) (T : List Nat) (Q : z_T → Prop), SX h → xT h T → T.length + m ≤ 940 → (∀ h', x_fr xCt h h' → xT h' (T ++ a_ew (fun i => a_cv (N / 32 ^ i % 32)) m) → Q h') → p_W (y_lp (fun q : Int32 × z_T => fX1_putName_b3_i 11 (lN N) q.1 q.2) (a_v5 m, h)) Q := by
  intro m
  induction m with
  | zero =>
    intro _ h T Q s X hL k
    refine p_unP (fun P hP => ?_)
    unfold fX1_putName_b3_i
    dsimp only
    rw [p_brT (show a_v5 0 < 0 by decide)]
    simp (disch := first | assumption | omega) only [p_some, p_gd, p_br, p_bi, p_nm, p_mp, p_Sl, p_Sr, p_bis, p_gdt, Nat.not_lt_zero, Nat.reduceEqDiff, Nat.reduceLT, Nat.reduceLeDiff, true_and, and_true, true_implies, false_implies, not_true_eq_false, not_false_eq_true, implies_true, and_self, ne_eq, decide_true, decide_false, Bool.not_true, Bool.not_false, if_true, if_false, reduceIte]
    refine k h x_fr.rf ?_
    rw [a_ew, List.append_nil]
    exact X
  | succ m ih =>
    intro hm h T Q s X hL k
    have dg := s_dg5 (m := m) hN (by omega)
    have cl := a_cv_lt (c := N / 32 ^ m % 32) (Nat.mod_lt _ (by decide))
    have dl : N / 32 ^ m % 32 < 32 := Nat.mod_lt _ (by decide)
    have ev := a_v5_s m (by omega)
    have e1 : a_ew (fun i => a_cv (N / 32 ^ i % 32)) (m + 1) = (if a_cv (N / 32 ^ m % 32) = 0 then [] else [a_cv (N / 32 ^ m % 32)]) ++ a_ew (fun i => a_cv (N / 32 ^ i % 32)) m := rfl
    have ec : a_cv (N / 32 ^ m % 32) = if N / 32 ^ m % 32 = 0 then 0 else 96 + N / 32 ^ m % 32 := rfl
    rw [show a_v5 (m + 1) = nI (5 * m) from rfl]
    refine p_unP (fun P hP => ?_)
    unfold fX1_putName_b3_i
    dsimp only
    generalize a_cv (N / 32 ^ m % 32) = C at *
    generalize N / 32 ^ m % 32 = D at *
    simp (disch := first | assumption | omega) only [p_some, p_gd, p_br, p_bi, p_nm, p_mp, p_Sl, p_Sr, p_bis, p_gdt, Nat.not_lt_zero, Nat.reduceEqDiff, Nat.reduceLT, Nat.reduceLeDiff, true_and, and_true, true_implies, false_implies, not_true_eq_false, not_false_eq_true, implies_true, and_self, ne_eq, decide_true, decide_false, Bool.not_true, Bool.not_false, if_true, if_false, reduceIte, r_lit, r_litL, r_lt0, nI_ltI, Nat.not_lt_zero, dg, nI_leI, Nat.le_zero]
    refine ⟨fun c => ?_, fun c => ?_⟩
    · rw [if_pos c] at ec
      rw [ec, if_pos rfl, List.nil_append] at e1
      rw [e1] at k
      unfold fX1_putName_b32
      simp (disch := first | assumption | omega) only [p_some, p_gd, p_br, p_bi, p_nm, p_mp, p_Sl, p_Sr, p_bis, p_gdt, Nat.not_lt_zero, Nat.reduceEqDiff, Nat.reduceLT, Nat.reduceLeDiff, true_and, and_true, true_implies, false_implies, not_true_eq_false, not_false_eq_true, implies_true, and_self, ne_eq, decide_true, decide_false, Bool.not_true, Bool.not_false, if_true, if_false, reduceIte]
      refine hP _ ?_
      rw [ev]
      exact ih (by omega) h T Q s X (by omega) k
    · rw [if_neg c] at ec
      subst ec
      rw [if_neg (by omega)] at e1
      rw [e1] at k
      simp (disch := first | assumption | omega) only [p_some, p_gd, p_br, p_bi, p_nm, p_mp, p_Sl, p_Sr, p_bis, p_gdt, Nat.not_lt_zero, Nat.reduceEqDiff, Nat.reduceLT, Nat.reduceLeDiff, true_and, and_true, true_implies, false_implies, not_true_eq_false, not_false_eq_true, implies_true, and_self, ne_eq, decide_true, decide_false, Bool.not_true, Bool.not_false, if_true, if_false, reduceIte, xk11 s, nI_add, pk_sub]
      rw [show 97 + D - 1 = 96 + D by omega]
      refine x_putC s X (by omega) (by omega) (fun h1 f1 X1 => ?_)
      unfold fX1_putName_b32
      simp (disch := first | assumption | omega) only [p_some, p_gd, p_br, p_bi, p_nm, p_mp, p_Sl, p_Sr, p_bis, p_gdt, Nat.not_lt_zero, Nat.reduceEqDiff, Nat.reduceLT, Nat.reduceLeDiff, true_and, and_true, true_implies, false_implies, not_true_eq_false, not_false_eq_true, implies_true, and_self, ne_eq, decide_true, decide_false, Bool.not_true, Bool.not_false, if_true, if_false, reduceIte]
      refine hP _ ?_
      rw [ev]
      refine ih (by omega) h1 _ Q (f1.s s) X1 (by rw [a_len1]; omega) (fun h2 f2 X2 => k h2 (f1.tr f2) ?_)
      rw [← List.append_assoc]
      exact X2
theorem x_putName {h : z_T} {T : List Nat} {N : Nat} {Q : z_T → Prop} (s : SX h) (X : xT h T) (hL : T.length + 7 ≤ 940) (hN : N < 32 ^ 7) (k : ∀ h', x_fr xCt h h' → xT h' (T ++ a_nt N) → Q h') : p_W (fX1_putName 11 (lN N) h) Q := by
  unfold fX1_putName fX1_putName_b3
  exact x_pnLoop hN 7 (by omega) h T Q s X hL k
theorem m_pwLoop {w : Nat} (hw : w < 256 ^ 7) (hd : ∀ i, i < 7 → w / 256 ^ i % 256 < 128) : ∀ m, m ≤ 7 → ∀ (h : z_T) (T : List Nat) (Q : z_T → Prop), SM h → mT h T → T.length + m ≤ 400 → (∀ h', m_fr mCt h h' → mT h' (T ++ a_ew (fun i => w / 256 ^ i % 256) m) → Q h') → p_W (y_lp (fun q : Int32 × z_T => fX12_putWord_b16_i 0 (lN w) q.1 q.2) (a_v8 m, h)) Q := by
  intro m
  induction m with
  | zero =>
    intro _ h T Q s X hL k
    refine p_unP (fun P hP => ?_)
    unfold fX12_putWord_b16_i
    dsimp only
    rw [p_brT (show a_v8 0 < 0 by decide)]
    simp (disch := first | assumption | omega) only [p_some, p_gd, p_br, p_bi, p_nm, p_mp, p_Sl, p_Sr, p_bis, p_gdt, Nat.not_lt_zero, Nat.reduceEqDiff, Nat.reduceLT, Nat.reduceLeDiff, true_and, and_true, true_implies, false_implies, not_true_eq_false, not_false_eq_true, implies_true, and_self, ne_eq, decide_true, decide_false, Bool.not_true, Bool.not_false, if_true, if_false, reduceIte]
    refine k h m_fr.rf ?_
    rw [a_ew, List.append_nil]
    exact X
  | succ m ih =>
    intro hm h T Q s X hL k
    have dg := s_dg8 (m := m) hw (by omega)
    have dl := hd m (by omega)
    have ev := a_v8_s m (by omega)
    have e1 : a_ew (fun i => w / 256 ^ i % 256) (m + 1) = (if w / 256 ^ m % 256 = 0 then [] else [w / 256 ^ m % 256]) ++ a_ew (fun i => w / 256 ^ i % 256) m := rfl
    rw [show a_v8 (m + 1) = nI (8 * m) from rfl]
    refine p_unP (fun P hP => ?_)
    unfold fX12_putWord_b16_i
    dsimp only
    generalize w / 256 ^ m % 256 = D at *
    simp (disch := first | assumption | omega) only [p_some, p_gd, p_br, p_bi, p_nm, p_mp, p_Sl, p_Sr, p_bis, p_gdt, Nat.not_lt_zero, Nat.reduceEqDiff, Nat.reduceLT, Nat.reduceLeDiff, true_and, and_true, true_implies, false_implies, not_true_eq_false, not_false_eq_true, implies_true, and_self, ne_eq, decide_true, decide_false, Bool.not_true, Bool.not_false, if_true, if_false, reduceIte, r_lit, r_litL, nI_ltI, Nat.not_lt_zero, dg, s_c0, r_eq]
    refine ⟨fun c => ?_, fun c => ?_⟩
    · rw [if_pos c, List.nil_append] at e1
      rw [e1] at k
      unfold fX12_putWord_b44
      simp (disch := first | assumption | omega) only [p_some, p_gd, p_br, p_bi, p_nm, p_mp, p_Sl, p_Sr, p_bis, p_gdt, Nat.not_lt_zero, Nat.reduceEqDiff, Nat.reduceLT, Nat.reduceLeDiff, true_and, and_true, true_implies, false_implies, not_true_eq_false, not_false_eq_true, implies_true, and_self, ne_eq, decide_true, decide_false, Bool.not_true, Bool.not_false, if_true, if_false, reduceIte]
      refine hP _ ?_
      rw [ev]
      exact ih (by omega) h T Q s X (by omega) k
    · rw [if_neg c] at e1
      rw [e1] at k
      simp (disch := first | assumption | omega) only [p_some, p_gd, p_br, p_bi, p_nm, p_mp, p_Sl, p_Sr, p_bis, p_gdt, Nat.not_lt_zero, Nat.reduceEqDiff, Nat.reduceLT, Nat.reduceLeDiff, true_and, and_true, true_implies, false_implies, not_true_eq_false, not_false_eq_true, implies_true, and_self, ne_eq, decide_true, decide_false, Bool.not_true, Bool.not_false, if_true, if_false, reduceIte, mk0 s, show (lN D).toInt32 = nI D from Int64.toInt32_ofNat']
      refine m_putC s X (by omega) dl (fun h1 f1 X1 => ?_)
      unfold fX12_putWord_b44
      simp (disch := first | assumption | omega) only [p_some, p_gd, p_br, p_bi, p_nm, p_mp, p_Sl, p_Sr, p_bis, p_gdt, Nat.not_lt_zero, Nat.reduceEqDiff, Nat.reduceLT, Nat.reduceLeDiff, true_and, and_true, true_implies, false_implies, not_true_eq_false, not_false_eq_true, implies_true, and_self, ne_eq, decide_true, decide_false, Bool.not_true, Bool.not_false, if_true, if_false, reduceIte]
      refine hP _ ?_
      rw [ev]
      refine ih (by omega) h1 _ Q (f1.s s) X1 (by rw [a_len1]; omega) (fun h2 f2 X2 => k h2 (f1.tr f2) ?_)
      rw [← List.append_assoc]
      exact X2
def a_bl (T : List Nat) : List Nat := if T = [] then [] else T ++ [32]
theorem m_putWord {h : z_T} {T : List Nat} {w : Nat} {Q : z_T → Prop} (s : SM h) (X : mT h T) (hL : T.length + 8 ≤ 400) (hw : w < 256 ^ 7) (hd : ∀ i, i < 7 → w / 256 ^ i % 256 < 128) (k : ∀ h', m_fr mCt h h' → mT h' (a_bl T ++ a_ew (fun i => w / 256 ^ i % 256) 7) → Q h') : p_W (fX12_putWord 0 (lN w) h) Q := by
  have e0 : ∀ h1 T1, SM h1 → mT h1 T1 → T1.length + 7 ≤ 400 → (∀ h', m_fr mCt h1 h' → mT h' (T1 ++ a_ew (fun i => w / 256 ^ i % 256) 7) → Q h') → p_W (fX12_putWord_b13 0 (lN w) h1) Q := fun h1 T1 s1 X1 l1 k1 => by
    unfold fX12_putWord_b13 fX12_putWord_b16
    exact m_pwLoop hw hd 7 (by omega) h1 T1 Q s1 X1 l1 k1
  unfold a_bl at k
  unfold fX12_putWord
  by_cases c : T = []
  · subst c
    rw [if_pos rfl] at k
    simp (disch := first | assumption | omega) only [p_some, p_gd, p_br, p_bi, p_nm, p_mp, p_Sl, p_Sr, p_bis, p_gdt, Nat.not_lt_zero, Nat.reduceEqDiff, Nat.reduceLT, Nat.reduceLeDiff, true_and, and_true, true_implies, false_implies, not_true_eq_false, not_false_eq_true, implies_true, and_self, ne_eq, decide_true, decide_false, Bool.not_true, Bool.not_false, if_true, if_false, reduceIte, mk0 s, X.1, r_lit]
    refine ⟨fun _ => e0 h [] s X (by rw [List.length_nil]; omega) k, fun q => absurd ?_ q⟩
    decide
  · rw [if_neg c] at k
    have hl : ¬ T.length ≤ 0 := fun q => c (List.length_eq_zero_iff.mp (by omega))
    simp (disch := first | assumption | omega) only [p_some, p_gd, p_br, p_bi, p_nm, p_mp, p_Sl, p_Sr, p_bis, p_gdt, Nat.not_lt_zero, Nat.reduceEqDiff, Nat.reduceLT, Nat.reduceLeDiff, true_and, and_true, true_implies, false_implies, not_true_eq_false, not_false_eq_true, implies_true, and_self, ne_eq, decide_true, decide_false, Bool.not_true, Bool.not_false, if_true, if_false, reduceIte, mk0 s, X.1, r_lit, nI_leI, hl]
    refine m_putC s X (by omega) (by decide) (fun h1 f1 X1 => ?_)
    exact e0 h1 _ (f1.s s) X1 (by rw [a_len1]; omega) (fun h2 f2 X2 => k h2 (f1.tr f2) X2)
/-! a constant text -/
theorem x_ptLoop {t : Nat} {bs : List Nat} (ht : t < 5) (hl : z_sln.getD t 0 = bs.length) (hb : ∀ i, i < bs.length → (((((z_sby.getD t []).getD i 0) &&& 255).toUInt32 % 65536).toInt32) = nI (bs.getD i 0) ∧ bs.getD i 0 < 128) (h5 : bs.length ≤ 5) : ∀ m h T (Q : z_T → Prop), m ≤ bs.length → SX h → xT h T → T.length + m ≤ 940 → (∀ h', x_fr xCt h h' → xT h' (T ++ bs.drop (bs.length - m)) → Q h') → p_W (y_lp (fun q : Int32 × z_T => fX1_putText_b2_i 11 t q.1 q.2) (nI (bs.length - m), h)) Q := by
  intro m
  induction m with
  | zero =>
    intro h T Q _ s X hL k
    refine p_unP (fun P hP => ?_)
    unfold fX1_putText_b2_i
    dsimp only
    rw [Nat.sub_zero] at k ⊢
    simp (disch := first | assumption | omega) only [p_some, p_gd, p_br, p_bi, p_nm, p_mp, p_Sl, p_Sr, p_bis, p_gdt, Nat.not_lt_zero, Nat.reduceEqDiff, Nat.reduceLT, Nat.reduceLeDiff, true_and, and_true, true_implies, false_implies, not_true_eq_false, not_false_eq_true, implies_true, and_self, ne_eq, decide_true, decide_false, Bool.not_true, Bool.not_false, if_true, if_false, reduceIte, hl, ht, nI_leI, Nat.le_refl]
    refine k h x_fr.rf ?_
    rw [List.drop_length, List.append_nil]
    exact X
  | succ m ih =>
    intro h T Q hm s X hL k
    obtain ⟨b1, b2⟩ := hb (bs.length - (m + 1)) (by omega)
    refine p_unP (fun P hP => ?_)
    unfold fX1_putText_b2_i
    dsimp only
    have ed : bs.drop (bs.length - (m + 1)) = bs.getD (bs.length - (m + 1)) 0 :: bs.drop (bs.length - m) := by
      have hq : bs.length - (m + 1) < bs.length := by omega
      rw [List.drop_eq_getElem_cons hq, List.getD_eq_getElem?_getD, List.getElem?_eq_getElem hq, Option.getD_some, show bs.length - (m + 1) + 1 = bs.length - m by omega]
    rw [ed] at k
    have ih2 := ih
    obtain ⟨j, hj⟩ : ∃ j, bs.length - (m + 1) = j := ⟨_, rfl⟩
    have hj2 : bs.length - m = j + 1 := by omega
    rw [hj] at b1 b2 k ⊢
    rw [hj2] at k ih2
    generalize bs.getD j 0 = C at *
    simp (disch := first | assumption | omega) only [p_some, p_gd, p_br, p_bi, p_nm, p_mp, p_Sl, p_Sr, p_bis, p_gdt, Nat.not_lt_zero, Nat.reduceEqDiff, Nat.reduceLT, Nat.reduceLeDiff, true_and, and_true, true_implies, false_implies, not_true_eq_false, not_false_eq_true, implies_true, and_self, ne_eq, decide_true, decide_false, Bool.not_true, Bool.not_false, if_true, if_false, reduceIte, hl, ht, nI_leI, show ¬ bs.length ≤ j by omega, q_ix, xk11 s, nI_clamp, b1]
    refine x_putC s X (by omega) b2 (fun h1 f1 X1 => ?_)
    simp (disch := first | assumption | omega) only [p_some, p_gd, p_br, p_bi, p_nm, p_mp, p_Sl, p_Sr, p_bis, p_gdt, Nat.not_lt_zero, Nat.reduceEqDiff, Nat.reduceLT, Nat.reduceLeDiff, true_and, and_true, true_implies, false_implies, not_true_eq_false, not_false_eq_true, implies_true, and_self, ne_eq, decide_true, decide_false, Bool.not_true, Bool.not_false, if_true, if_false, reduceIte, r_lit, nI_add, nI_1]
    refine hP _ ?_
    refine ih2 h1 _ Q (by omega) (f1.s s) X1 (by rw [a_len1]; omega) (fun h2 f2 X2 => k h2 (f1.tr f2) ?_)
    rw [List.append_assoc] at X2
    exact X2
theorem x_putText {t : Nat} {bs : List Nat} {h : z_T} {T : List Nat} {Q : z_T → Prop} (ht : t < 5) (hl : z_sln.getD t 0 = bs.length) (hb : ∀ i, i < bs.length → (((((z_sby.getD t []).getD i 0) &&& 255).toUInt32 % 65536).toInt32) = nI (bs.getD i 0) ∧ bs.getD i 0 < 128) (h5 : bs.length ≤ 5) (s : SX h) (X : xT h T) (hL : T.length + 5 ≤ 940) (k : ∀ h', x_fr xCt h h' → xT h' (T ++ bs) → Q h') : p_W (fX1_putText 11 t h) Q := by
  have := x_ptLoop ht hl hb h5 bs.length h T Q (Nat.le_refl _) s X (by omega) (by rw [Nat.sub_self, List.drop_zero]; exact k)
  rw [Nat.sub_self] at this
  unfold fX1_putText fX1_putText_b2
  exact this
theorem s_tx0 : ∀ i, i < 2 → (((((z_sby.getD 0 []).getD i 0) &&& 255).toUInt32 % 65536).toInt32) = nI ([117, 112].getD i 0) ∧ [117, 112].getD i 0 < 128 := by decide +kernel
theorem s_tx1 : ∀ i, i < 3 → (((((z_sby.getD 1 []).getD i 0) &&& 255).toUInt32 % 65536).toInt32) = nI ([98, 101, 100].getD i 0) ∧ [98, 101, 100].getD i 0 < 128 := by decide +kernel
theorem s_tx2 : ∀ i, i < 3 → (((((z_sby.getD 2 []).getD i 0) &&& 255).toUInt32 % 65536).toInt32) = nI ([32, 40, 32].getD i 0) ∧ [32, 40, 32].getD i 0 < 128 := by decide +kernel
theorem s_tx3 : ∀ i, i < 3 → (((((z_sby.getD 3 []).getD i 0) &&& 255).toUInt32 % 65536).toInt32) = nI ([32, 59, 32].getD i 0) ∧ [32, 59, 32].getD i 0 < 128 := by decide +kernel
theorem s_tx4 : ∀ i, i < 2 → (((((z_sby.getD 4 []).getD i 0) &&& 255).toUInt32 % 65536).toInt32) = nI ([32, 41].getD i 0) ∧ [32, 41].getD i 0 < 128 := by decide +kernel
