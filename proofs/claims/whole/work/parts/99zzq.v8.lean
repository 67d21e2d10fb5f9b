/-! nights, as they are read; the reference reads them -/
theorem a_ntL_i {ne : Nat × Nat × Nat × Nat → Nat × Nat × Nat × Nat} {bk nm : Nat → Nat} {n asked : Nat} {t : Nat × Nat × Nat × Nat} {w : a_NS} (h : a_ntL ne bk nm n asked t = .inr w) : (w.1 = 0 ∧ w.2.1 ≤ bk 1 ∧ w.2.2.1 = 0) ∨ (n ≠ 0 ∧ w.1 = 1 ∧ w.2.1 < 2 * bk 0 ∧ asked ≠ 12 ∧ w.2.2.1 = asked + 1) ∨ (n ≠ 0 ∧ (w.1 = 2 ∨ w.1 = 3) ∧ w.2.2.1 = asked) := by
  unfold a_ntL at h
  split at h
  · split at h
    · exact absurd h Sum.inl_ne_inr
    · unfold a_ntI at h
      split at h
      · have e := Sum.inr.inj h
        subst e
        exact Or.inl ⟨rfl, Nat.zero_le _, rfl⟩
      · split at h
        · split at h
          · rename_i c
            have e := Sum.inr.inj h
            subst e
            exact Or.inl ⟨rfl, c, rfl⟩
          · exact absurd h Sum.inl_ne_inr
        · exact absurd h Sum.inl_ne_inr
  · split at h
    · exact absurd h Sum.inl_ne_inr
    · rename_i n0
      split at h
      · split at h
        · exact absurd h Sum.inl_ne_inr
        · have e := Sum.inr.inj h
          subst e
          exact Or.inr (Or.inr ⟨n0, Or.inl rfl, rfl⟩)
      · split at h
        · split at h
          · exact absurd h Sum.inl_ne_inr
          · have e := Sum.inr.inj h
            subst e
            exact Or.inr (Or.inr ⟨n0, Or.inr rfl, rfl⟩)
        · split at h
          · split at h
            · rename_i cF
              split at h
              · exact absurd h Sum.inl_ne_inr
              · rename_i c12
                unfold a_ntA at h
                split at h
                · have e := Sum.inr.inj h
                  subst e
                  exact Or.inr (Or.inl ⟨n0, rfl, by dsimp only; omega, fun q => c12 (Or.inr q), rfl⟩)
                · split at h
                  · have e := Sum.inr.inj h
                    subst e
                    exact Or.inr (Or.inl ⟨n0, rfl, by dsimp only; omega, fun q => c12 (Or.inr q), rfl⟩)
                  · exact absurd h Sum.inl_ne_inr
            · exact absurd h Sum.inl_ne_inr
          · exact absurd h Sum.inl_ne_inr
def a_nts (ne : Nat × Nat × Nat × Nat → Nat × Nat × Nat × Nat) (bk nm : Nat → Nat) : Nat → Nat → Nat → (Nat → Nat) → (Nat → Nat) → (Nat × Nat × Nat × Nat) → (Nat × Nat) ⊕ (Nat × (Nat → Nat) × (Nat → Nat))
  | 0, n, _, ac, va, _ => .inr (n, ac, va)
  | m + 1, n, asked, ac, va, t => if t.1 = 0 then .inr (n, ac, va) else a_bd (a_ntL ne bk nm n asked t) fun w => if w.2.2.2.1 = 59 then a_nts ne bk nm m (n + 1) w.2.2.1 (a_ud ac n w.1) (a_ud va n w.2.1) (ne w.2.2.2) else .inl (1, w.2.2.2.2.2.1)
/-- how many answers the night has before line i -/
def a_as (ac : Nat → Nat) : Nat → Nat
  | 0 => 0
  | i + 1 => if ac i = 0 then 0 else if ac i = 1 then a_as ac i + 1 else a_as ac i
def WL (bk ac va : Nat → Nat) (n asked : Nat) : Prop := n ≤ 40 ∧ asked = a_as ac n ∧ asked ≤ 12 ∧ (0 < n → ac 0 = 0) ∧ ∀ i, i < n → ac i ≤ 3 ∧ (ac i = 0 → va i ≤ bk 1) ∧ (ac i = 1 → va i < 2 * bk 0 ∧ a_as ac i < 12)
theorem a_as_cg {ac ac' : Nat → Nat} : ∀ {n}, (∀ i, i < n → ac' i = ac i) → a_as ac' n = a_as ac n
  | 0, _ => rfl
  | n + 1, h => by rw [a_as, a_as, h n (by omega), a_as_cg (fun i hi => h i (by omega))]
theorem WL.go {bk nm ac va : Nat → Nat} {ne : Nat × Nat × Nat × Nat → Nat × Nat × Nat × Nat} {n asked : Nat} {t : Nat × Nat × Nat × Nat} {w : a_NS} (W : WL bk ac va n asked) (h : a_ntL ne bk nm n asked t = .inr w) (hn : n < 40) : WL bk (a_ud ac n w.1) (a_ud va n w.2.1) (n + 1) w.2.2.1 := by
  obtain ⟨w1, w2, w3, w4, w5⟩ := W
  have c := a_ntL_i h
  have old : ∀ i, i < n → a_ud ac n w.1 i = ac i := fun i hi => a_ud_n (by omega)
  have olds : ∀ i, i ≤ n → a_as (a_ud ac n w.1) i = a_as ac i := fun i hi => a_as_cg (fun j hj => old j (by omega))
  have es : a_as (a_ud ac n w.1) (n + 1) = if w.1 = 0 then 0 else if w.1 = 1 then a_as ac n + 1 else a_as ac n := by
    rw [a_as, a_ud_e, olds n (Nat.le_refl n)]
  refine ⟨by omega, ?_, by omega, fun _ => ?_, fun i hi => ?_⟩
  · rw [es]
    rcases c with ⟨c1, c2, c3⟩ | ⟨c0, c1, c2, c3, c4⟩ | ⟨c0, c1, c2⟩
    · rw [if_pos c1]; exact c3
    · rw [if_neg (by omega), if_pos c1]; omega
    · rw [if_neg (by omega), if_neg (by omega)]; omega
  · by_cases e : n = 0
    · subst e
      rw [a_ud_e]
      omega
    · rw [old 0 (by omega)]
      exact w4 (by omega)
  · by_cases e : i = n
    · subst e
      rw [a_ud_e, a_ud_e, olds i (Nat.le_refl i)]
      refine ⟨by omega, fun q => by omega, fun q => by omega⟩
    · rw [old i (by omega), a_ud_n e, olds i (by omega)]
      exact w5 i (by omega)
theorem a_nts_ok {ne : Nat × Nat × Nat × Nat → Nat × Nat × Nat × Nat} {bk nm : Nat → Nat} (hne : ∀ n asked t w, a_ntL ne bk nm n asked t = .inr w → n ≤ 40 → n < 40) : ∀ m n asked ac va t w, WL bk ac va n asked → a_nts ne bk nm m n asked ac va t = .inr w → ∃ asked', WL bk w.2.1 w.2.2 w.1 asked'
  | 0, n, asked, ac, va, t, w, W, h => by
    have e := Sum.inr.inj h
    subst e
    exact ⟨asked, W⟩
  | m + 1, n, asked, ac, va, t, w, W, h => by
    rw [a_nts] at h
    split at h
    · have e := Sum.inr.inj h
      subst e
      exact ⟨asked, W⟩
    · obtain ⟨v, e1, h⟩ := a_bd_i h
      split at h
      · exact a_nts_ok hne m _ _ _ _ _ w (W.go e1 (hne _ _ _ _ e1 W.1)) h
      · exact absurd h Sum.inl_ne_inr
theorem a_ntL_40 {ne : Nat × Nat × Nat × Nat → Nat × Nat × Nat × Nat} {bk nm : Nat → Nat} {n asked : Nat} {t : Nat × Nat × Nat × Nat} {w : a_NS} (h : a_ntL ne bk nm n asked t = .inr w) (hn : n ≤ 40) : n < 40 := by
  refine Classical.byContradiction (fun z => ?_)
  have e : n = 40 := by omega
  subst e
  unfold a_ntL at h
  split at h
  · rw [if_pos rfl] at h
    exact absurd h Sum.inl_ne_inr
  · split at h
    · exact absurd h Sum.inl_ne_inr
    · split at h
      · rw [if_pos rfl] at h
        exact absurd h Sum.inl_ne_inr
      · split at h
        · rw [if_pos rfl] at h
          exact absurd h Sum.inl_ne_inr
        · split at h
          · split at h
            · rw [if_pos (Or.inl rfl)] at h
              exact absurd h Sum.inl_ne_inr
            · exact absurd h Sum.inl_ne_inr
          · exact absurd h Sum.inl_ne_inr
def mRd (h : z_T) (ac va : Nat → Nat) (n : Nat) : Prop := ∀ i, i < n → z_I h 4 (2 * i) = nI (ac i) ∧ (ac i ≤ 1 → z_I h 4 (2 * i + 1) = nI (va i))
def mNg (o k : Nat) : Prop := mGF o k ∧ (o ≠ 0 ∨ (k ≠ 41 ∧ k ≠ 42)) ∧ o ≠ 4
theorem m_ntLoop {by8 : Nat → Nat} {L : Nat} {bk nm : Nat → Nat} {Q : Int32 × z_T → Prop} (b : BOK bk) (N : NMO bk nm) : ∀ m (h : z_T) n asked (ac va : Nat → Nat) t, m + n = 41 → WL bk ac va n asked → mL by8 L 400 h t → mB h bk → mNm h bk nm → z_I h 0 41 = nI n → z_I h 0 42 = nI asked → mRd h ac va n →
    (∀ h' e, a_nts (a_ne by8 L 400) bk nm m n asked ac va t = .inl e → m_fr mNg h h' → mF h' e → Q (-nI 2 - nI e.2, h')) →
    (∀ h' w, a_nts (a_ne by8 L 400) bk nm m n asked ac va t = .inr w → m_fr mNg h h' → z_I h' 0 15 = nI 0 → z_I h' 0 41 = nI w.1 → mRd h' w.2.1 w.2.2 w.1 → p_W (fX12_tries 0 h') (fun h44 => p_W (fX12_nights_b81 0 (nI 0) h44) Q)) →
    p_W (y_lp (fun q => fX12_nights_b31_i 0 q) h) Q := by
  intro m
  have s10 : (nI 1 = nI 0) = False := by decide
  induction m with
  | zero =>
    intro h n asked ac va t hm W
    have := W.1
    omega
  | succ m ih =>
    intro h n asked ac va t hm W l hB hM h41 h42 R k0 k1
    have s := l.1
    have tk := l.2.2.1.k
    refine p_unP (fun P hP => ?_)
    rw [a_nts] at k0 k1
    unfold fX12_nights_b31_i
    by_cases c0 : t.1 = 0
    · rw [if_pos c0] at k1
      have g0 := tk.2.2.2.2.2.2.2.2.1 c0
      have kk := k1 h _ rfl m_fr.rf l.2.2.2.2.2.2.2 h41 R
      simp (disch := first | assumption | omega) only [p_some, p_gd, p_br, p_bi, p_nm, p_mp, p_Sl, p_Sr, p_bis, p_gdt, Nat.not_lt_zero, Nat.reduceEqDiff, Nat.reduceLT, Nat.reduceLeDiff, true_and, and_true, true_implies, false_implies, not_true_eq_false, not_false_eq_true, implies_true, and_self, ne_eq, decide_true, decide_false, Bool.not_true, Bool.not_false, if_true, if_false, reduceIte, mk0 s, r_lit, g0]
      exact kk
    · rw [if_neg c0] at k0 k1
      have g0 := tk.2.2.2.2.2.2.2.2.2 c0
      simp (disch := first | assumption | omega) only [p_some, p_gd, p_br, p_bi, p_nm, p_mp, p_Sl, p_Sr, p_bis, p_gdt, Nat.not_lt_zero, Nat.reduceEqDiff, Nat.reduceLT, Nat.reduceLeDiff, true_and, and_true, true_implies, false_implies, not_true_eq_false, not_false_eq_true, implies_true, and_self, ne_eq, decide_true, decide_false, Bool.not_true, Bool.not_false, if_true, if_false, reduceIte, mk0 s, r_lit, g0]
      have b54 : ∀ h1 e, mF h1 e → SM h1 → (Q (-nI 2 - nI e.2, h1)) → p_W (fX12_nights_b54 0 h1) Q := fun h1 e g s1 q => by
        unfold fX12_nights_b54
        simp (disch := first | assumption | omega) only [p_some, p_gd, p_br, p_bi, p_nm, p_mp, p_Sl, p_Sr, p_bis, p_gdt, Nat.not_lt_zero, Nat.reduceEqDiff, Nat.reduceLT, Nat.reduceLeDiff, true_and, and_true, true_implies, false_implies, not_true_eq_false, not_false_eq_true, implies_true, and_self, ne_eq, decide_true, decide_false, Bool.not_true, Bool.not_false, if_true, if_false, reduceIte, mk0 s1, r_lit, g.2]
        exact q
      have ng : ∀ h1 h2, m_fr (mNf n) h1 h2 → m_fr mNg h1 h2 := fun h1 h2 f => f.w (fun o k c => by obtain ⟨c1, c2, c3⟩ := c; exact ⟨c1, by omega, by omega⟩)
      refine m_nightLine l b hB N hM W.1 W.2.2.1 h41 h42 (fun h1 e q f g => ?_) (fun h1 w q hn f g => ?_)
      · simp (disch := first | assumption | omega) only [p_some, p_gd, p_br, p_bi, p_nm, p_mp, p_Sl, p_Sr, p_bis, p_gdt, Nat.not_lt_zero, Nat.reduceEqDiff, Nat.reduceLT, Nat.reduceLeDiff, true_and, and_true, true_implies, false_implies, not_true_eq_false, not_false_eq_true, implies_true, and_self, ne_eq, decide_true, decide_false, Bool.not_true, Bool.not_false, if_true, if_false, reduceIte, r_lit]
        exact b54 h1 e g (f.s s) (k0 h1 e (by rw [q, a_bdl]) (ng _ _ f) g)
      · obtain ⟨l1, g42, gw, gv⟩ := g
        have s1 := l1.1
        have W1 := W.go q hn
        simp (disch := first | assumption | omega) only [p_some, p_gd, p_br, p_bi, p_nm, p_mp, p_Sl, p_Sr, p_bis, p_gdt, Nat.not_lt_zero, Nat.reduceEqDiff, Nat.reduceLT, Nat.reduceLeDiff, true_and, and_true, true_implies, false_implies, not_true_eq_false, not_false_eq_true, implies_true, and_self, ne_eq, decide_true, decide_false, Bool.not_true, Bool.not_false, if_true, if_false, reduceIte, r_lit, s10, mk0 s1]
        refine m_sign (c := 59) l1 (by decide) (fun h2 c59 f2 g2 => ?_) (fun h2 c59 f2 l2 => ?_)
        · simp (disch := first | assumption | omega) only [p_some, p_gd, p_br, p_bi, p_nm, p_mp, p_Sl, p_Sr, p_bis, p_gdt, Nat.not_lt_zero, Nat.reduceEqDiff, Nat.reduceLT, Nat.reduceLeDiff, true_and, and_true, true_implies, false_implies, not_true_eq_false, not_false_eq_true, implies_true, and_self, ne_eq, decide_true, decide_false, Bool.not_true, Bool.not_false, if_true, if_false, reduceIte, r_lit]
          exact b54 h2 _ g2 (f2.s s1) (k0 h2 _ (by rw [q, a_bdr, if_neg c59]) ((ng _ _ f).tr (f2.w (fun o k c => c.1))) g2)
        · have s2 := l2.1
          rw [q, a_bdr, if_pos c59] at k0 k1
          have F2 : m_fr mNg h h2 := (ng _ _ f).tr (f2.w (fun o k c => c.1))
          have e41 : z_I h2 0 41 = nI n := (f2.I 0 41 (by unfold mGF; omega)).trans ((f.I 0 41 (by unfold mNf mGF; omega)).trans h41)
          have F3 : m_fr mNg h (z_sI h2 0 41 (nI (n + 1))) := F2.sI (by unfold mNg; omega)
          have l3 : mL by8 L 400 (z_sI h2 0 41 (nI (n + 1))) (a_ne by8 L 400 w.2.2.2) := l2.fr (C := fun o k => o ≠ 0 ∨ k ≠ 41) (m_fr.rf.sI (by omega)) (fun o k c => by unfold mKt at c; omega)
          have R3 : mRd (z_sI h2 0 41 (nI (n + 1))) (a_ud ac n w.1) (a_ud va n w.2.1) (n + 1) := fun i hi => by
            by_cases e : i = n
            · subst e
              rw [a_ud_e, a_ud_e]
              exact ⟨(q_In (by omega)).trans ((f2.I 4 _ (by unfold mGF; omega)).trans gw), fun z => (q_In (by omega)).trans ((f2.I 4 _ (by unfold mGF; omega)).trans (gv z))⟩
            · rw [a_ud_n e, a_ud_n e]
              obtain ⟨r1, r2⟩ := R i (by omega)
              exact ⟨(q_In (by omega)).trans ((f2.I 4 _ (by unfold mGF; omega)).trans ((f.I 4 _ (by unfold mNf mGF; omega)).trans r1)), fun z => (q_In (by omega)).trans ((f2.I 4 _ (by unfold mGF; omega)).trans ((f.I 4 _ (by unfold mNf mGF; omega)).trans (r2 z)))⟩
          have hB3 : mB (z_sI h2 0 41 (nI (n + 1))) bk := fun k hk => (F3.I 2 k (by unfold mNg mGF; omega)).trans (hB k hk)
          have hM3 : mNm (z_sI h2 0 41 (nI (n + 1))) bk nm := ⟨fun k hk => (F3.L 5 k (by unfold mNg mGF; omega)).trans (hM.1 k hk), fun k hk => (F3.L 5 _ (by unfold mNg mGF; omega)).trans (hM.2 k hk)⟩
          simp (disch := first | assumption | omega) only [p_some, p_gd, p_br, p_bi, p_nm, p_mp, p_Sl, p_Sr, p_bis, p_gdt, Nat.not_lt_zero, Nat.reduceEqDiff, Nat.reduceLT, Nat.reduceLeDiff, true_and, and_true, true_implies, false_implies, not_true_eq_false, not_false_eq_true, implies_true, and_self, ne_eq, decide_true, decide_false, Bool.not_true, Bool.not_false, if_true, if_false, reduceIte, mk0 s2, e41, nI_add, r_lit, s10]
          refine hP _ ?_
          exact ih _ _ _ _ _ _ (by omega) W1 l3 hB3 hM3 (q_Ie rfl rfl) ((q_In (by omega)).trans ((f2.I 0 42 (by unfold mGF; omega)).trans g42)) R3 (fun h4 e q4 f4 g4 => k0 h4 e q4 (F3.tr f4) g4) (fun h4 w4 q4 f4 g4 g5 g6 => k1 h4 w4 q4 (F3.tr f4) g4 g5 g6)
