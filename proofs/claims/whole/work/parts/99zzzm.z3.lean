/-! the reference's loop comes to the operands of a sentence -/
theorem m_stE {by8 : Nat → Nat} {L lim : Nat} {h : z_T} {t : a_tk} {cf : Nat → Nat} {c n dp a b k : Nat} {Q : Int32 × z_T → Prop} (l : mL by8 L lim h t) (t0 : t.1 = 0) (h52 : z_I h 0 52 = nI 1) (p : mPd h n cf c dp a b k) (hc : c ≤ 44) (hn : n + k ≤ 44) (hd : dp + a < 100) (hS : mSk h n (fun x => ¬ x = 20 ∧ ¬ x = 21 ∧ ¬ x = 22))
    (K1 : ∀ h', n = 0 → m_fr mDf h h' → mCd h' cf c → p_W (y_lp SLP (nI 0, h')) Q) (K0 : ∀ h', ¬ n = 0 → m_fr (mSf n) h h' → mF h' (1, t.2.2.1) → Q (m1 - nI t.2.2.1, h')) : p_W (y_lp SLP (nI 1, h)) Q := by
  have s := l.1
  have h11 := l.2.2.1.k.2.2.2.2.2.2.2.2.1 t0
  refine p_unP (fun P hP => ?_)
  show p_W (fX12_sentence_b48_i 0 (nI 1) h) (p_S P Q)
  unfold fX12_sentence_b48_i
  simp (disch := first | assumption | omega) only [p_some, p_gd, p_br, p_bi, p_nm, p_mp, p_Sl, p_Sr, p_bis, p_gdt, Nat.not_lt_zero, Nat.reduceEqDiff, Nat.reduceLT, Nat.reduceLeDiff, true_and, and_true, true_implies, false_implies, not_true_eq_false, not_false_eq_true, implies_true, and_self, ne_eq, decide_true, decide_false, Bool.not_true, Bool.not_false, if_true, if_false, reduceIte, r_lit, s_10, mk0 s, h52, h11]
  refine m_nots s p hc (by omega) hd (fun _ => hS.i (fun x q => q.1)) (fun h1 f1 p1 => ?_)
  have s1 := f1.s s
  simp (disch := first | assumption | omega) only [p_some, p_gd, p_br, p_bi, p_nm, p_mp, p_Sl, p_Sr, p_bis, p_gdt, Nat.not_lt_zero, Nat.reduceEqDiff, Nat.reduceLT, Nat.reduceLeDiff, true_and, and_true, true_implies, false_implies, not_true_eq_false, not_false_eq_true, implies_true, and_self, ne_eq, decide_true, decide_false, Bool.not_true, Bool.not_false, if_true, if_false, reduceIte, mk0 s1]
  refine m_joins22 s1 p1 hc (by omega) ((hS.fr f1 (fun k _ => by unfold mDf; omega)).i (fun x q => q.2)) (fun h2 f2 q3 q4 q5 => ?_)
  have s2 := f2.s s1
  have F2 := f1.tr f2
  simp (disch := first | assumption | omega) only [p_some, p_gd, p_br, p_bi, p_nm, p_mp, p_Sl, p_Sr, p_bis, p_gdt, Nat.not_lt_zero, Nat.reduceEqDiff, Nat.reduceLT, Nat.reduceLeDiff, true_and, and_true, true_implies, false_implies, not_true_eq_false, not_false_eq_true, implies_true, and_self, ne_eq, decide_true, decide_false, Bool.not_true, Bool.not_false, if_true, if_false, reduceIte, mk0 s2, q4, nI_leI]
  refine ⟨fun e => ?_, fun e => ?_⟩
  · exact hP _ (K1 h2 (by omega) F2 q3)
  · refine m_bad (F := 1) (l.df F2) (fun h3 f3 g3 => ?_)
    simp (disch := first | assumption | omega) only [p_some, p_gd, p_br, p_bi, p_nm, p_mp, p_Sl, p_Sr, p_bis, p_gdt, Nat.not_lt_zero, Nat.reduceEqDiff, Nat.reduceLT, Nat.reduceLeDiff, true_and, and_true, true_implies, false_implies, not_true_eq_false, not_false_eq_true, implies_true, and_self, ne_eq, decide_true, decide_false, Bool.not_true, Bool.not_false, if_true, if_false, reduceIte, mk0 (f3.s s2), g3.2, r_m1]
    exact K0 h3 (by omega) ((mSf.df F2).tr (mSf.gf f3)) g3
theorem mPd.push {h : z_T} {n c dp a b k code : Nat} {cf : Nat → Nat} (p : mPd h (n + 1) cf c dp a b k) (g : z_I h 18 n = nI code) :
    (code = 21 → a = k → b = k → mPd h n (a_cpu cf c code 0 0) (c + 1) dp a (k + 1) (k + 1)) ∧ (code = 22 → b = k → mPd h n (a_cpu cf c code 0 0) (c + 1) dp a b (k + 1)) ∧ (code = 20 → a = k → ∀ D, dp = D + 1 → mPd h n (a_cpu cf c code 0 0) (c + 1) D (k + 1) (k + 1) (k + 1)) := by
  obtain ⟨c0, p1, p2, p3, p4, p5, p6⟩ := p
  have e50 : z_I h 0 50 = nI (n + (k + 1)) := by rw [p4]; congr 1; omega
  have C : mCd h (a_cpu cf c code 0 0) c0 := ⟨p3.1, fun i hi => by rw [a_cpu_lo (by omega)]; exact p3.2 i hi⟩
  have st : ∀ a' b', (∀ i, i < k → (if i < a then 20 else if i < b then 21 else 22) = (if i < a' then 20 else if i < b' then 21 else 22)) → code = (if k < a' then 20 else if k < b' then 21 else 22) → ∀ i, i < k + 1 → z_I h 18 (n + (k + 1) - 1 - i) = nI (a_cpu cf c code 0 0 (3 * (c0 + i))) ∧ a_cpu cf c code 0 0 (3 * (c0 + i)) = (if i < a' then 20 else if i < b' then 21 else 22) ∧ a_cpu cf c code 0 0 (3 * (c0 + i) + 1) = 0 ∧ a_cpu cf c code 0 0 (3 * (c0 + i) + 2) = 0 := fun a' b' e1 e2 i hi => by
    by_cases e : i = k
    · subst e
      rw [← p1, a_cpu_0, a_cpu_1, a_cpu_2, show n + (i + 1) - 1 - i = n by omega]
      exact ⟨g, e2, rfl, rfl⟩
    · obtain ⟨q1, q2, q3, q4⟩ := p6 i (by omega)
      rw [a_cpu_lo (by omega), a_cpu_lo (by omega), a_cpu_lo (by omega), show n + (k + 1) - 1 - i = n + 1 + k - 1 - i by omega]
      exact ⟨q1, q2.trans (e1 i (by omega)), q3, q4⟩
  refine ⟨fun e ea eb => ?_, fun e eb => ?_, fun e ea D eD => ?_⟩
  · refine ⟨c0, by omega, by omega, C, e50, p5, st a (k + 1) (fun i hi => ?_) ?_⟩
    · rw [if_pos (by omega), if_pos (by omega)]
    · rw [if_neg (by omega), if_pos (by omega)]; exact e
  · refine ⟨c0, by omega, by omega, C, e50, p5, st a b (fun i hi => rfl) ?_⟩
    rw [if_neg (by omega), if_neg (by omega)]; exact e
  · refine ⟨c0, by omega, by omega, C, e50, by rw [p5, eD, ea]; congr 1; omega, st (k + 1) (k + 1) (fun i hi => ?_) ?_⟩
    · rw [if_pos (by omega), if_pos (by omega)]
    · rw [if_pos (by omega)]; exact e
def mHP (by8 : Nat → Nat) (L lim : Nat) (bk nm : Nat → Nat) (d N : Nat) (E : Nat → Nat → Nat → Prop) (T : Nat → Prop) (P : a_CP) : Prop :=
  ∀ n cf c o (h : z_T) (t : a_tk) (Q : Int32 × z_T → Prop), n + 3 * d ≤ N → c ≤ 2 * o → o ≤ 20 → WFC (bk 1) cf c → mL by8 L lim h t → mB h bk → mNm h bk nm → mCd h cf c → z_I h 0 49 = nI o → z_I h 0 50 = nI n → z_I h 0 51 = nI (9 - d) → z_I h 0 52 = nI 0 → mSk h n T →
    (∀ h' e, P cf c o t = .inl e → m_fr (mSf n) h h' → mF h' e → Q (m1 - nI e.2, h')) →
    (∀ h' v a b k, P cf c o t = .inr v → E a b k → a ≤ d → m_fr (mSf n) h h' → mL by8 L lim h' v.2.2.2 → mPd h' n v.1 v.2.1 (9 - d) a b k → z_I h' 0 49 = nI v.2.2.1 → z_I h' 0 52 = nI 1 → p_W (y_lp SLP (nI 1, h')) Q) →
    p_W (y_lp SLP (nI 1, h)) Q
theorem mB.sf {n : Nat} {h h' : z_T} {bk : Nat → Nat} (hB : mB h bk) (f : m_fr (mSf n) h h') : mB h' bk := fun k hk => (f.I 2 k (by unfold mSf mGF; omega)).trans (hB k hk)
theorem mNm.sf {n : Nat} {h h' : z_T} {bk nm : Nat → Nat} (hM : mNm h bk nm) (f : m_fr (mSf n) h h') : mNm h' bk nm := ⟨fun k hk => (f.L 5 k (by unfold mSf mGF; omega)).trans (hM.1 k hk), fun k hk => (f.L 5 _ (by unfold mSf mGF; omega)).trans (hM.2 k hk)⟩
section MHP
variable {by8 : Nat → Nat} {L lim : Nat} {bk nm : Nat → Nat} {d : Nat} {P : a_CP}
theorem mj_all (hd : d ≤ 8) (hP : mHP by8 L lim bk nm d 26 (fun a b k => a = k ∧ b = k) (fun _ => True) P) (hR : ∀ cf c o t v, WFC (bk 1) cf c → P cf c o t = .inr v → a_rel (bk 1) cf c o v) : ∀ m n cf c o (h : z_T) (t : a_tk) a k (Q : Int32 × z_T → Prop), n + 3 * d ≤ 25 → c + 1 ≤ 2 * o → o ≤ 20 → WFC (bk 1) cf c → 1 ≤ a_ht cf c → mL by8 L lim h t → mB h bk → mNm h bk nm → a ≤ d → mPd h n cf c (9 - d) a k k → z_I h 0 49 = nI o → z_I h 0 52 = nI 1 → mSk h n (fun x => ¬ x = 20 ∧ ¬ x = 21) →
    (∀ h' e, a_jn (a_ne by8 L lim) P 16 21 m cf c o t = .inl e → m_fr (mSf n) h h' → mF h' e → Q (m1 - nI e.2, h')) →
    (∀ h' v a b k, a_jn (a_ne by8 L lim) P 16 21 m cf c o t = .inr v → b = k → a ≤ d → m_fr (mSf n) h h' → mL by8 L lim h' v.2.2.2 → mPd h' n v.1 v.2.1 (9 - d) a b k → z_I h' 0 49 = nI v.2.2.1 → z_I h' 0 52 = nI 1 → p_W (y_lp SLP (nI 1, h')) Q) →
    p_W (y_lp SLP (nI 1, h)) Q := by
  intro m
  induction m with
  | zero =>
    intro n cf c o h t a k Q hn hc ho W h1 l hB hM ha p h49 h52 hS k0 k1
    exact k1 h _ a k k rfl rfl ha m_fr.rf l p h49 h52
  | succ m ih =>
    intro n cf c o h t a k Q hn hc ho W h1 l hB hM ha p h49 h52 hS k0 k1
    by_cases ck : a_kk t = 16
    · rw [a_jn_s ck] at k0 k1
      have t2 := a_kk1 (t := t) (by omega)
      have kb := p
      obtain ⟨c0, -, pk, -⟩ := kb
      refine m_stB l.1 h52 (l.2.2.1.k.2.2.2.2.2.2.2.2.2 (by omega)) ?_
      refine mb_and l p ck (by omega) (by omega) (by omega) hS (fun h2 f2 l2 C2 e50 e51 e18 e52 e49 => ⟨l2.1, Or.inr ⟨rfl, ?_⟩⟩)
      refine hP (n + 1) cf c o h2 _ Q (by omega) (by omega) ho W l2 (hB.sf f2) (hM.sf f2) C2 (e49.trans h49) e50 e51 e52 (Or.inr ⟨21, by omega, trivial, by rw [Nat.add_sub_cancel]; exact e18⟩) (fun h3 e q f g => ?_) (fun h3 v a' b' k' q E ha' f3 l3 p3 j49 j52 => ?_)
      · exact k0 h3 e (by rw [q, a_bdl]) (f2.tr (mSf.up (by omega) f)) g
      · obtain ⟨r1, r2, r3, r4, r5, r6, r7⟩ := hR _ _ _ _ _ W q
        obtain ⟨rfl, rfl⟩ := E
        rw [q, a_bdr] at k0 k1
        have F3 := f2.tr (mSf.up (n := n) (by omega) f3)
        have j18 : z_I h3 18 n = nI 21 := (f3.I 18 n (by unfold mSf mGF; omega)).trans e18
        refine ih n _ _ _ h3 _ b' (b' + 1) Q hn (by omega) r6 (r2.pu (by omega) (by omega) (by omega)) ?_ l3 (hB.sf F3) (hM.sf F3) ha' ((p3.push j18).1 rfl rfl rfl) j49 j52 (hS.fr F3 (fun k hk => by unfold mSf mGF; omega)) (fun h4 e q f g => k0 h4 e q (F3.tr f) g) (fun h4 u a b k q E ha f l p i49 i52 => k1 h4 u a b k q E ha (F3.tr f) l p i49 i52)
        rw [a_ht_pu, if_neg (by omega), if_neg (by omega)]
        omega
    · rw [a_jn_e ck] at k1
      exact k1 h _ a k k rfl rfl ha m_fr.rf l p h49 h52
theorem mh_all (hd : d ≤ 8) (hP : mHP by8 L lim bk nm d 26 (fun a b k => a = k ∧ b = k) (fun _ => True) P) (hR : ∀ cf c o t v, WFC (bk 1) cf c → P cf c o t = .inr v → a_rel (bk 1) cf c o v) : mHP by8 L lim bk nm d 25 (fun _ b k => b = k) (fun x => ¬ x = 20 ∧ ¬ x = 21) (a_al1 (a_ne by8 L lim) P) := by
  intro n cf c o h t Q hn hc ho W l hB hM hC h49 h50 h51 h52 hS k0 k1
  have k0' := fun h' e q => k0 h' e (show a_bd (P cf c o t) _ = .inl e from q)
  have k1' := fun h' v a b k q => k1 h' v a b k (show a_bd (P cf c o t) _ = .inr v from q)
  clear k0 k1
  refine hP n cf c o h t Q (by omega) hc ho W l hB hM hC h49 h50 h51 h52 (hS.i (fun _ _ => trivial)) (fun h3 e q f g => ?_) (fun h3 v a' b' k' q E ha' f3 l3 p3 j49 j52 => ?_)
  · exact k0' h3 e (by rw [q, a_bdl]) f g
  · obtain ⟨r1, r2, r3, r4, r5, r6, r7⟩ := hR _ _ _ _ _ W q
    obtain ⟨rfl, rfl⟩ := E
    rw [q, a_bdr] at k0' k1'
    exact mj_all hd hP hR 20 n _ _ _ h3 _ b' b' Q hn (by omega) r6 r2 (by omega) l3 (hB.sf f3) (hM.sf f3) ha' p3 j49 j52 (hS.fr f3 (fun k hk => by unfold mSf mGF; omega)) (fun h4 e q f g => k0' h4 e q (f3.tr f) g) (fun h4 u a b k q E ha f l p i49 i52 => k1' h4 u a b k q E ha (f3.tr f) l p i49 i52)
theorem mj_cond (hd : d ≤ 8) (hP : mHP by8 L lim bk nm d 25 (fun _ b k => b = k) (fun x => ¬ x = 20 ∧ ¬ x = 21) P) (hR : ∀ cf c o t v, WFC (bk 1) cf c → P cf c o t = .inr v → a_rel (bk 1) cf c o v) : ∀ m n cf c o (h : z_T) (t : a_tk) a b k (Q : Int32 × z_T → Prop), n + 3 * d ≤ 24 → c + 1 ≤ 2 * o → o ≤ 20 → WFC (bk 1) cf c → 1 ≤ a_ht cf c → mL by8 L lim h t → mB h bk → mNm h bk nm → a ≤ d → mPd h n cf c (9 - d) a b k → z_I h 0 49 = nI o → z_I h 0 52 = nI 1 → mSk h n (fun x => ¬ x = 20 ∧ ¬ x = 21 ∧ ¬ x = 22) →
    (∀ h' e, a_jn (a_ne by8 L lim) P 15 22 m cf c o t = .inl e → m_fr (mSf n) h h' → mF h' e → Q (m1 - nI e.2, h')) →
    (∀ h' v a b k, a_jn (a_ne by8 L lim) P 15 22 m cf c o t = .inr v → True → a ≤ d → m_fr (mSf n) h h' → mL by8 L lim h' v.2.2.2 → mPd h' n v.1 v.2.1 (9 - d) a b k → z_I h' 0 49 = nI v.2.2.1 → z_I h' 0 52 = nI 1 → p_W (y_lp SLP (nI 1, h')) Q) →
    p_W (y_lp SLP (nI 1, h)) Q := by
  intro m
  induction m with
  | zero =>
    intro n cf c o h t a b k Q hn hc ho W h1 l hB hM ha p h49 h52 hS k0 k1
    exact k1 h _ a b k rfl trivial ha m_fr.rf l p h49 h52
  | succ m ih =>
    intro n cf c o h t a b k Q hn hc ho W h1 l hB hM ha p h49 h52 hS k0 k1
    by_cases ck : a_kk t = 15
    · rw [a_jn_s ck] at k0 k1
      have t2 := a_kk1 (t := t) (by omega)
      have kb := p
      obtain ⟨c0, -, pk, -⟩ := kb
      refine m_stB l.1 h52 (l.2.2.1.k.2.2.2.2.2.2.2.2.2 (by omega)) ?_
      refine mb_or l p ck (by omega) (by omega) (by omega) hS (fun h2 f2 l2 C2 e50 e51 e18 e52 e49 => ⟨l2.1, Or.inr ⟨rfl, ?_⟩⟩)
      refine hP (n + 1) cf c o h2 _ Q (by omega) (by omega) ho W l2 (hB.sf f2) (hM.sf f2) C2 (e49.trans h49) e50 e51 e52 (Or.inr ⟨22, by omega, by omega, by rw [Nat.add_sub_cancel]; exact e18⟩) (fun h3 e q f g => ?_) (fun h3 v a' b' k' q E ha' f3 l3 p3 j49 j52 => ?_)
      · exact k0 h3 e (by rw [q, a_bdl]) (f2.tr (mSf.up (by omega) f)) g
      · obtain ⟨r1, r2, r3, r4, r5, r6, r7⟩ := hR _ _ _ _ _ W q
        have E' : b' = k' := E
        subst E'
        rw [q, a_bdr] at k0 k1
        have F3 := f2.tr (mSf.up (n := n) (by omega) f3)
        have j18 : z_I h3 18 n = nI 22 := (f3.I 18 n (by unfold mSf mGF; omega)).trans e18
        refine ih n _ _ _ h3 _ a' b' (b' + 1) Q hn (by omega) r6 (r2.pu (by omega) (by omega) (by omega)) ?_ l3 (hB.sf F3) (hM.sf F3) ha' ((p3.push j18).2.1 rfl rfl) j49 j52 (hS.fr F3 (fun k hk => by unfold mSf mGF; omega)) (fun h4 e q f g => k0 h4 e q (F3.tr f) g) (fun h4 u a b k q E ha f l p i49 i52 => k1 h4 u a b k q E ha (F3.tr f) l p i49 i52)
        rw [a_ht_pu, if_neg (by omega), if_neg (by omega)]
        omega
    · rw [a_jn_e ck] at k1
      exact k1 h _ a b k rfl trivial ha m_fr.rf l p h49 h52
theorem mh_cond (hd : d ≤ 8) (hP : mHP by8 L lim bk nm d 26 (fun a b k => a = k ∧ b = k) (fun _ => True) P) (hR : ∀ cf c o t v, WFC (bk 1) cf c → P cf c o t = .inr v → a_rel (bk 1) cf c o v) : mHP by8 L lim bk nm d 24 (fun _ _ _ => True) (fun x => ¬ x = 20 ∧ ¬ x = 21 ∧ ¬ x = 22) (a_co (a_ne by8 L lim) P) := by
  intro n cf c o h t Q hn hc ho W l hB hM hC h49 h50 h51 h52 hS k0 k1
  have hP2 := mh_all hd hP hR
  have hR2 := fun cf c o t v W q => (a_al1_r (ne := a_ne by8 L lim) hR cf c o t v W q).1
  have k0' := fun h' e q => k0 h' e (show a_bd (a_al1 (a_ne by8 L lim) P cf c o t) _ = .inl e from q)
  have k1' := fun h' v a b k q => k1 h' v a b k (show a_bd (a_al1 (a_ne by8 L lim) P cf c o t) _ = .inr v from q)
  clear k0 k1
  refine hP2 n cf c o h t Q (by omega) hc ho W l hB hM hC h49 h50 h51 h52 (hS.i (fun x q => ⟨q.1, q.2.1⟩)) (fun h3 e q f g => ?_) (fun h3 v a' b' k' q E ha' f3 l3 p3 j49 j52 => ?_)
  · exact k0' h3 e (by rw [q, a_bdl]) f g
  · obtain ⟨r1, r2, r3, r4, r5, r6, r7⟩ := hR2 _ _ _ _ _ W q
    rw [q, a_bdr] at k0' k1'
    exact mj_cond hd hP2 hR2 20 n _ _ _ h3 _ a' b' k' Q hn (by omega) r6 r2 (by omega) l3 (hB.sf f3) (hM.sf f3) ha' p3 j49 j52 (hS.fr f3 (fun k hk => by unfold mSf mGF; omega)) (fun h4 e q f g => k0' h4 e q (f3.tr f) g) (fun h4 u a b k q E ha f l p i49 i52 => k1' h4 u a b k q E ha (f3.tr f) l p i49 i52)
end MHP
