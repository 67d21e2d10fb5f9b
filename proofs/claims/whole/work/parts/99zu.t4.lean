/-! new objects of the class; its book -/
theorem z_okI {h : z_T} {o kd : Nat} (h1 : o < z_n h) (h2 : z_K h o = kd) : z_ok h o kd = true := by
  unfold z_ok
  rw [h2]
  simp
  exact h1
theorem al_o {h : z_T} {kd len o : Nat} (ho : o ≠ z_n h) : (∀ k, z_I (z_al h kd len) o k = z_I h o k ∧ z_L (z_al h kd len) o k = z_L h o k ∧ z_R (z_al h kd len) o k = z_R h o k) ∧ z_K (z_al h kd len) o = z_K h o ∧ z_N (z_al h kd len) o = z_N h o := by
  have eI : z_I (z_al h kd len) o = z_I h o := if_neg ho
  have eL : z_L (z_al h kd len) o = z_L h o := if_neg ho
  have eR : z_R (z_al h kd len) o = z_R h o := if_neg ho
  have eK : z_K (z_al h kd len) o = z_K h o := if_neg ho
  have eN : z_N (z_al h kd len) o = z_N h o := if_neg ho
  rw [eI, eL, eR, eK, eN]
  exact ⟨fun k => ⟨rfl, rfl, rfl⟩, rfl, rfl⟩
/-- a new array of kind kd behind field r of object bo: its ints, its length -/
def nS (H H' : z_T) (bo r kd len : Nat) (v : Nat → Int32) : Prop := z_n H' = z_n H + 1 ∧ (∀ o, o < z_n H → z_K H' o = z_K H o ∧ z_N H' o = z_N H o ∧ ∀ k, z_I H' o k = z_I H o k ∧ z_L H' o k = z_L H o k ∧ (o ≠ bo ∨ k ≠ r → z_R H' o k = z_R H o k)) ∧ z_K H' (z_n H) = kd ∧ z_N H' (z_n H) = len ∧ z_R H' bo r = some (z_n H) ∧ (∀ k, z_I H' (z_n H) k = v k) ∧ ∀ k, z_L H' (z_n H) k = 0
theorem nS.mk {H : z_T} {bo r kd len : Nat} : nS H (z_sR (z_al H kd len) bo r (some (z_n H))) bo r kd len (fun _ => 0) := by
  refine ⟨rfl, fun o ho => ?_, z_al_K, z_al_N, q_Re rfl rfl, fun k => ?_, fun k => ?_⟩
  · obtain ⟨e1, e2, e3⟩ := al_o (h := H) (kd := kd) (len := len) (o := o) (by omega)
    refine ⟨e2, e3, fun k => ⟨(e1 k).1, (e1 k).2.1, fun c => ?_⟩⟩
    rw [q_Rn c]
    exact (e1 k).2.2
  · exact z_al_I (kd := kd) (len := len)
  · exact z_al_L (kd := kd) (len := len)
theorem nS.xfr {C : Nat → Nat → Prop} {h H H' : z_T} {bo r kd len : Nat} {v : Nat → Int32} (f : x_fr C h H) (n : nS H H' bo r kd len v) (hb : z_n h ≤ bo) : x_fr C h H' := by
  obtain ⟨n1, n2, -⟩ := n
  have f1 := f.1
  refine ⟨by omega, fun o ho => ?_⟩
  obtain ⟨e1, e2, e3⟩ := n2 o (by omega)
  have g := f.2 o ho
  refine ⟨⟨e1.trans g.1.1, e2.trans g.1.2⟩, fun k => ?_⟩
  obtain ⟨i1, i2, i3⟩ := e3 k
  have i3' := i3 (Or.inl (by omega))
  rw [i1, i2, i3']
  exact g.2 k
theorem p_newR {H : z_T} {bo r kd len kb : Nat} {K : z_T → Option z_T} {Q : z_T → Prop} (okb : z_ok H bo kb = true) (k : ∀ H', nS H H' bo r kd len (fun _ => 0) → p_W (K H') Q) :
    p_W (y_nm (z_n H) fun o => y_nm (z_al H kd len) fun h2 => y_gd (z_ok h2 bo kb) <| y_nm (z_sR h2 bo r (some o)) K) Q :=
  p_nm.mpr (p_nm.mpr (p_gd.mpr ⟨z_al_ok' okb, p_nm.mpr (k _ nS.mk)⟩))
theorem nS.ok {H H' : z_T} {bo r kd len o kb : Nat} {v : Nat → Int32} (n : nS H H' bo r kd len v) (g : z_ok H o kb = true) : z_ok H' o kb = true := by
  have h1 := z_ok_lt g
  obtain ⟨n1, n2, -⟩ := n
  exact z_okI (by omega) ((n2 o h1).1.trans (z_ok_K g))
theorem nS.I {H H' : z_T} {bo r kd len o k : Nat} {v : Nat → Int32} {x : Int32} (n : nS H H' bo r kd len v) (ho : o < z_n H) (e : z_I H o k = x) : z_I H' o k = x := ((n.2.1 o ho).2.2 k).1.trans e
theorem nS.L {H H' : z_T} {bo r kd len o k : Nat} {v : Nat → Int32} {x : Int64} (n : nS H H' bo r kd len v) (ho : o < z_n H) (e : z_L H o k = x) : z_L H' o k = x := ((n.2.1 o ho).2.2 k).2.1.trans e
theorem nS.N {H H' : z_T} {bo r kd len o x : Nat} {v : Nat → Int32} (n : nS H H' bo r kd len v) (ho : o < z_n H) (e : z_N H o = x) : z_N H' o = x := (n.2.1 o ho).2.1.trans e
theorem nS.R {H H' : z_T} {bo r kd len o k : Nat} {v : Nat → Int32} {x : Option Nat} (n : nS H H' bo r kd len v) (ho : o < z_n H) (c : o ≠ bo ∨ k ≠ r) (e : z_R H o k = x) : z_R H' o k = x := (((n.2.1 o ho).2.2 k).2.2 c).trans e
theorem nS.a {H H' : z_T} {bo r kd len : Nat} {v : Nat → Int32} (n : nS H H' bo r kd len v) : z_ok H' (z_n H) kd = true := z_okI (by have := n.1; omega) n.2.2.1
theorem z_al_N' {H : z_T} {kd len i : Nat} (hi : i < len) (hl : len < 1000) {x : Int32} (hx : x = nI i) : z_ix x (z_N (z_al H kd len) (z_n H)) = true := by
  rw [z_al_N, hx]
  exact q_ix hi (by omega)
theorem p_new6 {H : z_T} {bo : Nat} {K : z_T → Option z_T} {Q : z_T → Prop} (okb : z_ok H bo 0 = true) (k : ∀ H', nS H H' bo 4 13 6 (fun k => if k = 0 then 1 else if k = 2 then 8 else if k = 3 then 1 else if k = 4 then 1 else 0) → p_W (K H') Q) :
    p_W (y_nm (z_n H) fun o1 =>
  y_nm (z_al H 13 6) fun h2 =>
  y_gd (z_ix (0 : Int32) (z_N h2 o1)) <|
  y_nm (z_sI h2 o1 (0 : Int32).toNatClampNeg (1 : Int32)) fun h5 =>
  y_gd (z_ix (1 : Int32) (z_N h5 o1)) <|
  y_nm (z_sI h5 o1 (1 : Int32).toNatClampNeg (0 : Int32)) fun h7 =>
  y_gd (z_ix (2 : Int32) (z_N h7 o1)) <|
  y_nm (z_sI h7 o1 (2 : Int32).toNatClampNeg (8 : Int32)) fun h9 =>
  y_gd (z_ix (3 : Int32) (z_N h9 o1)) <|
  y_nm (z_sI h9 o1 (3 : Int32).toNatClampNeg (1 : Int32)) fun h11 =>
  y_gd (z_ix (4 : Int32) (z_N h11 o1)) <|
  y_nm (z_sI h11 o1 (4 : Int32).toNatClampNeg (1 : Int32)) fun h13 =>
  y_gd (z_ix (5 : Int32) (z_N h13 o1)) <|
  y_nm (z_sI h13 o1 (5 : Int32).toNatClampNeg (0 : Int32)) fun h15 =>
  y_gd (z_ok h15 bo 0) <|
  y_nm (z_sR h15 bo 4 (some o1)) K) Q := by
  have g : ∀ i, i < 6 → ∀ x, x = nI i → z_ix x (z_N (z_al H 13 6) (z_n H)) = true := fun i hi x hx => z_al_N' hi (by omega) hx
  have e0 : ∀ k, z_I (z_al H 13 6) (z_n H) k = 0 := fun k => z_al_I
  have l0 : ∀ k, z_L (z_al H 13 6) (z_n H) k = 0 := fun k => z_al_L
  have K0 : z_K (z_al H 13 6) (z_n H) = 13 := z_al_K
  have N0 : z_N (z_al H 13 6) (z_n H) = 6 := z_al_N
  have ok0 : z_ok (z_al H 13 6) bo 0 = true := z_al_ok' okb
  have ao := fun o ho => al_o (h := H) (kd := 13) (len := 6) (o := o) ho
  have nn : z_n (z_al H 13 6) = z_n H + 1 := rfl
  refine p_nm.mpr (p_nm.mpr (p_gd.mpr ⟨g 0 (by omega) _ rfl, p_nm.mpr (p_gd.mpr ⟨g 1 (by omega) _ rfl, p_nm.mpr (p_gd.mpr ⟨g 2 (by omega) _ rfl, p_nm.mpr (p_gd.mpr ⟨g 3 (by omega) _ rfl, p_nm.mpr (p_gd.mpr ⟨g 4 (by omega) _ rfl, p_nm.mpr (p_gd.mpr ⟨g 5 (by omega) _ rfl, p_nm.mpr (p_gd.mpr ⟨ok0, p_nm.mpr (k _ ?_)⟩)⟩)⟩)⟩)⟩)⟩)⟩))
  generalize z_al H 13 6 = A at *
  have c0 : (0 : Int32).toNatClampNeg = 0 := by decide
  have c1 : (1 : Int32).toNatClampNeg = 1 := by decide
  have c2 : (2 : Int32).toNatClampNeg = 2 := by decide
  have c3 : (3 : Int32).toNatClampNeg = 3 := by decide
  have c4 : (4 : Int32).toNatClampNeg = 4 := by decide
  have c5 : (5 : Int32).toNatClampNeg = 5 := by decide
  rw [c0, c1, c2, c3, c4, c5]
  refine ⟨nn, fun o ho => ?_, K0, N0, q_Re rfl rfl, fun k => ?_, l0⟩
  · obtain ⟨e1, e2, e3⟩ := ao o (by omega)
    refine ⟨e2, e3, fun k => ⟨?_, (e1 k).2.1, fun c => ?_⟩⟩
    · show z_I (z_sI (z_sI (z_sI (z_sI (z_sI (z_sI A _ _ _) _ _ _) _ _ _) _ _ _) _ _ _) _ _ _) o k = _
      rw [q_In (by omega), q_In (by omega), q_In (by omega), q_In (by omega), q_In (by omega), q_In (by omega)]
      exact (e1 k).1
    · rw [q_Rn c]
      exact (e1 k).2.2
  · show z_I (z_sI (z_sI (z_sI (z_sI (z_sI (z_sI A _ _ _) _ _ _) _ _ _) _ _ _) _ _ _) _ _ _) (z_n H) k = _
    by_cases k5 : k = 5
    · subst k5; rw [q_Ie rfl rfl]; rfl
    · by_cases k4 : k = 4
      · subst k4; rw [q_In (by omega), q_Ie rfl rfl]; rfl
      · by_cases k3 : k = 3
        · subst k3; rw [q_In (by omega), q_In (by omega), q_Ie rfl rfl]; rfl
        · by_cases k2 : k = 2
          · subst k2; rw [q_In (by omega), q_In (by omega), q_In (by omega), q_Ie rfl rfl]; rfl
          · by_cases k1 : k = 1
            · subst k1; rw [q_In (by omega), q_In (by omega), q_In (by omega), q_In (by omega), q_Ie rfl rfl]; rfl
            · by_cases k0 : k = 0
              · subst k0; rw [q_In (by omega), q_In (by omega), q_In (by omega), q_In (by omega), q_In (by omega), q_Ie rfl rfl]; rfl
              · rw [q_In (by omega), q_In (by omega), q_In (by omega), q_In (by omega), q_In (by omega), q_In (by omega), e0]
                dsimp only
                rw [if_neg k0, if_neg k2, if_neg k3, if_neg k4]
