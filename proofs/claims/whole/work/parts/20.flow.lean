/-! the words of which the methods' functions are made -/
def y_gd {T : Type} (b : Bool) (k : Option T) : Option T := match b with
  | true => k
  | false => none
def y_br {T : Type} (c : Prop) [Decidable c] (a b : Option T) : Option T := if c then a else b
def y_bi {A T : Type} (o : Option A) (k : A → Option T) : Option T := match o with
  | none => none
  | some a => k a
def y_nm {A T : Type} (a : A) (k : A → Option T) : Option T := k a
def y_mp {S T : Type} (o : Option T) : Option (S ⊕ T) := match o with
  | none => none
  | some t => some (.inr t)
def y_lpN {S T : Type} (body : S → Option (S ⊕ T)) : Nat → S → Option T
  | 0, _ => none
  | n + 1, s => match body s with
    | none => none
    | some (.inl s') => y_lpN body n s'
    | some (.inr t) => some t
noncomputable def y_lp {S T : Type} (body : S → Option (S ⊕ T)) (s : S) : Option T := @dite _ (∃ n, (y_lpN body n s).isSome = true) (Classical.propDecidable _) (fun h => y_lpN body (Classical.choose h) s) (fun _ => none)
theorem y_gd_e {T : Type} {b : Bool} {k : Option T} {v : T} (h : y_gd b k = some v) : b = true ∧ k = some v := by
  cases b
  · cases h
  · exact ⟨rfl, h⟩
theorem y_br_t {T : Type} {c : Prop} [Decidable c] {a b : Option T} {v : T} (h : y_br c a b = some v) (hc : c) : a = some v := by
  unfold y_br at h
  rwa [if_pos hc] at h
theorem y_br_f {T : Type} {c : Prop} [Decidable c] {a b : Option T} {v : T} (h : y_br c a b = some v) (hc : ¬ c) : b = some v := by
  unfold y_br at h
  rwa [if_neg hc] at h
theorem y_bi_e {A T : Type} {o : Option A} {k : A → Option T} {v : T} (h : y_bi o k = some v) : ∃ a, o = some a ∧ k a = some v := by
  cases o with
  | none => cases h
  | some a => exact ⟨a, rfl, h⟩
theorem y_nm_e {A T : Type} {a : A} {k : A → Option T} {v : T} (h : y_nm a k = some v) : ∃ x, x = a ∧ k x = some v := ⟨a, rfl, h⟩
theorem y_mp_e {S T : Type} {o : Option T} {w : S ⊕ T} (h : y_mp (S := S) o = some w) : ∃ t, o = some t ∧ w = .inr t := by
  cases o with
  | none => cases h
  | some t => exact ⟨t, rfl, (Option.some.inj h).symm⟩
def y_lq {S T : Type} (body : S → Option (S ⊕ T)) (n : Nat) (v : T) (w : S ⊕ T) : Prop := match w with
  | .inl s' => y_lpN body n s' = some v
  | .inr t => t = v
theorem y_lpN_e {S T : Type} {body : S → Option (S ⊕ T)} {n : Nat} {s : S} {v : T} (h : y_lpN body (n + 1) s = some v) : ∃ w, body s = some w ∧ y_lq body n v w := by
  unfold y_lpN at h
  cases hb : body s with
  | none => rw [hb] at h; cases h
  | some w =>
    rw [hb] at h
    refine ⟨w, rfl, ?_⟩
    cases w with
    | inl s' => exact h
    | inr t => exact Option.some.inj h
theorem y_lpN_0 {S T : Type} {body : S → Option (S ⊕ T)} {s : S} {v : T} (h : y_lpN body 0 s = some v) : False := by cases h
theorem y_lp_e {S T : Type} {body : S → Option (S ⊕ T)} {s : S} {v : T} (h : y_lp body s = some v) : ∃ n, y_lpN body n s = some v := by
  unfold y_lp at h
  by_cases hh : ∃ n, (y_lpN body n s).isSome = true
  · rw [dif_pos hh] at h
    exact ⟨_, h⟩
  · rw [dif_neg hh] at h
    cases h
theorem y_lpN_le {S T : Type} {body : S → Option (S ⊕ T)} {v : T} : ∀ (n : Nat) (s : S), y_lpN body n s = some v → ∀ m, n ≤ m → y_lpN body m s = some v
  | 0, _, h => absurd h (fun q => y_lpN_0 q)
  | n + 1, s, h => by
    intro m hm
    obtain ⟨k, rfl⟩ : ∃ k, m = k + 1 := ⟨m - 1, by omega⟩
    obtain ⟨w, hb, hw⟩ := y_lpN_e h
    unfold y_lpN
    rw [hb]
    cases w with
    | inl s' => exact y_lpN_le n s' hw k (by omega)
    | inr t => exact congrArg some hw
theorem y_lp_of {S T : Type} {body : S → Option (S ⊕ T)} {s : S} {v : T} {n : Nat} (h : y_lpN body n s = some v) : y_lp body s = some v := by
  have hh : ∃ n, (y_lpN body n s).isSome = true := ⟨n, by rw [h]; rfl⟩
  unfold y_lp
  rw [dif_pos hh]
  have h2 := Classical.choose_spec hh
  obtain ⟨u, hu⟩ := Option.isSome_iff_exists.mp h2
  rw [hu]
  have e1 := y_lpN_le _ _ h (max n (Classical.choose hh)) (Nat.le_max_left _ _)
  have e2 := y_lpN_le _ _ hu (max n (Classical.choose hh)) (Nat.le_max_right _ _)
  exact e2.symm.trans e1
theorem y_pr {A B : Type} {a r : A} {b h : B} (e : (a, b) = (r, h)) : a = r ∧ b = h := Prod.mk.inj e
/-! the rows again, with names for what comes -/
section ZN
variable {p : Program} {l : Launch} {e : Env} {R : Room} {s : State} {m : MethodId} {args : Array Value} {below : List Frame} {meth : Method} {c : Code} {H : Heap} {locs : List Loc} {cells slots : Nat} {Q : State → Prop}
variable {cc : ByteArray} {pc nL : Nat} {ls : Array Slot} {rest : List Value} {own : String} {G : z_Gt} {S : State → Prop} {ad : Nat → Nat} {n0 : Nat} {h h1 : z_T}
theorem y_putI (hc : z_C G S ad n0 p m c cc nL s args own meth) (hB : z_B G ad n0 s h H locs) (ci k : Nat) {o index : Nat} {x : Int32} (eh : h1 = z_sI h o k x) (hg : z_ok h o ci = true) (hl : z_lk s args own index ((z_c ci).2.1 k).1 ((z_c ci).2.1 k).2.1 ((z_c ci).2.1 k).2.2.1) (hdg : decode cc pc = .ok (.putfield index, 3)) (hci : ci < 12) (hk : k < (z_c ci).2.2) (ht : z_tg ci k = 0) (hfin : ((z_c ci).2.1 k).2.2.2 = false) (hn : narrow (z_fty ci k) (.int x) = .int x) (hfit : fits (z_fty ci k) (.int x) = true)
    (kk : ∀ (H1 : Heap) (locs1 : List Loc), z_B G ad n0 s h1 H1 locs1 → W p l e R s m args below meth c H1 locs1 cells slots Q (F0 m (pc + 3) ls rest)) : W p l e R s m args below meth c H locs cells slots Q (F0 m pc ls (.int x :: .ref (ad o) :: rest)) := by
  subst eh
  exact z_putI hc hB ci k hg hci hk ht hfin hl hn hfit hdg kk
theorem y_putL (hc : z_C G S ad n0 p m c cc nL s args own meth) (hB : z_B G ad n0 s h H locs) (ci k : Nat) {o index : Nat} {x : Int64} (eh : h1 = z_sL h o k x) (hg : z_ok h o ci = true) (hl : z_lk s args own index ((z_c ci).2.1 k).1 ((z_c ci).2.1 k).2.1 ((z_c ci).2.1 k).2.2.1) (hdg : decode cc pc = .ok (.putfield index, 3)) (hci : ci < 12) (hk : k < (z_c ci).2.2) (ht : z_tg ci k = 1) (hfin : ((z_c ci).2.1 k).2.2.2 = false) (hn : narrow (z_fty ci k) (.long x) = .long x) (hfit : fits (z_fty ci k) (.long x) = true)
    (kk : ∀ (H1 : Heap) (locs1 : List Loc), z_B G ad n0 s h1 H1 locs1 → W p l e R s m args below meth c H1 locs1 cells slots Q (F0 m (pc + 3) ls rest)) : W p l e R s m args below meth c H locs cells slots Q (F0 m pc ls (.long x :: .ref (ad o) :: rest)) := by
  subst eh
  exact z_putL hc hB ci k hg hci hk ht hfin hl hn hfit hdg kk
theorem y_iast (hc : z_C G S ad n0 p m c cc nL s args own meth) (hB : z_B G ad n0 s h H locs) {o : Nat} {i x : Int32} (eh : h1 = z_sI h o i.toNatClampNeg x) (hg : z_ok h o 13 = true) (hi : z_ix i (z_N h o) = true) (hdg : decode cc pc = .ok (.iastore, 1))
    (kk : ∀ (H1 : Heap) (locs1 : List Loc), z_B G ad n0 s h1 H1 locs1 → W p l e R s m args below meth c H1 locs1 cells slots Q (F0 m (pc + 1) ls rest)) : W p l e R s m args below meth c H locs cells slots Q (F0 m pc ls (.int x :: .int i :: .ref (ad o) :: rest)) := by
  subst eh
  exact z_iast hc hB hg hi hdg kk
theorem y_last (hc : z_C G S ad n0 p m c cc nL s args own meth) (hB : z_B G ad n0 s h H locs) {o : Nat} {i : Int32} {x : Int64} (eh : h1 = z_sL h o i.toNatClampNeg x) (hg : z_ok h o 14 = true) (hi : z_ix i (z_N h o) = true) (hdg : decode cc pc = .ok (.lastore, 1))
    (kk : ∀ (H1 : Heap) (locs1 : List Loc), z_B G ad n0 s h1 H1 locs1 → W p l e R s m args below meth c H1 locs1 cells slots Q (F0 m (pc + 1) ls rest)) : W p l e R s m args below meth c H locs cells slots Q (F0 m pc ls (.long x :: .int i :: .ref (ad o) :: rest)) := by
  subst eh
  exact z_last hc hB hg hi hdg kk
theorem y_bast (hc : z_C G S ad n0 p m c cc nL s args own meth) (hB : z_B G ad n0 s h H locs) {o : Nat} {i x : Int32} (eh : h1 = z_sI h o i.toNatClampNeg x.toInt8.toInt32) (hg : z_ok h o 12 = true) (hi : z_ix i (z_N h o) = true) (hdg : decode cc pc = .ok (.bastore, 1))
    (kk : ∀ (H1 : Heap) (locs1 : List Loc), z_B G ad n0 s h1 H1 locs1 → W p l e R s m args below meth c H1 locs1 cells slots Q (F0 m (pc + 1) ls rest)) : W p l e R s m args below meth c H locs cells slots Q (F0 m pc ls (.int x :: .int i :: .ref (ad o) :: rest)) := by
  subst eh
  exact z_bast hc hB hg hi hdg kk
theorem y_zast (hc : z_C G S ad n0 p m c cc nL s args own meth) (hB : z_B G ad n0 s h H locs) {o : Nat} {i x : Int32} (eh : h1 = z_sI h o i.toNatClampNeg (vp_nar .boolean x)) (hg : z_ok h o 15 = true) (hi : z_ix i (z_N h o) = true) (hdg : decode cc pc = .ok (.bastore, 1))
    (kk : ∀ (H1 : Heap) (locs1 : List Loc), z_B G ad n0 s h1 H1 locs1 → W p l e R s m args below meth c H1 locs1 cells slots Q (F0 m (pc + 1) ls rest)) : W p l e R s m args below meth c H locs cells slots Q (F0 m pc ls (.int x :: .int i :: .ref (ad o) :: rest)) := by
  subst eh
  exact z_zast hc hB hg hi hdg kk
/-- a boolean is 0 or 1 -/
def y_b (x : Int32) : Bool := decide (x = 0) || decide (x = 1)
theorem y_b_n {x : Int32} (h : y_b x = true) : narrow .boolean (.int x) = .int x := by
  simp [y_b] at h
  rcases h with rfl | rfl <;> rfl
theorem y_ne {y : Int32} (h : (!decide (y = 0)) = true) : ¬ y = 0 := by simpa using h
theorem y_neL {y : Int64} (h : (!decide (y = 0)) = true) : ¬ y = 0 := by simpa using h
end ZN
theorem y_nt {x k : Int32} {z : Int} (hz : k.toInt = z) (c : ¬ x = k) : x.toInt ≠ z := fun e => c (Int32.toInt_inj.mp (e.trans hz.symm))
