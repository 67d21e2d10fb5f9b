/-! new things, copies -/
theorem z_W.new {G : z_Gt} {ad : Nat → Nat} {h : z_T} {H H1 : Heap} (kd len : Nat) (w : z_W G ad h H) (z : H1.size = H.size + 1) (oq : ∀ q : Nat, q < H.size → H1[q]? = H[q]?) (hc : z_cell G ad (z_al h kd len) H1 (z_n h)) : z_W G ad (z_al h kd len) H1 := by
  obtain ⟨w1, w2, w3, w4, w5, w6, w7⟩ := w
  have hnn : z_n (z_al h kd len) = z_n h + 1 := rfl
  refine ⟨fun q hq => ?_, w2, fun i hi => ?_, w4, fun q hq => ?_, fun i hi => ?_, by omega⟩
  · rw [hnn] at hq
    by_cases e : q = z_n h
    · rw [e]; exact hc
    · have hl : q < z_n h := by omega
      refine (w1 q hl).kept ⟨?_, ?_, ?_, ?_, ?_⟩ (by rw [hnn]; exact Nat.le_succ _) (oq _ (w6 q hl))
      · exact if_neg e
      · exact if_neg e
      · exact if_neg e
      · exact if_neg e
      · exact if_neg e
  · rw [hnn] at hi ⊢
    rw [w3 i (by omega), z]
    omega
  · rw [oq q (by omega)]
    exact w5 q hq
  · rw [hnn] at hi
    by_cases e : i = z_n h
    · rw [e, w3 _ (Nat.le_refl _), z]; omega
    · have := w6 i (by omega); omega
theorem z_al_K {h : z_T} {kd len : Nat} : z_K (z_al h kd len) (z_n h) = kd := if_pos rfl
theorem z_al_N {h : z_T} {kd len : Nat} : z_N (z_al h kd len) (z_n h) = len := if_pos rfl
theorem z_al_I {h : z_T} {kd len j : Nat} : z_I (z_al h kd len) (z_n h) j = 0 := by show z_r0 _ _ _ _ _ = _; simp [z_r0]
theorem z_al_L {h : z_T} {kd len j : Nat} : z_L (z_al h kd len) (z_n h) j = 0 := by show z_r0 _ _ _ _ _ = _; simp [z_r0]
theorem z_al_R {h : z_T} {kd len j : Nat} : z_R (z_al h kd len) (z_n h) j = none := by show z_r0 _ _ _ _ _ = _; simp [z_r0]
theorem z_al_ok {h : z_T} {kd len : Nat} : z_ok (z_al h kd len) (z_n h) kd = true := by
  have e : z_n (z_al h kd len) = z_n h + 1 := rfl
  simp [z_ok, e, z_al_K]
theorem z_al_ok' {h : z_T} {kd len o k : Nat} (e : z_ok h o k = true) : z_ok (z_al h kd len) o k = true := by
  have h1 := z_ok_lt e
  have h2 := z_ok_K e
  have e1 : z_n (z_al h kd len) = z_n h + 1 := rfl
  have e2 : z_K (z_al h kd len) o = z_K h o := if_neg (by omega)
  simp [z_ok, e1, e2, h2]; omega
def z_dv (t : Nat) : Value := match t with
  | 0 => .int 0
  | 1 => .long 0
  | _ => .null
theorem z_dvok : ∀ ci, ci < 12 → ∀ k, k < (z_c ci).2.2 → defaultValue (z_fty ci k) = z_dv (z_tg ci k) := by
  intro ci hci
  rcases (show ci = 0 ∨ ci = 1 ∨ ci = 2 ∨ ci = 3 ∨ ci = 4 ∨ ci = 5 ∨ ci = 6 ∨ ci = 7 ∨ ci = 8 ∨ ci = 9 ∨ ci = 10 ∨ ci = 11 by omega) with rfl | rfl | rfl | rfl | rfl | rfl | rfl | rfl | rfl | rfl | rfl | rfl <;> decide +kernel
section ZM
variable {p : Program} {l : Launch} {e : Env} {R : Room} {s : State} {m : MethodId} {args : Array Value} {below : List Frame} {meth : Method} {c : Code} {H : Heap} {locs : List Loc} {cells slots : Nat} {Q : State → Prop}
variable {cc : ByteArray} {pc nL : Nat} {ls : Array Slot} {rest : List Value} {own : String} {G : z_Gt} {S : State → Prop} {ad : Nat → Nat} {n0 : Nat} {h h1 : z_T}
theorem z_objI (hc : z_C G S ad n0 p m c cc nL s args own meth) {idx a : Nat} (hl : Cond.methodLink own idx objectInit ∈ z_ws) (hi : Cond.instanceMethod objectInit ∈ z_ws) (hk : Cond.code objectInit ⟨#[0xb1]⟩ 1 none ∈ z_ws) (hsize : ls.size = nL) (hR : 1 ≤ R.frames ∧ (rest.map fun v => v.category).sum + 12 ≤ R.locals) (hdg : decode cc pc = .ok (.invokespecial idx, 3))
    (kk : W p l e R s m args below meth c H locs cells slots Q (F0 m (pc + 3) ls rest)) : W p l e R s m args below meth c H locs cells slots Q (F0 m pc ls (.ref a :: rest)) := by
  obtain ⟨⟨hx, hb, hml, hown, hts⟩, -⟩ := hc
  exact W.objInit hx hb hown (hts _ hl) (hts _ hi) (hts _ hk) rfl (by rw [hml]; exact hsize) rfl hdg hR.1 (by show 2 * 0 + _ + 12 ≤ _; omega) kk
theorem z_S_new {H1 : Heap} (hB : z_B G ad n0 s h H locs) (z : H1.size = H.size + 1) (oq : ∀ q : Nat, q < H.size → H1[q]? = H[q]?) : va_S (z_A ad n0 s.heap.size) s.heap H1 locs :=
  ⟨by have := hB.2.1; omega, fun q g1 g2 => (oq q (Nat.lt_of_lt_of_le g1 hB.2.1)).trans (hB.2.2.1 q g1 g2), hB.2.2.2⟩
theorem z_adn (hB : z_B G ad n0 s h H locs) : ad (z_n h) = H.size := by rw [hB.1.2.2.1 _ (Nat.le_refl _)]; omega
theorem z_new (hc : z_C G S ad n0 p m c cc nL s args own meth) (hB : z_B G ad n0 s h H locs) (ci : Nat) {index : Nat} (eh : h1 = z_al h ci 0) (hci : ci < 12) (hl : Cond.classLink own index (z_c ci).1 ∈ z_ws) (hi : Cond.instantiable (z_c ci).1 (z_c ci).2.2 ∈ z_ws) (hn : Cond.initialized (z_c ci).1 ∈ z_ws) (hcells : cells + 1 ≤ R.cells) (hslots : slots + (z_c ci).2.2 ≤ R.slots) (hdg : decode cc pc = .ok (.new index, 3))
    (kk : ∀ (H1 : Heap), z_B G ad n0 s h1 H1 locs → W p l e R s m args below meth c H1 locs (cells + 1) (slots + (z_c ci).2.2) Q (F0 m (pc + 3) ls (.ref (ad (z_n h)) :: rest))) : W p l e R s m args below meth c H locs cells slots Q (F0 m pc ls rest) := by
  subst eh
  obtain ⟨⟨hx, hb, -, hown, hts⟩, hK, -⟩ := hc
  have hKn := hK.1 ci hci
  refine W.newcK hx hb hown (hts _ hl) (hts _ hi) (hts _ hn) rfl hdg hcells hslots hKn.2.1 rfl fun H1 kC hkC e1 z1 o1 => ?_
  have hb0 : t_OB (ad (z_n h)) (G.1 ci) (z_c ci).2.2 (G.2.1 ci) H1 (fun k => defaultValue (z_fty ci k)) := u_born (z_fty ci) hts (z_uw ci hci) hKn hkC (by rw [z_adn hB]; exact e1) (z_tyok ci hci)
  have hcell : z_cell G ad (z_al h ci 0) H1 (z_n h) := by
    refine ⟨fun _ => ?_, fun hh => ?_, fun j r _ g => by rw [z_al_R] at g; cases g⟩
    · rw [z_al_K]
      refine hb0.to (fun k hk => ?_)
      rw [z_dvok ci hci k hk]
      generalize z_tg ci k = t
      match t with
      | 0 => show Value.int 0 = .int (z_I _ _ _); rw [z_al_I]
      | 1 => show Value.long 0 = .long (z_L _ _ _); rw [z_al_L]
      | 2 => show Value.null = va_rf (Option.map _ (z_R _ _ _)); rw [z_al_R]; rfl
      | t + 3 => show Value.null = va_rf (Option.map _ (z_R _ _ _)); rw [z_al_R]; rfl
    · rw [z_al_K] at hh; omega
  rw [← z_adn hB]
  exact kk H1 ⟨hB.1.new ci 0 z1 o1 hcell, z_S_new hB z1 o1⟩
theorem z_arr_new (kd len : Nat) (cA : ClassId) {H1 : Heap} {x : Value} (hB : z_B G ad n0 s h H locs) (h1 : 12 ≤ kd) (eA : cA = G.2.2.1 kd) (ex : ∀ j, x = z_av ad (z_al h kd len) (z_n h) kd j) (e1 : H1[H.size]? = some (arrV cA len (fun _ => x))) : z_cell G ad (z_al h kd len) H1 (z_n h) := by
  refine ⟨fun hh => by rw [z_al_K] at hh; omega, fun _ => ?_, fun j r _ g => by rw [z_al_R] at g; cases g⟩
  rw [z_al_K, z_al_N, z_adn hB, e1, eA]
  congr 2
  funext j
  exact ex j
theorem z_newarr (hc : z_C G S ad n0 p m c cc nL s args own meth) (hB : z_B G ad n0 s h H locs) (kd N : Nat) {atype : ArrayType} {n : Int32} (eh : h1 = z_al h kd N) (hN : n.toNatClampNeg = N) (h12 : 12 ≤ kd) (h16 : kd < 16) (hty : newarray.typeOf atype = z_ty kd) (ha : Cond.arrayClass (z_ty kd) ∈ z_ws) (hn : ¬ n < 0) (hbytes : N * 8 ≤ 536870912) (hcells : cells + 1 ≤ R.cells) (hslots : slots + N ≤ R.slots) (hdg : decode cc pc = .ok (.newarray atype, 2))
    (kk : ∀ (H1 : Heap), z_B G ad n0 s h1 H1 locs → W p l e R s m args below meth c H1 locs (cells + 1) (slots + N) Q (F0 m (pc + 2) ls (.ref (ad (z_n h)) :: rest))) : W p l e R s m args below meth c H locs cells slots Q (F0 m pc ls (.int n :: rest)) := by
  subst eh
  obtain ⟨⟨hx, hb, -, hown, hts⟩, hK, -⟩ := hc
  have hra := (hK.2.1 kd h12 (by omega)).2
  have hb8 : N * componentBytes (newarray.typeOf atype) ≤ 536870912 := Nat.le_trans (Nat.mul_le_mul_left N (by cases atype <;> decide)) hbytes
  refine va_newaK hx hb (by rw [hty]; exact hts _ ha) rfl hdg rfl hn hN hb8 hcells hslots rfl fun H1 cA e1 z1 o1 hAr hNm => ?_
  rw [hty] at e1 hNm
  have eA : cA = G.2.2.1 kd := by
    rcases (show kd = 12 ∨ kd = 13 ∨ kd = 14 ∨ kd = 15 by omega) with rfl | rfl | rfl | rfl <;> exact Option.some.inj (hNm.symm.trans hra)
  have hcell : z_cell G ad (z_al h kd N) H1 (z_n h) := by
    refine z_arr_new kd N cA hB h12 eA (fun j => ?_) e1
    rcases (show kd = 12 ∨ kd = 13 ∨ kd = 14 ∨ kd = 15 by omega) with rfl | rfl | rfl | rfl
    · show Value.int 0 = .int (z_I _ _ _); rw [z_al_I]
    · show Value.int 0 = .int (z_I _ _ _); rw [z_al_I]
    · show Value.long 0 = .long (z_L _ _ _); rw [z_al_L]
    · show Value.int 0 = .int (z_I _ _ _); rw [z_al_I]
  rw [← z_adn hB]
  exact kk H1 ⟨hB.1.new kd N z1 o1 hcell, z_S_new hB z1 o1⟩
theorem z_hrS {v k : Nat} (g : z_ok h v k = true) : ∀ q, some v = some q → q < z_n h := fun q e => by cases e; exact z_ok_lt g
theorem z_hrN : ∀ q, (none : Option Nat) = some q → q < z_n h := fun q e => by cases e
theorem z_hrQ (hB : z_B G ad n0 s h H locs) {ci o j : Nat} (hg : z_ok h o ci = true) (t : z_tg ci j = 2) : ∀ q, z_R h o j = some q → q < z_n h := fun q e => z_clo hB hg t e
theorem z_putN (hc : z_C G S ad n0 p m c cc nL s args own meth) (hB : z_B G ad n0 s h H locs) (ci k : Nat) {o index : Nat} {r : Option Nat} {v : Value} (hv : v = va_rf (r.map ad)) (hr : ∀ q, r = some q → q < z_n h) (eh : h1 = z_sR h o k r) (hg : z_ok h o ci = true) (hl : z_lk s args own index ((z_c ci).2.1 k).1 ((z_c ci).2.1 k).2.1 ((z_c ci).2.1 k).2.2.1) (hdg : decode cc pc = .ok (.putfield index, 3)) (hci : ci < 12) (hk : k < (z_c ci).2.2) (ht : z_tg ci k = 2) (hfin : ((z_c ci).2.1 k).2.2.2 = false) (hn : ∀ r : Option Nat, narrow (z_fty ci k) (va_rf r) = va_rf r) (hfit : ∀ r : Option Nat, fits (z_fty ci k) (va_rf r) = true)
    (kk : ∀ (H1 : Heap) (locs1 : List Loc), z_B G ad n0 s h1 H1 locs1 → W p l e R s m args below meth c H1 locs1 cells slots Q (F0 m (pc + 3) ls rest)) : W p l e R s m args below meth c H locs cells slots Q (F0 m pc ls (v :: .ref (ad o) :: rest)) := by
  subst eh
  exact z_putQ hc hB ci k hv hr hg hci hk ht (Or.inl hfin) hl (fun q => by rw [hfin] at q; cases q) hn hfit hdg kk
theorem z_putF (hc : z_C G S ad n0 p m c cc nL s args own meth) (hB : z_B G ad n0 s h H locs) (ci k : Nat) {o index : Nat} {r : Option Nat} {v : Value} (hv : v = va_rf (r.map ad)) (hr : ∀ q, r = some q → q < z_n h) (eh : h1 = z_sR h o k r) (hg : z_ok h o ci = true) (hl : Cond.fieldLink own index ((z_c ci).2.1 k).1 ((z_c ci).2.1 k).2.1 ((z_c ci).2.1 k).2.2.1 ∈ z_ws) (hdg : decode cc pc = .ok (.putfield index, 3)) (hnm : meth.name = "<init>") (hci : ci < 12) (hk : k < (z_c ci).2.2) (ht : z_tg ci k = 2) (hfin : ((z_c ci).2.1 k).2.2.2 = true) (hdc : ((z_c ci).2.1 k).1 = own) (hn : ∀ r : Option Nat, narrow (z_fty ci k) (va_rf r) = va_rf r) (hfit : ∀ r : Option Nat, fits (z_fty ci k) (va_rf r) = true)
    (kk : ∀ (H1 : Heap) (locs1 : List Loc), z_B G ad n0 s h1 H1 locs1 → W p l e R s m args below meth c H1 locs1 cells slots Q (F0 m (pc + 3) ls rest)) : W p l e R s m args below meth c H locs cells slots Q (F0 m pc ls (v :: .ref (ad o) :: rest)) := by
  subst eh
  exact z_putQ hc hB ci k hv hr hg hci hk ht (Or.inr ⟨hfin, hnm, hdc⟩) (z_l1 hc hl) (fun _ => hc.1.2.2.2.2 _ hl) hn hfit hdg kk
theorem z_putX (hc : z_C G S ad n0 p m c cc nL s args own meth) (hB : z_B G ad n0 s h H locs) (ci k : Nat) {o index r : Nat} (eh : h1 = z_sR h o k (some r)) (hg : z_ok h o ci = true) (hl : z_lk s args own index ((z_c ci).2.1 k).1 ((z_c ci).2.1 k).2.1 ((z_c ci).2.1 k).2.2.1) (hdg : decode cc pc = .ok (.putfield index, 3)) (hci : ci < 12) (hk : k < (z_c ci).2.2) (ht : z_tg ci k = 3) (hfin : ((z_c ci).2.1 k).2.2.2 = false) (hn : ∀ a : Nat, narrow (z_fty ci k) (.ref a) = .ref a) (hfit : ∀ a : Nat, fits (z_fty ci k) (.ref a) = true)
    (kk : ∀ (H1 : Heap) (locs1 : List Loc), z_B G ad n0 s h1 H1 locs1 → W p l e R s m args below meth c H1 locs1 cells slots Q (F0 m (pc + 3) ls rest)) : W p l e R s m args below meth c H locs cells slots Q (F0 m pc ls (.ref (G.2.2.2.1 r) :: .ref (ad o) :: rest)) := by
  subst eh
  exact z_putE hc hB ci k hg hci hk ht hfin hl hn hfit hdg kk
theorem y_aast (hc : z_C G S ad n0 p m c cc nL s args own meth) (hB : z_B G ad n0 s h H locs) (kd ci : Nat) {o v : Nat} {i : Int32} (eh : h1 = z_sR h o i.toNatClampNeg (some v)) (hg : z_ok h o kd = true) (hi : z_ix i (z_N h o) = true) (hv : z_ok h v ci = true) (hdg : decode cc pc = .ok (.aastore, 1)) (h1' : 16 ≤ kd) (h2 : kd < 18) (hci : ci < 12) (hty : z_ty kd = .object (z_c ci).1)
    (kk : ∀ (H1 : Heap) (locs1 : List Loc), z_B G ad n0 s h1 H1 locs1 → W p l e R s m args below meth c H1 locs1 cells slots Q (F0 m (pc + 1) ls rest)) : W p l e R s m args below meth c H locs cells slots Q (F0 m pc ls (.ref (ad v) :: .int i :: .ref (ad o) :: rest)) := by
  subst eh
  exact z_aast hc hB kd ci h1' h2 hci hty hg hi hv hdg kk
theorem z_anew (hc : z_C G S ad n0 p m c cc nL s args own meth) (hB : z_B G ad n0 s h H locs) (kd N : Nat) {C : String} {n : Int32} {index : Nat} (eh : h1 = z_al h kd N) (hN : n.toNatClampNeg = N) (h16 : 16 ≤ kd) (h18 : kd < 18) (hty : z_ty kd = .object C) (hl : Cond.classLink own index C ∈ z_ws) (hover : va_AO C s) (hn : ¬ n < 0) (hbytes : N * 4 ≤ 536870912) (hcells : cells + 1 ≤ R.cells) (hslots : slots + N ≤ R.slots) (hdg : decode cc pc = .ok (.anewarray index, 3))
    (kk : ∀ (H1 : Heap), z_B G ad n0 s h1 H1 locs → W p l e R s m args below meth c H1 locs (cells + 1) (slots + N) Q (F0 m (pc + 3) ls (.ref (ad (z_n h)) :: rest))) : W p l e R s m args below meth c H locs cells slots Q (F0 m pc ls (.int n :: rest)) := by
  subst eh
  subst hN
  obtain ⟨⟨hx, hb, -, hown, hts⟩, hK, -⟩ := hc
  have hra := (hK.2.1 kd (by omega) (by omega)).2
  rw [hty] at hra
  obtain ⟨kA', comp', -, -, -, r4⟩ := hra
  refine W.anew hx hb hown (hts _ hl) hover.use rfl hdg rfl hn hbytes hcells hslots fun cA kA comp e1 e2 e3 e4 => ?_
  have eA : cA = G.2.2.1 kd := Option.some.inj (e1.symm.trans r4)
  have hcell : ∀ H1 : Heap, H1[H.size]? = some (arrV cA n.toNatClampNeg (fun _ => .null)) → z_cell G ad (z_al h kd n.toNatClampNeg) H1 (z_n h) := fun H1 g1 => by
    refine z_arr_new kd _ cA hB (by omega) eA (fun j => ?_) g1
    rcases (show kd = 16 ∨ kd = 17 by omega) with rfl | rfl
    · show Value.null = va_rf (Option.map _ (z_R _ _ _)); rw [z_al_R]; rfl
    · show Value.null = va_rf (Option.map _ (z_R _ _ _)); rw [z_al_R]; rfl
  have o1 : ∀ q : Nat, q < H.size → (H.push { cls := cA, slots := Array.replicate n.toNatClampNeg Value.null, vm := .none })[q]? = H[q]? := fun q hq => by rw [Array.getElem?_push, if_neg (Nat.ne_of_lt hq)]
  have z1 : (H.push { cls := cA, slots := Array.replicate n.toNatClampNeg Value.null, vm := .none }).size = H.size + 1 := by simp
  have k1 := kk _ ⟨hB.1.new kd n.toNatClampNeg z1 o1 (hcell _ (by rw [← arrV_new]; simp)), z_S_new hB z1 o1⟩
  rw [z_adn hB] at k1
  exact k1
end ZM
def y_op {A T : Type} (o : Option A) (a : Option T) (b : A → Option T) : Option T := match o with
  | none => a
  | some x => b x
theorem y_op_e {A T : Type} {o : Option A} {a : Option T} {b : A → Option T} {v : T} (h : y_op o a b = some v) : (o = none ∧ a = some v) ∨ ∃ x, o = some x ∧ b x = some v := by
  cases o with
  | none => exact Or.inl ⟨rfl, h⟩
  | some x => exact Or.inr ⟨x, rfl, h⟩
/-- a row of an array is copied -/
def z_cpI (h : z_T) (o0 o1 : Nat) (sp dp n : Int32) : z_T := (fun a => if a = o1 then va_cpy (z_I h o0) (z_I h o1) sp.toNatClampNeg dp.toNatClampNeg n.toNatClampNeg else z_I h a, h.2)
def z_cpL (h : z_T) (o0 o1 : Nat) (sp dp n : Int32) : z_T := (h.1, fun a => if a = o1 then va_cpy (z_L h o0) (z_L h o1) sp.toNatClampNeg dp.toNatClampNeg n.toNatClampNeg else z_L h a, h.2.2)
/-- the stretches lie within -/
def z_cpok (h : z_T) (o0 o1 : Nat) (sp dp n : Int32) : Bool := decide (¬ sp < 0) && decide (¬ dp < 0) && decide (¬ n < 0) && decide (sp.toNatClampNeg + n.toNatClampNeg ≤ z_N h o0) && decide (dp.toNatClampNeg + n.toNatClampNeg ≤ z_N h o1)
theorem z_cpI_o {h : z_T} {o0 o1 q : Nat} {sp dp n : Int32} (e : q ≠ o1) : z_I (z_cpI h o0 o1 sp dp n) q = z_I h q := if_neg e
theorem z_cpI_s {h : z_T} {o0 o1 : Nat} {sp dp n : Int32} : z_I (z_cpI h o0 o1 sp dp n) o1 = va_cpy (z_I h o0) (z_I h o1) sp.toNatClampNeg dp.toNatClampNeg n.toNatClampNeg := if_pos rfl
theorem z_cpL_o {h : z_T} {o0 o1 q : Nat} {sp dp n : Int32} (e : q ≠ o1) : z_L (z_cpL h o0 o1 sp dp n) q = z_L h q := if_neg e
theorem z_cpL_s {h : z_T} {o0 o1 : Nat} {sp dp n : Int32} : z_L (z_cpL h o0 o1 sp dp n) o1 = va_cpy (z_L h o0) (z_L h o1) sp.toNatClampNeg dp.toNatClampNeg n.toNatClampNeg := if_pos rfl
section ZCP
variable {p : Program} {l : Launch} {e : Env} {R : Room} {s : State} {m : MethodId} {args : Array Value} {below : List Frame} {meth : Method} {c : Code} {H : Heap} {locs : List Loc} {cells slots : Nat} {Q : State → Prop}
variable {cc : ByteArray} {pc nL : Nat} {ls : Array Slot} {rest : List Value} {own : String} {G : z_Gt} {S : State → Prop} {ad : Nat → Nat} {n0 : Nat} {h h1 : z_T}
theorem z_acopy {α : Type} (mk : α → Value) (hnr : ∀ x, (∃ z, mk x = .int z) ∨ ∃ z, mk x = .long z) (hc : z_C G S ad n0 p m c cc nL s args own meth) (hB : z_B G ad n0 s h H locs) (kd : Nat) (hkd : kd = 13 ∨ kd = 14) {o0 o1 index : Nat} {sp dp n : Int32} (f g : Nat → α) (hf : ∀ j, z_av ad h o0 kd j = mk (f j)) (hg : ∀ j, z_av ad h o1 kd j = mk (g j)) (hfit : ∀ x, fits (z_ty kd) (mk x) = true) (hl : Cond.methodLink own index arraycopyName ∈ z_ws) (hnat : Cond.native arraycopyName ∈ z_ws) (hstat : Cond.static arraycopyName ∈ z_ws) (hini : Cond.initialized "java/lang/System" ∈ z_ws) (hsize : ls.size = nL) (g0 : z_ok h o0 kd = true) (g1 : z_ok h o1 kd = true) (gk : z_cpok h o0 o1 sp dp n = true) (hm : ∀ q, q ≠ o1 → z_sm h h1 q) (hK1 : z_K h1 = z_K h) (hN1 : z_N h1 = z_N h) (hRR : z_R h1 = z_R h) (hn1 : z_n h1 = z_n h) (hv : ∀ j, mk (va_cpy f g sp.toNatClampNeg dp.toNatClampNeg n.toNatClampNeg j) = z_av ad h1 o1 kd j)
    (hframes : 1 ≤ R.frames) (hlocals : (rest.map fun v => v.category).sum + (nativeFrameWords "java/lang/System" "arraycopy" 5 + 11) ≤ R.locals) (hdg : decode cc pc = .ok (.invokestatic index, 3))
    (kk : ∀ (H1 : Heap) (locs1 : List Loc), z_B G ad n0 s h1 H1 locs1 → W p l e R s m args below meth c H1 locs1 cells slots Q (F0 m (pc + 3) ls rest)) : W p l e R s m args below meth c H locs cells slots Q (F0 m pc ls (.int n :: .int dp :: .ref (ad o1) :: .int sp :: .ref (ad o0) :: rest)) := by
  have hc9 := hc
  obtain ⟨⟨hx, hb, hml, hown, hts⟩, hK, -⟩ := hc
  simp only [z_cpok, Bool.and_eq_true, decide_eq_true_eq] at gk
  obtain ⟨⟨⟨⟨h1', h2⟩, h3⟩, h4⟩, h5⟩ := gk
  have nn : ∀ z : Int32, ¬ z < 0 → z.toInt = (z.toNatClampNeg : Int) := by
    intro z hz
    have hz0 : (0 : Int) ≤ z.toInt := by
      have := Int32.not_lt.mp hz
      simpa using Int32.le_iff_toInt_le.mp this
    show z.toInt = ((z.toInt.toNat : Nat) : Int)
    omega
  have ht : z_ty kd = .int ∨ z_ty kd = .long := by rcases hkd with rfl | rfl <;> simp [z_ty]
  have hprim : refKind (z_ty kd) = false := by rcases ht with e | e <;> rw [e] <;> rfl
  intro T hT X
  have k12 : 12 ≤ kd := by omega
  have k19 : kd < 19 := by omega
  have hc0 := z_arr hc9 hB kd g0 k12
  have hc1 := z_arr hc9 hB kd g1 k12
  obtain ⟨-, k0, hk0, cm0, hkk0⟩ := (hK.2.1 kd k12 k19).1 (z_N h o0) (z_av ad h o0 kd)
  obtain ⟨-, k1, hk1, cm1, hkk1⟩ := (hK.2.1 kd k12 k19).1 (z_N h o1) (z_av ad h o1 kd)
  obtain ⟨vm', X', step⟩ := X.arraycopy hx hown (hts _ hl) (hts _ hnat) (hts _ hstat) (hts _ hini) (src := ad o0) (dst := ad o1) (srcPos := sp) (destPos := dp) (n := n) (by rw [hT]; exact hc0) (by rw [hT]; exact hc1)
    (fun _ h => by cases h) (fun _ h => by cases h) (fun h => by cases h) (fun h => by cases h) hk0 hk1 hkk0 hkk1 (by simp [hprim]) h1' h2 h3
    (by rw [nn sp h1', nn n h3]; show ¬ _ > ((arrV _ (z_N h o0) _).slots.size : Int); rw [arrV_size]; omega)
    (by rw [nn dp h2, nn n h3]; show ¬ _ > ((arrV _ (z_N h o1) _).slots.size : Int); rw [arrV_size]; omega)
    (fun vm₁ _ i hi => by
      have e : (arrV (G.2.2.1 kd) (z_N h o0) (z_av ad h o0 kd)).slots.getD (sp.toNatClampNeg + i) .null = mk (f (sp.toNatClampNeg + i)) := by
        rw [Array.getD_eq_getD_getElem?, arrV_read _ _ (by omega)]
        exact hf _
      refine ⟨?_, ?_⟩
      · rw [e]
        exact hfit _
      · rw [e]
        rcases hnr (f (sp.toNatClampNeg + i)) with ⟨z, q⟩ | ⟨z, q⟩ <;> rw [q] <;> exact trivial)
    (g := F0 m pc ls (.int n :: .int dp :: .ref (ad o1) :: .int sp :: .ref (ad o0) :: rest)) rfl (by rw [hml]; exact hsize) (rest := rest) rfl (by rw [hb]; exact hdg) hframes (by show 2 * 0 + _ + _ ≤ _; omega)
  have ef : z_av ad h o0 kd = fun j => mk (f j) := funext hf
  have eg : z_av ad h o1 kd = fun j => mk (g j) := funext hg
  have e1 : copied (arrV (G.2.2.1 kd) (z_N h o0) (z_av ad h o0 kd)) (arrV (G.2.2.1 kd) (z_N h o1) (z_av ad h o1 kd)) sp dp n = arrV (G.2.2.1 kd) (z_N h o1) (fun j => mk (va_cpy f g sp.toNatClampNeg dp.toNatClampNeg n.toNatClampNeg j)) := by
    rw [ef, eg]
    exact va_copied mk _ _ f g h4
  rw [e1] at X' step
  have hl1 : ad o1 < H.size := (Array.getElem?_eq_some_iff.mp hc1).1
  generalize hcl : arrV (G.2.2.1 kd) (z_N h o1) (fun j => mk (va_cpy f g sp.toNatClampNeg dp.toNatClampNeg n.toNatClampNeg j)) = cl at X' step
  have hheap : ((T.setVm vm').setCell (ad o1) cl).heap = H.setIfInBounds (ad o1) cl := by rw [← hT]; rfl
  have oq : ∀ q : Nat, q ≠ ad o1 → (H.setIfInBounds (ad o1) cl)[q]? = H[q]? := fun q hq => by simp [Array.getElem?_setIfInBounds, Ne.symm hq]
  have hz : (H.setIfInBounds (ad o1) cl).size = H.size := by simp
  have hkd1 := z_ok_K g1
  have hcell : z_cell G ad h1 (H.setIfInBounds (ad o1) cl) o1 := by
    refine ⟨fun hh => by rw [hK1, hkd1] at hh; omega, fun _ => ?_, fun j r _ g4 => by rw [hRR] at g4; rw [hn1]; exact z_cla hB g1 (by omega) g4⟩
    rw [hK1, hN1, hkd1, ← hcl]
    have : (H.setIfInBounds (ad o1) (arrV (G.2.2.1 kd) (z_N h o1) (fun j => mk (va_cpy f g sp.toNatClampNeg dp.toNatClampNeg n.toNatClampNeg j))))[ad o1]? = some (arrV (G.2.2.1 kd) (z_N h o1) (fun j => mk (va_cpy f g sp.toNatClampNeg dp.toNatClampNeg n.toNatClampNeg j))) := by simp [Array.getElem?_setIfInBounds, hl1]
    rw [this]
    congr 2
    funext j
    exact hv j
  obtain ⟨t, a1, b1⟩ := kk _ _ ⟨hB.1.put hn1 hm hcell hz oq, by rw [hz]; exact hB.2.1, fun q g1 g2 => by
      rw [oq q (fun e => g2 (by rw [e]; exact hc9.2.2.1 o1))]
      exact hB.2.2.1 q g1 g2, fun q hq => by
      rcases List.mem_append.mp hq with h | h
      · exact hB.2.2.2 q h
      · obtain ⟨z, -, hz⟩ := List.mem_map.mp h
        rw [← hz]
        exact hc9.2.2.1 o1⟩ _ hheap X'
  exact ⟨t, step t a1, b1⟩
theorem z_acopyI (hc : z_C G S ad n0 p m c cc nL s args own meth) (hB : z_B G ad n0 s h H locs) {o0 o1 index : Nat} {sp dp n : Int32} (eh : h1 = z_cpI h o0 o1 sp dp n) (g0 : z_ok h o0 13 = true) (g1 : z_ok h o1 13 = true) (gk : z_cpok h o0 o1 sp dp n = true) (hl : Cond.methodLink own index arraycopyName ∈ z_ws) (hnat : Cond.native arraycopyName ∈ z_ws) (hstat : Cond.static arraycopyName ∈ z_ws) (hini : Cond.initialized "java/lang/System" ∈ z_ws) (hsize : ls.size = nL) 
    (hframes : 1 ≤ R.frames) (hlocals : (rest.map fun v => v.category).sum + (nativeFrameWords "java/lang/System" "arraycopy" 5 + 11) ≤ R.locals) (hdg : decode cc pc = .ok (.invokestatic index, 3))
    (kk : ∀ (H1 : Heap) (locs1 : List Loc), z_B G ad n0 s h1 H1 locs1 → W p l e R s m args below meth c H1 locs1 cells slots Q (F0 m (pc + 3) ls rest)) : W p l e R s m args below meth c H locs cells slots Q (F0 m pc ls (.int n :: .int dp :: .ref (ad o1) :: .int sp :: .ref (ad o0) :: rest)) := by
  subst eh
  exact z_acopy (h1 := z_cpI h o0 o1 sp dp n) (fun x => Value.int x) (fun x => Or.inl ⟨x, rfl⟩) hc hB 13 (Or.inl rfl) (z_I h o0) (z_I h o1) (fun _ => rfl) (fun _ => rfl) (fun _ => rfl) hl hnat hstat hini hsize g0 g1 gk (fun q e => ⟨z_cpI_o e, rfl, rfl, rfl, rfl⟩) rfl rfl rfl rfl (fun j => by show _ = Value.int (z_I (z_cpI h o0 o1 sp dp n) o1 j); rw [z_cpI_s]) hframes hlocals hdg kk
theorem z_acopyL (hc : z_C G S ad n0 p m c cc nL s args own meth) (hB : z_B G ad n0 s h H locs) {o0 o1 index : Nat} {sp dp n : Int32} (eh : h1 = z_cpL h o0 o1 sp dp n) (g0 : z_ok h o0 14 = true) (g1 : z_ok h o1 14 = true) (gk : z_cpok h o0 o1 sp dp n = true) (hl : Cond.methodLink own index arraycopyName ∈ z_ws) (hnat : Cond.native arraycopyName ∈ z_ws) (hstat : Cond.static arraycopyName ∈ z_ws) (hini : Cond.initialized "java/lang/System" ∈ z_ws) (hsize : ls.size = nL) 
    (hframes : 1 ≤ R.frames) (hlocals : (rest.map fun v => v.category).sum + (nativeFrameWords "java/lang/System" "arraycopy" 5 + 11) ≤ R.locals) (hdg : decode cc pc = .ok (.invokestatic index, 3))
    (kk : ∀ (H1 : Heap) (locs1 : List Loc), z_B G ad n0 s h1 H1 locs1 → W p l e R s m args below meth c H1 locs1 cells slots Q (F0 m (pc + 3) ls rest)) : W p l e R s m args below meth c H locs cells slots Q (F0 m pc ls (.int n :: .int dp :: .ref (ad o1) :: .int sp :: .ref (ad o0) :: rest)) := by
  subst eh
  exact z_acopy (h1 := z_cpL h o0 o1 sp dp n) (fun x => Value.long x) (fun x => Or.inr ⟨x, rfl⟩) hc hB 14 (Or.inr rfl) (z_L h o0) (z_L h o1) (fun _ => rfl) (fun _ => rfl) (fun _ => rfl) hl hnat hstat hini hsize g0 g1 gk (fun q e => ⟨rfl, z_cpL_o e, rfl, rfl, rfl⟩) rfl rfl rfl rfl (fun j => by show _ = Value.long (z_L (z_cpL h o0 o1 sp dp n) o1 j); rw [z_cpL_s]) hframes hlocals hdg kk
end ZCP
