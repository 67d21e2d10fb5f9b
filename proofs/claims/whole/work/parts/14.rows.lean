/-! rows over the heap by numbers -/
theorem z_uw : ∀ ci, ci < 12 → ∀ w ∈ u_ws (z_c ci).1 (z_c ci).2.1 (z_c ci).2.2, w ∈ z_ws := by
  intro ci hci
  have key : ∀ l : List Cond, (l.all fun w => decide (w ∈ lw_tbl) && goodWord w) = true → ∀ w ∈ l, w ∈ z_ws := by
    intro l hl w hw
    have h1 := List.all_eq_true.mp hl w hw
    simp only [Bool.and_eq_true, decide_eq_true_eq] at h1
    exact List.mem_filter.mpr h1
  rcases (show ci = 0 ∨ ci = 1 ∨ ci = 2 ∨ ci = 3 ∨ ci = 4 ∨ ci = 5 ∨ ci = 6 ∨ ci = 7 ∨ ci = 8 ∨ ci = 9 ∨ ci = 10 ∨ ci = 11 by omega) with rfl | rfl | rfl | rfl | rfl | rfl | rfl | rfl | rfl | rfl | rfl | rfl <;> exact key _ (by decide +kernel)
theorem z_tyok : ∀ ci, ci < 12 → ∀ k, k < (z_c ci).2.2 → parseFieldDescriptor ((z_c ci).2.1 k).2.2.1 = some (z_fty ci k) := by
  intro ci hci
  rcases (show ci = 0 ∨ ci = 1 ∨ ci = 2 ∨ ci = 3 ∨ ci = 4 ∨ ci = 5 ∨ ci = 6 ∨ ci = 7 ∨ ci = 8 ∨ ci = 9 ∨ ci = 10 ∨ ci = 11 by omega) with rfl | rfl | rfl | rfl | rfl | rfl | rfl | rfl | rfl | rfl | rfl | rfl <;> decide +kernel
theorem z_nm : ∀ ci, ci < 12 → ∀ a, a < (z_c ci).2.2 → ∀ b, b < (z_c ci).2.2 → a ≠ b → ((z_c ci).2.1 a).2.1 ≠ ((z_c ci).2.1 b).2.1 := by
  intro ci hci
  rcases (show ci = 0 ∨ ci = 1 ∨ ci = 2 ∨ ci = 3 ∨ ci = 4 ∨ ci = 5 ∨ ci = 6 ∨ ci = 7 ∨ ci = 8 ∨ ci = 9 ∨ ci = 10 ∨ ci = 11 by omega) with rfl | rfl | rfl | rfl | rfl | rfl | rfl | rfl | rfl | rfl | rfl | rfl <;> decide +kernel
/-- what holds all through a method's body -/
def z_C (G : z_Gt) (S : State → Prop) (ad : Nat → Nat) (n0 : Nat) (p : Program) (m : MethodId) (c : Code) (cc : ByteArray) (nL : Nat) (s : State) (args : Array Value) (own : String) (meth : Method) : Prop :=
  CallFix p m c cc nL s args z_ws own ∧ z_KK G S s ∧ (∀ i, z_A ad n0 s.heap.size (ad i)) ∧ z_SK S ∧ meth.locks = false
/-- the heap now -/
def z_B (G : z_Gt) (ad : Nat → Nat) (n0 : Nat) (s : State) (h : z_T) (H : Heap) (locs : List Loc) : Prop := z_W G ad h H ∧ va_S (z_A ad n0 s.heap.size) s.heap H locs
/-- a field's link: an ordinary one, or one among nest mates -/
def z_lk (s : State) (args : Array Value) (own : String) (index : Nat) (ref name desc : String) : Prop := (Cond.fieldLink own index ref name desc).before args s = true ∨ ∃ host, (Cond.fieldLinkNest own index ref name desc host).before args s = true
section ZR
variable {p : Program} {l : Launch} {e : Env} {R : Room} {s : State} {m : MethodId} {args : Array Value} {below : List Frame} {meth : Method} {c : Code} {H : Heap} {locs : List Loc} {cells slots : Nat} {Q : State → Prop}
variable {cc : ByteArray} {pc nL : Nat} {ls : Array Slot} {rest : List Value} {own : String} {G : z_Gt} {S : State → Prop} {ad : Nat → Nat} {n0 : Nat} {h : z_T}
theorem z_l1 {index : Nat} {ref name desc : String} (hc : z_C G S ad n0 p m c cc nL s args own meth) (q : Cond.fieldLink own index ref name desc ∈ z_ws) : z_lk s args own index ref name desc := Or.inl (hc.1.2.2.2.2 _ q)
theorem z_l2 {index : Nat} {ref name desc host : String} (hc : z_C G S ad n0 p m c cc nL s args own meth) (q : Cond.fieldLinkNest own index ref name desc host ∈ z_nw) : z_lk s args own index ref name desc := Or.inr ⟨host, va_Nw.use rfl (hc.2.1.2.2.1 _ q)⟩
theorem z_get (hc : z_C G S ad n0 p m c cc nL s args own meth) (hB : z_B G ad n0 s h H locs) (ci k : Nat) {o index : Nat} (hg : z_ok h o ci = true) (hci : ci < 12) (hk : k < (z_c ci).2.2) (hl : z_lk s args own index ((z_c ci).2.1 k).1 ((z_c ci).2.1 k).2.1 ((z_c ci).2.1 k).2.2.1) (hdg : decode cc pc = .ok (.getfield index, 3))
    (kk : W p l e R s m args below meth c H locs cells slots Q (F0 m (pc + 3) ls (z_fv G ad h o (z_tg ci k) k :: rest))) : W p l e R s m args below meth c H locs cells slots Q (F0 m pc ls (.ref (ad o) :: rest)) := by
  obtain ⟨⟨hx, hb, -, hown, hts⟩, hK, -⟩ := hc
  have hkd := z_ok_K hg
  have hcell := (hB.1.1 o (z_ok_lt hg)).1 (by rw [hkd]; exact hci)
  rw [hkd] at hcell
  obtain ⟨cell, q1, q2, q3, q4⟩ := hcell
  obtain ⟨hS, hfc, kC, hkC, hkind⟩ := hK.1 ci hci
  obtain ⟨cf, kf, fi, f, hi, hsl⟩ := hS k hk
  have hst := (u_facts hfc hkC (u_lays hts (z_uw ci hci) hk) hi).1
  rcases hl with hl | ⟨host, hl⟩
  · exact W.getf hx hb hown hl hi hst q1 (by rw [q3]; exact fun h => by cases h) (by rw [hsl, q4 k hk]) rfl rfl hdg kk
  · exact va_Wgetf hx hb hown hl hi hst q1 (by rw [q3]; exact fun h => by cases h) (by rw [hsl, q4 k hk]) rfl rfl hdg kk
theorem z_getI (hc : z_C G S ad n0 p m c cc nL s args own meth) (hB : z_B G ad n0 s h H locs) (ci k : Nat) {o index : Nat} (hg : z_ok h o ci = true) (hci : ci < 12) (hk : k < (z_c ci).2.2) (ht : z_tg ci k = 0) (hl : z_lk s args own index ((z_c ci).2.1 k).1 ((z_c ci).2.1 k).2.1 ((z_c ci).2.1 k).2.2.1) (hdg : decode cc pc = .ok (.getfield index, 3))
    (kk : W p l e R s m args below meth c H locs cells slots Q (F0 m (pc + 3) ls (.int (z_I h o k) :: rest))) : W p l e R s m args below meth c H locs cells slots Q (F0 m pc ls (.ref (ad o) :: rest)) := z_get hc hB ci k hg hci hk hl hdg (by rw [ht]; exact kk)
theorem z_getL (hc : z_C G S ad n0 p m c cc nL s args own meth) (hB : z_B G ad n0 s h H locs) (ci k : Nat) {o index : Nat} (hg : z_ok h o ci = true) (hci : ci < 12) (hk : k < (z_c ci).2.2) (ht : z_tg ci k = 1) (hl : z_lk s args own index ((z_c ci).2.1 k).1 ((z_c ci).2.1 k).2.1 ((z_c ci).2.1 k).2.2.1) (hdg : decode cc pc = .ok (.getfield index, 3))
    (kk : W p l e R s m args below meth c H locs cells slots Q (F0 m (pc + 3) ls (.long (z_L h o k) :: rest))) : W p l e R s m args below meth c H locs cells slots Q (F0 m pc ls (.ref (ad o) :: rest)) := z_get hc hB ci k hg hci hk hl hdg (by rw [ht]; exact kk)
theorem z_getQ (hc : z_C G S ad n0 p m c cc nL s args own meth) (hB : z_B G ad n0 s h H locs) (ci k : Nat) {o index : Nat} (hg : z_ok h o ci = true) (hci : ci < 12) (hk : k < (z_c ci).2.2) (ht : z_tg ci k = 2) (hl : z_lk s args own index ((z_c ci).2.1 k).1 ((z_c ci).2.1 k).2.1 ((z_c ci).2.1 k).2.2.1) (hdg : decode cc pc = .ok (.getfield index, 3))
    (kk : W p l e R s m args below meth c H locs cells slots Q (F0 m (pc + 3) ls (va_rf ((z_R h o k).map ad) :: rest))) : W p l e R s m args below meth c H locs cells slots Q (F0 m pc ls (.ref (ad o) :: rest)) := z_get hc hB ci k hg hci hk hl hdg (by rw [ht]; exact kk)
theorem z_getR (hc : z_C G S ad n0 p m c cc nL s args own meth) (hB : z_B G ad n0 s h H locs) (ci k : Nat) {o o1 index : Nat} (hg : z_ok h o ci = true) (hr : z_R h o k = some o1) (hci : ci < 12) (hk : k < (z_c ci).2.2) (ht : z_tg ci k = 2) (hl : z_lk s args own index ((z_c ci).2.1 k).1 ((z_c ci).2.1 k).2.1 ((z_c ci).2.1 k).2.2.1) (hdg : decode cc pc = .ok (.getfield index, 3))
    (kk : W p l e R s m args below meth c H locs cells slots Q (F0 m (pc + 3) ls (.ref (ad o1) :: rest))) : W p l e R s m args below meth c H locs cells slots Q (F0 m pc ls (.ref (ad o) :: rest)) := z_getQ hc hB ci k hg hci hk ht hl hdg (by rw [hr]; exact kk)
theorem z_getN (hc : z_C G S ad n0 p m c cc nL s args own meth) (hB : z_B G ad n0 s h H locs) (ci k : Nat) {o index : Nat} (hg : z_ok h o ci = true) (hr : z_R h o k = none) (hci : ci < 12) (hk : k < (z_c ci).2.2) (ht : z_tg ci k = 2) (hl : z_lk s args own index ((z_c ci).2.1 k).1 ((z_c ci).2.1 k).2.1 ((z_c ci).2.1 k).2.2.1) (hdg : decode cc pc = .ok (.getfield index, 3))
    (kk : W p l e R s m args below meth c H locs cells slots Q (F0 m (pc + 3) ls (.null :: rest))) : W p l e R s m args below meth c H locs cells slots Q (F0 m pc ls (.ref (ad o) :: rest)) := z_getQ hc hB ci k hg hci hk ht hl hdg (by rw [hr]; exact kk)
theorem z_getE (hc : z_C G S ad n0 p m c cc nL s args own meth) (hB : z_B G ad n0 s h H locs) (ci k : Nat) {o o1 index : Nat} (hg : z_ok h o ci = true) (hr : z_R h o k = some o1) (hci : ci < 12) (hk : k < (z_c ci).2.2) (ht : z_tg ci k = 3) (hl : z_lk s args own index ((z_c ci).2.1 k).1 ((z_c ci).2.1 k).2.1 ((z_c ci).2.1 k).2.2.1) (hdg : decode cc pc = .ok (.getfield index, 3))
    (kk : W p l e R s m args below meth c H locs cells slots Q (F0 m (pc + 3) ls (.ref (G.2.2.2.1 o1) :: rest))) : W p l e R s m args below meth c H locs cells slots Q (F0 m pc ls (.ref (ad o) :: rest)) := z_get hc hB ci k hg hci hk hl hdg (by rw [ht]; show W p l e R s m args below meth c H locs cells slots Q (F0 m (pc + 3) ls (va_rf ((z_R h o k).map G.2.2.2.1) :: rest)); rw [hr]; exact kk)
theorem z_clo (hB : z_B G ad n0 s h H locs) {ci o : Nat} (hg : z_ok h o ci = true) {j r : Nat} (t : z_tg ci j = 2) (g : z_R h o j = some r) : r < z_n h := (hB.1.1 o (z_ok_lt hg)).2.2 j r (fun _ => by rw [z_ok_K hg]; exact t) g
theorem z_cla (hB : z_B G ad n0 s h H locs) {kd o : Nat} (hg : z_ok h o kd = true) (h1 : 12 ≤ kd) {j r : Nat} (g : z_R h o j = some r) : r < z_n h := (hB.1.1 o (z_ok_lt hg)).2.2 j r (fun hh => by rw [z_ok_K hg] at hh; omega) g
theorem z_S_put {H1 : Heap} {o k : Nat} (hc : z_C G S ad n0 p m c cc nL s args own meth) (hB : z_B G ad n0 s h H locs) (z : H1.size = H.size) (oq : ∀ q : Nat, q ≠ ad o → H1[q]? = H[q]?) : va_S (z_A ad n0 s.heap.size) s.heap H1 (locs ++ [⟨ad o, k⟩]) := hB.2.put z oq (hc.2.2.1 o)
/-- a field is written: h' is h with v at (o, k) -/
theorem z_put (hc : z_C G S ad n0 p m c cc nL s args own meth) (hB : z_B G ad n0 s h H locs) (ci k : Nat) {o index : Nat} {h' : z_T} {v : Value} (hg : z_ok h o ci = true) (hci : ci < 12) (hk : k < (z_c ci).2.2) (hfin : ((z_c ci).2.1 k).2.2.2 = false ∨ (((z_c ci).2.1 k).2.2.2 = true ∧ meth.name = "<init>" ∧ ((z_c ci).2.1 k).1 = own)) (hl : z_lk s args own index ((z_c ci).2.1 k).1 ((z_c ci).2.1 k).2.1 ((z_c ci).2.1 k).2.2.1) (hno : ((z_c ci).2.1 k).2.2.2 = true → (Cond.fieldLink own index ((z_c ci).2.1 k).1 ((z_c ci).2.1 k).2.1 ((z_c ci).2.1 k).2.2.1).before args s = true) (hn : narrow (z_fty ci k) v = v) (hfit : fits (z_fty ci k) v = true)
    (e1 : z_n h' = z_n h) (e2 : ∀ q, q ≠ o → z_sm h h' q) (e3 : z_K h' = z_K h) (e4 : ∀ j, j < (z_c ci).2.2 → updV (fun k => z_fv G ad h o (z_tg ci k) k) k v j = z_fv G ad h' o (z_tg ci j) j) (e5 : ∀ j r, z_tg ci j = 2 → z_R h' o j = some r → r < z_n h) (hdg : decode cc pc = .ok (.putfield index, 3))
    (kk : ∀ (H1 : Heap) (locs1 : List Loc), z_B G ad n0 s h' H1 locs1 → W p l e R s m args below meth c H1 locs1 cells slots Q (F0 m (pc + 3) ls rest)) : W p l e R s m args below meth c H locs cells slots Q (F0 m pc ls (v :: .ref (ad o) :: rest)) := by
  have hc0 := hc
  obtain ⟨⟨hx, hb, -, hown, hts⟩, hK, -⟩ := hc
  have hkd := z_ok_K hg
  have hcell := (hB.1.1 o (z_ok_lt hg)).1 (by rw [hkd]; exact hci)
  rw [hkd] at hcell
  obtain ⟨cell, q1, q2, q3, q4⟩ := hcell
  obtain ⟨hS, hfc, kC, hkC, hkind⟩ := hK.1 ci hci
  have hap : ∀ x y, x < (z_c ci).2.2 → y < (z_c ci).2.2 → x ≠ y → (G.2.1 ci) x ≠ (G.2.1 ci) y := by
    intro x y hx hy hne
    obtain ⟨_, _, _, fa, hia, ea⟩ := hS x hx
    obtain ⟨_, _, _, fb, hib, eb⟩ := hS y hy
    rw [← ea, ← eb]
    refine u_apart (u_lays hts (z_uw ci hci) hx) (u_lays hts (z_uw ci hci) hy) hia hib ?_
    rw [(State.fieldFound?_type hia (z_tyok ci hci x hx)).1, (State.fieldFound?_type hib (z_tyok ci hci y hy)).1]
    exact z_nm ci hci x hx y hy hne
  obtain ⟨cf, kf, fi, f, hi, hsl⟩ := hS k hk
  have hst := (u_facts hfc hkC (u_lays hts (z_uw ci hci) hk) hi).1
  have fin : ∀ H1 : Heap, H1[ad o]? = some (cell.setSlot f.slot v) → H1.size = H.size → (∀ q, q ≠ ad o → H1[q]? = H[q]?) → z_B G ad n0 s h' H1 (locs ++ [⟨ad o, f.slot⟩]) := by
    intro H1 g1 g2 g3
    rw [hsl] at g1
    refine ⟨hB.1.put e1 e2 ⟨fun _ => ?_, fun hh => ?_, fun j r g4 g5 => by rw [e3, hkd] at g4; rw [e1]; exact e5 j r (g4 hci) g5⟩ g2 g3, z_S_put hc0 hB g2 g3⟩
    · rw [e3, hkd]
      exact t_OB.to (V := updV (fun k => z_fv G ad h o (z_tg ci k) k) k v) ⟨_, g1, q2, q3, t_set q4 hap hk v⟩ e4
    · rw [e3, hkd] at hh; omega
  have hlay0 := hts _ (z_uw ci hci _ (u_in_lay hk))
  unfold u_lay at hlay0
  rcases hfin with hfin | ⟨hfin, hin2, hdecl⟩
  · rw [if_neg (by rw [hfin]; decide)] at hlay0
    have h6 := u_store hfc hkC hkind hlay0 hi (z_tyok ci hci k hk) hn hfit
    rcases hl with hl | ⟨host, hl⟩
    · exact W.putK hx hb (f := f) ⟨hown, hl, ⟨_, _, _, hi⟩, hst⟩ (by rw [q2]; exact h6) q1 q3 (by rw [hsl]; exact k2_hasslot (q4 k hk)) rfl rfl hdg fun H' g1 g2 g3 => kk H' _ (fin H' g1 g2 g3)
    · exact va_WputK hx hb (f := f) hown hl hi hst (by rw [q2]; exact h6) q1 q3 (by rw [hsl]; exact k2_hasslot (q4 k hk)) rfl rfl hdg fun H' g1 g2 g3 => kk H' _ (fin H' g1 g2 g3)
  · rw [if_pos hfin] at hlay0
    have hcf : m.cls = cf := by
      obtain ⟨_, _, c', _, _, _, -, -, hf', -, -, -, hown2, -⟩ := Cond.laysFinal_spec hlay0
      have e1 : c' = cf := by have := hi.symm.trans hf'; simp at this; exact this.1.symm
      rw [hdecl] at hown2
      rw [← e1]; exact Option.some.inj (hown.symm.trans hown2)
    have h6 := u_fits hfc hkC hkind (Or.inr hlay0) hi (z_tyok ci hci k hk) hn hfit
    exact W.putFinK hx hb hown (hno hfin) hi hst hcf hin2 (by rw [q2]; exact h6) q1 q3 (by rw [hsl]; exact k2_hasslot (q4 k hk)) rfl rfl hdg fun H' g1 g2 g3 => kk H' _ (fin H' g1 g2 g3)
theorem z_sm_I {o k : Nat} {v : Int32} : ∀ q, q ≠ o → z_sm h (z_sI h o k v) q := fun q e => ⟨z_u2_o e, rfl, rfl, rfl, rfl⟩
theorem z_sm_L {o k : Nat} {v : Int64} : ∀ q, q ≠ o → z_sm h (z_sL h o k v) q := fun q e => ⟨rfl, z_u2_o e, rfl, rfl, rfl⟩
theorem z_sm_R {o k : Nat} {v : Option Nat} : ∀ q, q ≠ o → z_sm h (z_sR h o k v) q := fun q e => ⟨rfl, rfl, z_u2_o e, rfl, rfl⟩
theorem z_putI (hc : z_C G S ad n0 p m c cc nL s args own meth) (hB : z_B G ad n0 s h H locs) (ci k : Nat) {o index : Nat} {x : Int32} (hg : z_ok h o ci = true) (hci : ci < 12) (hk : k < (z_c ci).2.2) (ht : z_tg ci k = 0) (hfin : ((z_c ci).2.1 k).2.2.2 = false) (hl : z_lk s args own index ((z_c ci).2.1 k).1 ((z_c ci).2.1 k).2.1 ((z_c ci).2.1 k).2.2.1) (hn : narrow (z_fty ci k) (.int x) = .int x) (hfit : fits (z_fty ci k) (.int x) = true) (hdg : decode cc pc = .ok (.putfield index, 3))
    (kk : ∀ (H1 : Heap) (locs1 : List Loc), z_B G ad n0 s (z_sI h o k x) H1 locs1 → W p l e R s m args below meth c H1 locs1 cells slots Q (F0 m (pc + 3) ls rest)) : W p l e R s m args below meth c H locs cells slots Q (F0 m pc ls (.int x :: .ref (ad o) :: rest)) := by
  refine z_put hc hB ci k (h' := z_sI h o k x) hg hci hk (Or.inl hfin) hl (fun q => by rw [hfin] at q; cases q) hn hfit rfl z_sm_I rfl (fun j hj => ?_) (fun j r t g => z_clo hB hg t g) hdg kk
  by_cases e : j = k
  · subst e
    show updV _ _ _ _ = z_fv G ad _ o (z_tg ci j) j
    rw [ht]
    show updV _ _ _ _ = Value.int (z_u2 h.1 o j x o j)
    simp [updV, z_u2_s]
  · simp only [updV, if_neg e]
    unfold z_fv z_sI z_I z_L z_R
    simp only [z_u2_s, if_neg e]
theorem z_putL (hc : z_C G S ad n0 p m c cc nL s args own meth) (hB : z_B G ad n0 s h H locs) (ci k : Nat) {o index : Nat} {x : Int64} (hg : z_ok h o ci = true) (hci : ci < 12) (hk : k < (z_c ci).2.2) (ht : z_tg ci k = 1) (hfin : ((z_c ci).2.1 k).2.2.2 = false) (hl : z_lk s args own index ((z_c ci).2.1 k).1 ((z_c ci).2.1 k).2.1 ((z_c ci).2.1 k).2.2.1) (hn : narrow (z_fty ci k) (.long x) = .long x) (hfit : fits (z_fty ci k) (.long x) = true) (hdg : decode cc pc = .ok (.putfield index, 3))
    (kk : ∀ (H1 : Heap) (locs1 : List Loc), z_B G ad n0 s (z_sL h o k x) H1 locs1 → W p l e R s m args below meth c H1 locs1 cells slots Q (F0 m (pc + 3) ls rest)) : W p l e R s m args below meth c H locs cells slots Q (F0 m pc ls (.long x :: .ref (ad o) :: rest)) := by
  refine z_put hc hB ci k (h' := z_sL h o k x) hg hci hk (Or.inl hfin) hl (fun q => by rw [hfin] at q; cases q) hn hfit rfl z_sm_L rfl (fun j hj => ?_) (fun j r t g => z_clo hB hg t g) hdg kk
  by_cases e : j = k
  · subst e
    show updV _ _ _ _ = z_fv G ad _ o (z_tg ci j) j
    rw [ht]
    show updV _ _ _ _ = Value.long (z_u2 h.2.1 o j x o j)
    simp [updV, z_u2_s]
  · simp only [updV, if_neg e]
    unfold z_fv z_sL z_I z_L z_R
    simp only [z_u2_s, if_neg e]
/-- a reference is written (none: null); own final fields in a constructor too -/
theorem z_putQ (hc : z_C G S ad n0 p m c cc nL s args own meth) (hB : z_B G ad n0 s h H locs) (ci k : Nat) {o index : Nat} {r : Option Nat} {v : Value} (hv : v = va_rf (r.map ad)) (hr : ∀ q, r = some q → q < z_n h) (hg : z_ok h o ci = true) (hci : ci < 12) (hk : k < (z_c ci).2.2) (ht : z_tg ci k = 2) (hfin : ((z_c ci).2.1 k).2.2.2 = false ∨ (((z_c ci).2.1 k).2.2.2 = true ∧ meth.name = "<init>" ∧ ((z_c ci).2.1 k).1 = own)) (hl : z_lk s args own index ((z_c ci).2.1 k).1 ((z_c ci).2.1 k).2.1 ((z_c ci).2.1 k).2.2.1) (hno : ((z_c ci).2.1 k).2.2.2 = true → (Cond.fieldLink own index ((z_c ci).2.1 k).1 ((z_c ci).2.1 k).2.1 ((z_c ci).2.1 k).2.2.1).before args s = true) (hn : ∀ r : Option Nat, narrow (z_fty ci k) (va_rf r) = va_rf r) (hfit : ∀ r : Option Nat, fits (z_fty ci k) (va_rf r) = true) (hdg : decode cc pc = .ok (.putfield index, 3))
    (kk : ∀ (H1 : Heap) (locs1 : List Loc), z_B G ad n0 s (z_sR h o k r) H1 locs1 → W p l e R s m args below meth c H1 locs1 cells slots Q (F0 m (pc + 3) ls rest)) : W p l e R s m args below meth c H locs cells slots Q (F0 m pc ls (v :: .ref (ad o) :: rest)) := by
  subst hv
  refine z_put hc hB ci k (h' := z_sR h o k r) hg hci hk hfin hl hno (hn _) (hfit _) rfl z_sm_R rfl (fun j hj => ?_) (fun j q t g => by
    have g' : z_u2 h.2.2.1 o k r o j = some q := g
    rw [z_u2_s] at g'
    by_cases e : j = k
    · rw [if_pos e] at g'; exact hr q g'
    · rw [if_neg e] at g'; exact z_clo hB hg t g') hdg kk
  by_cases e : j = k
  · subst e
    show updV _ _ _ _ = z_fv G ad _ o (z_tg ci j) j
    rw [ht]
    show updV _ _ _ _ = va_rf ((z_u2 h.2.2.1 o j r o j).map ad)
    simp [updV, z_u2_s]
  · simp only [updV, if_neg e]
    unfold z_fv z_sR z_I z_L z_R
    simp only [z_u2_s, if_neg e]
theorem z_putE (hc : z_C G S ad n0 p m c cc nL s args own meth) (hB : z_B G ad n0 s h H locs) (ci k : Nat) {o index r : Nat} (hg : z_ok h o ci = true) (hci : ci < 12) (hk : k < (z_c ci).2.2) (ht : z_tg ci k = 3) (hfin : ((z_c ci).2.1 k).2.2.2 = false) (hl : z_lk s args own index ((z_c ci).2.1 k).1 ((z_c ci).2.1 k).2.1 ((z_c ci).2.1 k).2.2.1) (hn : ∀ a : Nat, narrow (z_fty ci k) (.ref a) = .ref a) (hfit : ∀ a : Nat, fits (z_fty ci k) (.ref a) = true) (hdg : decode cc pc = .ok (.putfield index, 3))
    (kk : ∀ (H1 : Heap) (locs1 : List Loc), z_B G ad n0 s (z_sR h o k (some r)) H1 locs1 → W p l e R s m args below meth c H1 locs1 cells slots Q (F0 m (pc + 3) ls rest)) : W p l e R s m args below meth c H locs cells slots Q (F0 m pc ls (.ref (G.2.2.2.1 r) :: .ref (ad o) :: rest)) := by
  refine z_put hc hB ci k (h' := z_sR h o k (some r)) hg hci hk (Or.inl hfin) hl (fun q => by rw [hfin] at q; cases q) (hn _) (hfit _) rfl z_sm_R rfl (fun j hj => ?_) (fun j q t g => by
    have g' : z_u2 h.2.2.1 o k (some r) o j = some q := g
    rw [z_u2_s] at g'
    by_cases e : j = k
    · subst e; rw [ht] at t; cases t
    · rw [if_neg e] at g'; exact z_clo hB hg t g') hdg kk
  by_cases e : j = k
  · subst e
    show updV _ _ _ _ = z_fv G ad _ o (z_tg ci j) j
    rw [ht]
    show updV _ _ _ _ = va_rf ((z_u2 h.2.2.1 o j (some r) o j).map G.2.2.2.1)
    simp [updV, z_u2_s, va_rf]
  · simp only [updV, if_neg e]
    unfold z_fv z_sR z_I z_L z_R
    simp only [z_u2_s, if_neg e]
end ZR
