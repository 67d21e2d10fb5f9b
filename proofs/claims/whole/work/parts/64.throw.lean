/-! methods that throw -/
/-- the heap of a throw: what was there stays, the thrown thing comes -/
def z_gr (H : Heap) (t : State) : Prop := H.size ≤ t.heap.size ∧ ∀ q : Nat, q < H.size → t.heap[q]? = H[q]?
def z_Qt (G : z_Gt) (ad : Nat → Nat) (h' : z_T) (n sz : Nat) (r : Option Int64) : Array Value → State → Outcome → State → Prop := va_Ql (S := Unit) (fun r' _ => some r' = r) (fun _ t => z_W G ad h' t.heap) (z_A ad n sz)
def z_Xt (G : z_Gt) (ad : Nat → Nat) (h' : z_T) (n sz : Nat) (r : Option Int64) : String → State → State → Prop := vx_X (S := Unit) (fun _ => r = none) (fun E _ t => E = z_nse ∧ ∃ H : Heap, z_W G ad h' H ∧ z_gr H t) (z_A ad n sz)
def z_Tl (G : z_Gt) (S : State → Prop) (l : Launch) (y : MethodName) (b : ByteArray) (nL : Nat) (rm : Room) (av : List Value) (ad : Nat → Nat) (h h' : z_T) (r : Option Int64) : Prop :=
  ∀ sz : Nat, vx_Met l y (.code y b nL (some .long) :: z_ws) rm (va_Pc av (z_P G S ad h sz)) (z_Qt G ad h' (z_n h) sz r) (z_Xt G ad h' (z_n h) sz r) 1 6 (z_A ad (z_n h) sz)
theorem z_ofT {G : z_Gt} {S : State → Prop} {l : Launch} {y : MethodName} {b : ByteArray} {nL : Nat} {rm : Room} {av : List Value} {ad : Nat → Nat} {h h' : z_T} {r : Option Int64} (hSK : z_SK S) (hy : plainName y.cls = true) (hn : (lg_sl av).length ≤ nL)
    (body : ∀ (p : Program) (e : Env) (s : State) (m : MethodId) (args : Array Value) (below : List Frame) (meth : Method) (c : Code) (ls : Array Slot), z_C G S ad (z_n h) p m c b nL s args y.cls meth → meth.sig.returnType = some .long → (∀ x ∈ c.exceptionTable.toList, False) → G.2.2.2.2.size ≤ s.heap.size → z_B G ad (z_n h) s h s.heap [] → lv_has ls nL (lv_args 0 av) →
      W p l e rm s m args below meth c s.heap [] 0 0 (vx_MQ below (z_Qt G ad h' (z_n h) s.heap.size r) (z_Xt G ad h' (z_n h) s.heap.size r) args s 1 6 (z_A ad (z_n h) s.heap.size)) (F0 m 0 ls [])) : z_Tl G S l y b nL rm av ad h h' r := by
  intro sz
  refine vx_ofW (cc := b) (maxL := nL) (ret := some .long) hy rfl ?_
  intro p e s m args below meth c s₁ B hml hx0 hv
  obtain ⟨rfl, hsz, hW, hK⟩ := hv
  subst hsz
  have hts := atoms_spec (ws := Cond.code y b nL (some .long) :: z_ws) B.pre
  have hl := lv_entry av (n := nL) hn
  rw [lg_entry_eq]
  exact body p e s m _ below meth c _ ⟨⟨B.exec, B.bytes, hml, findClass_of_methodNamed B.named, fun w hw => hts w (List.mem_cons_of_mem _ hw)⟩, hK, hW.all, hSK, B.notSynchronized⟩ B.returns hx0 hW.2.2.2.2.2.2 ⟨hW, va_S.rf⟩ hl
theorem z_thw_good : ∀ w ∈ z_thw.filter goodWord, w ∈ z_ws := by
  have key : ∀ l : List Cond, (l.all fun w => decide (w ∈ lw_tbl) && goodWord w) = true → ∀ w ∈ l, w ∈ z_ws := by
    intro l hl w hw
    have h1 := List.all_eq_true.mp hl w hw
    simp only [Bool.and_eq_true, decide_eq_true_eq] at h1
    exact List.mem_filter.mpr h1
  exact key _ (by decide +kernel)
theorem z_thw_ot : ∀ w ∈ Cond.classLink RX11 173 z_nse :: Cond.initialized z_nse :: z_thw, vx_ot w = true := by
  have : (Cond.classLink RX11 173 z_nse :: Cond.initialized z_nse :: z_thw).all vx_ot = true := by decide +kernel
  exact List.all_eq_true.mp this
theorem z_ZqA {C n d : String} {A : Nat → Prop} {U : State} {H0 H : Heap} (h : vx_Zq C n d z_F U H0) (hA : ∀ a : Nat, a < H0.size → ¬ A a) (hq : ∀ a : Nat, a < H0.size → H[a]? = H0[a]?) : vx_Zq C n d A U H := by
  have key : ∀ v, va_Z C n d v z_F U H0 → va_Z C n d v A U H := by
    rintro v ⟨cf, kf, fi, f, a, cell, g1, g2, g3, g4, g5, g6, g7, -⟩
    have ha := (Array.getElem?_eq_some_iff.mp g5).1
    exact ⟨cf, kf, fi, f, a, cell, g1, g2, g3, g4, by rw [hq a ha]; exact g5, g6, g7, hA a ha⟩
  obtain ⟨hz, c, k, i, f, a, cell, g1, g2, g3, g4, g5, g6, g7, g8, g9, -⟩ := h
  have ha := (Array.getElem?_eq_some_iff.mp g5).1
  refine ⟨?_, c, k, i, f, a, cell, g1, g2, g3, g4, by rw [hq a ha]; exact g5, g6, g7, g8, g9, hA a ha⟩
  rcases hz with hz | ⟨t, hz⟩
  · exact Or.inl (key _ hz)
  · exact Or.inr ⟨t, key _ hz⟩
section ZT
variable {p : Program} {l : Launch} {e : Env} {R : Room} {s : State} {m : MethodId} {args : Array Value} {below : List Frame} {meth : Method} {c : Code} {H : Heap} {locs : List Loc}
variable {cc : ByteArray} {pc nL : Nat} {ls : Array Slot} {G : z_Gt} {ad : Nat → Nat} {n0 : Nat} {h : z_T}
theorem z_throw (hc : z_C G (z_S G) ad n0 p m c cc nL s args RX11 meth) (hB : z_B G ad n0 s h H locs) (hfl : l.stackTraces = false) (ht : ∀ x ∈ c.exceptionTable.toList, False) (hs0 : G.2.2.2.2.size ≤ s.heap.size) (q1 : Cond.classLink RX11 173 z_nse ∈ z_ws) (q2 : Cond.initialized z_nse ∈ z_ws) (hsize : ls.size = nL)
    (d0 : decode cc pc = .ok (.new 173, 3)) (d3 : decode cc (pc + 3) = .ok (.dup, 1)) (d4 : decode cc (pc + 4) = .ok (.invokespecial 175, 3)) (d7 : decode cc (pc + 7) = .ok (.athrow, 1)) (hR : 6 ≤ R.frames ∧ 81 ≤ R.locals ∧ 1 ≤ R.cells ∧ 6 ≤ R.slots) :
    W p l e R s m args below meth c H locs 0 0 (vx_MQ below (z_Qt G ad h n0 s.heap.size none) (z_Xt G ad h n0 s.heap.size none) args s 1 6 (z_A ad n0 s.heap.size)) (F0 m pc ls []) := by
  have hc0 := hc
  obtain ⟨⟨hx, hb, hml, hown, hts⟩, hK, hA, -, hlk⟩ := hc
  obtain ⟨hW, hS⟩ := hB
  have hAF : ∀ a : Nat, a < G.2.2.2.2.size → ¬ z_A ad n0 s.heap.size a := by
    rintro a ha (⟨i, -, rfl⟩ | h2)
    · have := hW.2.2.2.1 i; omega
    · omega
  have hold : ∀ a : Nat, a < G.2.2.2.2.size → s.heap[a]? = G.2.2.2.2[a]? := fun a ha => (hS.2.1 a (by omega) (hAF a ha)).symm.trans (hW.2.2.2.2.1 a ha)
  obtain ⟨t1, t2, t3, -, -⟩ := hK.2.2.2.2.2
  have hat : ∀ w ∈ z_thw, w.before args s = true := by
    intro w hw
    by_cases g : goodWord w = true
    · exact hts w (z_thw_good w (List.mem_filter.mpr ⟨hw, g⟩))
    · have hb2 : w ∈ z_thw.filter (fun w => !goodWord w) := List.mem_filter.mpr ⟨hw, by cases hgw : goodWord w; rfl; exact absurd hgw g⟩
      have h3 := List.all_eq_true.mp z_thw_bad w hb2
      have h4 := t1 w hb2
      cases w <;> first | exact va_Nw.use rfl h4 | exact absurd (show false = true from h3) (by decide)
  refine vx_throw0 (names := ["java/lang/RuntimeException", "java/lang/Exception"]) (A := z_A ad n0 s.heap.size) hx hb hfl hown (by decide) (by decide) (hts _ q1) (hts _ q2) hat z_thw_ot (z_ZqA t2 hAF hold) (z_ZqA t3 hAF hold) hS (by rw [hml]; exact hsize) d0 d3 d4 d7 (fun x hx => absurd hx (fun q => ht x q)) (by show 2 + 3 < _; omega) (by show 0 + (13 * (2 + 1) + 42) ≤ _; omega) (by omega) (by omega) hlk (fun t hvm hsz hq => ?_) hS.2.2 (Nat.le_refl _) (Nat.le_refl _)
  exact ⟨(), rfl, ⟨rfl, H, hW, hsz, hq⟩, Nat.le_trans hS.1 hsz, fun q g1 g2 => (hq q (Nat.lt_of_lt_of_le g1 hS.1)).trans (hS.2.1 q g1 g2)⟩
theorem z_tret {r : Int64} (hc : z_C G (z_S G) ad n0 p m c cc nL s args RX11 meth) (hB : z_B G ad n0 s h H locs) (hr : meth.sig.returnType = some .long) (hdg : decode cc pc = .ok (.lreturn, 1)) : W p l e R s m args below meth c H locs 0 0 (vx_MQ below (z_Qt G ad h n0 s.heap.size (some r)) (z_Xt G ad h n0 s.heap.size (some r)) args s 1 6 (z_A ad n0 s.heap.size)) (F0 m pc ls [.long r]) := by
  refine W.widen (k := 1) (n := 6) (by decide) (by decide) ?_
  exact vx_ret (W.lret hc.1.1 hc.1.2.1 hr (fun t ht _ => ⟨⟨r, (), rfl, rfl, (show z_W G ad h t.heap by rw [ht]; exact hB.1)⟩, hB.2.F ht⟩) hB.2.2.2 hdg (hlocks := hc.2.2.2.2))
end ZT
