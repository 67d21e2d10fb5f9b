/-! contracts over the heap by numbers, calls, ends -/
def z_P (G : z_Gt) (S : State → Prop) (ad : Nat → Nat) (h : z_T) (sz : Nat) (U : State) : Prop := U.heap.size = sz ∧ z_W G ad h U.heap ∧ z_KK G S U
def z_Qi (G : z_Gt) (ad : Nat → Nat) (h' : z_T) (n sz : Nat) (r : Int32) : Array Value → State → Outcome → State → Prop := va_Qi (S := Unit) (fun r' _ => r' = r) (fun _ t => z_W G ad h' t.heap) (z_A ad n sz)
def z_Ql (G : z_Gt) (ad : Nat → Nat) (h' : z_T) (n sz : Nat) (r : Int64) : Array Value → State → Outcome → State → Prop := va_Ql (S := Unit) (fun r' _ => r' = r) (fun _ t => z_W G ad h' t.heap) (z_A ad n sz)
def z_Qv (G : z_Gt) (ad : Nat → Nat) (h' : z_T) (n sz : Nat) : Array Value → State → Outcome → State → Prop := va_Qv (S := Unit) (fun _ => True) (fun _ t => z_W G ad h' t.heap) (z_A ad n sz)
def z_Qe (G : z_Gt) (ad : Nat → Nat) (h' : z_T) (n sz : Nat) (r : Nat) : Array Value → State → Outcome → State → Prop := va_Qr (S := Unit) (fun _ => True) (fun _ a t => a = G.2.2.2.1 r ∧ z_W G ad h' t.heap) (z_A ad n sz)
/-- a method's contract: at the heap h it ends with the heap h' and answers r -/
def z_Mq (G : z_Gt) (S : State → Prop) (l : Launch) (y : MethodName) (b : ByteArray) (nL : Nat) (ret : Option FieldType) (rm : Room) (mc ms : Nat) (av : List Value) (ad : Nat → Nat) (h : z_T) (Qc : Nat → Array Value → State → Outcome → State → Prop) : Prop :=
  ∀ sz : Nat, Met l y (.code y b nL ret :: z_ws) rm (va_Pc av (z_P G S ad h sz)) (Qc sz) mc ms (z_A ad (z_n h) sz)
def z_Mi (G : z_Gt) (S : State → Prop) (l : Launch) (y : MethodName) (b : ByteArray) (nL : Nat) (ty : FieldType) (rm : Room) (mc ms : Nat) (av : List Value) (ad : Nat → Nat) (h h' : z_T) (r : Int32) : Prop := z_Mq G S l y b nL (some ty) rm mc ms av ad h (fun sz => z_Qi G ad h' (z_n h) sz r)
def z_Ml (G : z_Gt) (S : State → Prop) (l : Launch) (y : MethodName) (b : ByteArray) (nL : Nat) (ty : FieldType) (rm : Room) (mc ms : Nat) (av : List Value) (ad : Nat → Nat) (h h' : z_T) (r : Int64) : Prop := z_Mq G S l y b nL (some ty) rm mc ms av ad h (fun sz => z_Ql G ad h' (z_n h) sz r)
def z_Mv (G : z_Gt) (S : State → Prop) (l : Launch) (y : MethodName) (b : ByteArray) (nL : Nat) (rm : Room) (mc ms : Nat) (av : List Value) (ad : Nat → Nat) (h h' : z_T) : Prop := z_Mq G S l y b nL none rm mc ms av ad h (fun sz => z_Qv G ad h' (z_n h) sz)
def z_Me (G : z_Gt) (S : State → Prop) (l : Launch) (y : MethodName) (b : ByteArray) (nL : Nat) (ty : FieldType) (rm : Room) (mc ms : Nat) (av : List Value) (ad : Nat → Nat) (h h' : z_T) (r : Nat) : Prop := z_Mq G S l y b nL (some ty) rm mc ms av ad h (fun sz => z_Qe G ad h' (z_n h) sz r)
theorem z_good : ∀ w ∈ z_ws, w ∈ z_ws ∧ ((w.onTables && w.keeps) = true ∨ ∃ ty, w = .arrayClass ty) := fun w h => ⟨h, good_of_word (List.mem_filter.mp h).2⟩
theorem z_goodIn {y : MethodName} {b : ByteArray} {nL : Nat} {ret : Option FieldType} (h : Cond.code y b nL ret ∈ z_ws) : GoodIn z_ws (.code y b nL ret :: z_ws) := fun w hw => by
  rcases List.mem_cons.mp hw with rfl | hw
  · exact z_good _ h
  · exact z_good _ hw
/-- a method is walked: from its entry, with its first locals -/
theorem z_ofW {G : z_Gt} {S : State → Prop} {l : Launch} {y : MethodName} {b : ByteArray} {nL : Nat} {ret : Option FieldType} {rm : Room} {mc ms : Nat} {av : List Value} {ad : Nat → Nat} {h : z_T} {Qc : Nat → Array Value → State → Outcome → State → Prop} (hSK : z_SK S) (hy : plainName y.cls = true) (hn : (lg_sl av).length ≤ nL)
    (body : ∀ (p : Program) (e : Env) (s : State) (m : MethodId) (args : Array Value) (below : List Frame) (meth : Method) (c : Code) (ls : Array Slot), z_C G S ad (z_n h) p m c b nL s args y.cls meth → meth.sig.returnType = ret → meth.name = y.name → z_B G ad (z_n h) s h s.heap [] → lv_has ls nL (lv_args 0 av) →
      W p l e rm s m args below meth c s.heap [] 0 0 (MQ below (Qc s.heap.size) args s mc ms (z_A ad (z_n h) s.heap.size)) (F0 m 0 ls [])) : z_Mq G S l y b nL ret rm mc ms av ad h Qc := by
  intro sz
  refine Met.ofW (cc := b) (maxL := nL) (ret := ret) hy rfl ?_
  intro p e s m args below meth c s₁ B hml hv
  obtain ⟨rfl, hsz, hW, hK⟩ := hv
  subst hsz
  have hts := atoms_spec (ws := Cond.code y b nL ret :: z_ws) B.pre
  have hl := lv_entry av (n := nL) hn
  rw [lg_entry_eq]
  exact body p e s m _ below meth c _ ⟨⟨B.exec, B.bytes, hml, findClass_of_methodNamed B.named, fun w hw => hts w (List.mem_cons_of_mem _ hw)⟩, hK, hW.all, hSK, B.notSynchronized⟩ B.returns (name_of_methodNamed B.named B.method).1 ⟨hW, va_S.rf⟩ hl
/-- what the words say of a method that is called -/
def z_md (y : MethodName) (b : ByteArray) (nL : Nat) (ret : Option FieldType) (n : Nat) : Prop :=
  Cond.initialized y.cls ∈ z_ws ∧ Cond.code y b nL ret ∈ z_ws ∧ (y.cls ≠ "java/lang/invoke/MethodHandle" ∧ y.cls ≠ "java/lang/invoke/VarHandle" ∧ (parseMethodDescriptor y.desc).map (fun d => d.parameters.length) = some n)
def z_mdV (y : MethodName) (b : ByteArray) (nL : Nat) (ret : Option FieldType) (n : Nat) : Prop := z_md y b nL ret n ∧ Cond.instanceMethod y ∈ z_ws ∧ Cond.selects y.cls y y ∈ z_ws
def z_mdS (y : MethodName) (b : ByteArray) (nL : Nat) (ret : Option FieldType) (n : Nat) : Prop := z_md y b nL ret n ∧ Cond.static y ∈ z_ws
def z_mdI (y : MethodName) (b : ByteArray) (nL : Nat) (n : Nat) : Prop := z_md y b nL none n ∧ y.name = "<init>" ∧ Cond.instanceMethod y ∈ z_ws
section ZC
variable {p : Program} {l : Launch} {e : Env} {R : Room} {s : State} {m : MethodId} {args : Array Value} {below : List Frame} {meth : Method} {c : Code} {H : Heap} {locs : List Loc} {cells slots : Nat} {Q : State → Prop}
variable {cc : ByteArray} {pc nL : Nat} {ls : Array Slot} {rest st0 : List Value} {own : String} {G : z_Gt} {S : State → Prop} {ad : Nat → Nat} {n0 : Nat} {h h' : z_T}
variable {y : MethodName} {bytes : ByteArray} {maxL mc ms n index : Nat} {ret : Option FieldType} {ty : FieldType} {rm : Room} {As av : List Value} {Qc : Nat → Array Value → State → Outcome → State → Prop}
theorem z_cb (hc : z_C G S ad n0 p m c cc nL s args own meth) (md : z_md y bytes maxL ret n) (hl : Cond.methodLink own index y ∈ z_ws) (hrc : rm.cells = mc) (hrs : rm.slots = ms) (hR : rm.frames + 1 ≤ R.frames ∧ 8 + (maxL + 11) + rm.locals ≤ R.locals) : CallB R s args own index y bytes maxL ret (.code y bytes maxL ret :: z_ws) rm mc ms n :=
  callB_of n hc.1.2.2.2.2 (z_goodIn md.2.1) rfl hrc hrs (hc.1.2.2.2.2 _ md.1) (hc.1.2.2.2.2 _ hl) md.2.2 hR
theorem z_pre (hc : z_C G S ad n0 p m c cc nL s args own meth) (hB : z_B G ad n0 s h H locs) : PreS s H (va_Pc av (z_P G S ad h H.size)) av :=
  ⟨fun a U g mk q => ⟨q.1, q.2.1, q.2.2.1, q.2.2.2.calling hc.2.2.2.1⟩, fun U hU hW => ⟨rfl, by rw [hU], by rw [hU]; exact hB.1, hc.2.1.warm hc.2.2.2.1 hW⟩⟩
theorem z_preV (hc : z_C G S ad n0 p m c cc nL s args own meth) (hB : z_B G ad n0 s h H locs) {ci o : Nat} (hg : z_ok h o ci = true) (hci : ci < 12) (hcl : y.cls = (z_c ci).1) : PreV s H y.cls (ad o) (va_Pc (.ref (ad o) :: As) (z_P G S ad h H.size)) As := by
  have hkd := z_ok_K hg
  have hcell := (hB.1.1 o (z_ok_lt hg)).1 (by rw [hkd]; exact hci)
  rw [hkd] at hcell
  obtain ⟨cell, q1, q2, q3, -⟩ := hcell
  exact ⟨(z_pre hc hB (av := .ref (ad o) :: As)).1, ⟨cell, q1, by rw [q3]; rfl, by rw [q2, hcl]; exact (hc.2.1.1 ci hci).2.1⟩, (z_pre hc hB (av := .ref (ad o) :: As)).2⟩
theorem z_A1 (hc : z_C G S ad n0 p m c cc nL s args own meth) (hB : z_B G ad n0 s h H locs) : ∀ q, z_A ad (z_n h) H.size q → z_A ad n0 s.heap.size q := by
  rintro q (⟨i, -, rfl⟩ | hq)
  · exact hc.2.2.1 i
  · exact Or.inr (Nat.le_trans hB.2.1 hq)
theorem z_runV (hc : z_C G S ad n0 p m c cc nL s args own meth) (hB : z_B G ad n0 s h H locs) (ci : Nat) {o : Nat} (hM : z_Mq G S l y bytes maxL ret rm mc ms (.ref (ad o) :: As) ad h Qc) (md : z_mdV y bytes maxL ret n) (hl : Cond.methodLink own index y ∈ z_ws) (hg : z_ok h o ci = true) (hci : ci < 12) (hcl : y.cls = (z_c ci).1) (hrc : rm.cells = mc) (hrs : rm.slots = ms) (hR : rm.frames + 1 ≤ R.frames ∧ 8 + (maxL + 11) + rm.locals ≤ R.locals) (hn : As.length = n) (hsize : ls.size = nL) (hst : st0 = As.reverse ++ .ref (ad o) :: rest) (hW : (rest.map fun v => v.category).sum ≤ 8) (hdg : decode cc pc = .ok (.invokevirtual index, 3)) (hf : cells + mc ≤ R.cells ∧ slots + ms ≤ R.slots) :
    va_Run p l e R s m args below meth c H locs cells slots mc ms (F0 m pc ls st0) rest (Qc H.size (Value.ref (ad o) :: As).toArray) (z_A ad (z_n h) H.size) :=
  va_runV hc.1 (hM H.size) ⟨z_cb hc md.1 hl hrc hrs hR, hc.1.2.2.2.2 _ md.2.1, hc.1.2.2.2.2 _ md.2.2⟩ (z_preV hc hB hg hci hcl) rfl hn hsize hst (by show 2 * 0 + _ ≤ 8; omega) hdg hf
theorem z_runS (hc : z_C G S ad n0 p m c cc nL s args own meth) (hB : z_B G ad n0 s h H locs) (hM : z_Mq G S l y bytes maxL ret rm mc ms As ad h Qc) (md : z_mdS y bytes maxL ret n) (hl : Cond.methodLink own index y ∈ z_ws) (hrc : rm.cells = mc) (hrs : rm.slots = ms) (hR : rm.frames + 1 ≤ R.frames ∧ 8 + (maxL + 11) + rm.locals ≤ R.locals) (hn : As.length = n) (hsize : ls.size = nL) (hst : st0 = As.reverse ++ rest) (hW : (rest.map fun v => v.category).sum ≤ 8) (hdg : decode cc pc = .ok (.invokestatic index, 3)) (hf : cells + mc ≤ R.cells ∧ slots + ms ≤ R.slots) :
    va_Run p l e R s m args below meth c H locs cells slots mc ms (F0 m pc ls st0) rest (Qc H.size As.toArray) (z_A ad (z_n h) H.size) :=
  va_runS hc.1 (hM H.size) ⟨z_cb hc md.1 hl hrc hrs hR, hc.1.2.2.2.2 _ md.2⟩ (z_pre hc hB) rfl hn hsize hst (by show 2 * 0 + _ ≤ 8; omega) hdg hf
theorem z_runI (hc : z_C G S ad n0 p m c cc nL s args own meth) (hB : z_B G ad n0 s h H locs) {o : Nat} (hM : z_Mq G S l y bytes maxL none rm mc ms (.ref (ad o) :: As) ad h Qc) (md : z_mdI y bytes maxL n) (hl : Cond.methodLink own index y ∈ z_ws) (hrc : rm.cells = mc) (hrs : rm.slots = ms) (hR : rm.frames + 1 ≤ R.frames ∧ 8 + (maxL + 11) + rm.locals ≤ R.locals) (hn : As.length = n) (hsize : ls.size = nL) (hst : st0 = As.reverse ++ .ref (ad o) :: rest) (hW : (rest.map fun v => v.category).sum ≤ 8) (hdg : decode cc pc = .ok (.invokespecial index, 3)) (hf : cells + mc ≤ R.cells ∧ slots + ms ≤ R.slots) :
    va_Run p l e R s m args below meth c H locs cells slots mc ms (F0 m pc ls st0) rest (Qc H.size (Value.ref (ad o) :: As).toArray) (z_A ad (z_n h) H.size) :=
  va_runI hc.1 (hM H.size) ⟨z_cb hc md.1 hl hrc hrs hR, md.2.1, hc.1.2.2.2.2 _ md.2.2⟩ (z_pre hc hB) rfl hn hsize hst (by show 2 * 0 + _ ≤ 8; omega) hdg hf
theorem z_runIN (hc : z_C G S ad n0 p m c cc nL s args own meth) (hB : z_B G ad n0 s h H locs) {o : Nat} {host : String} (hM : z_Mq G S l y bytes maxL none rm mc ms (.ref (ad o) :: As) ad h Qc) (md : z_mdI y bytes maxL n) (hl : Cond.methodLinkNest own index y host ∈ z_nw) (hrc : rm.cells = mc) (hrs : rm.slots = ms) (hR : rm.frames + 1 ≤ R.frames ∧ 8 + (maxL + 11) + rm.locals ≤ R.locals) (hn : As.length = n) (hsize : ls.size = nL) (hst : st0 = As.reverse ++ .ref (ad o) :: rest) (hW : (rest.map fun v => v.category).sum ≤ 8) (hdg : decode cc pc = .ok (.invokespecial index, 3)) (hf : cells + mc ≤ R.cells ∧ slots + ms ≤ R.slots) :
    va_Run p l e R s m args below meth c H locs cells slots mc ms (F0 m pc ls st0) rest (Qc H.size (Value.ref (ad o) :: As).toArray) (z_A ad (z_n h) H.size) :=
  va_runIN (host := host) hc.1 (hM H.size) ⟨va_cnB n hc.1.2.2.2.2 (z_goodIn md.1.2.1) rfl hrc hrs (hc.2.1.2.2.1 _ hl) (hc.1.2.2.2.2 _ md.1.1) md.1.2.2 hR, md.2.1, hc.1.2.2.2.2 _ md.2.2⟩ (z_pre hc hB) rfl hn hsize hst (by show 2 * 0 + _ ≤ 8; omega) hdg hf
theorem z_runSN (hc : z_C G S ad n0 p m c cc nL s args own meth) (hB : z_B G ad n0 s h H locs) {host : String} (hM : z_Mq G S l y bytes maxL ret rm mc ms As ad h Qc) (md : z_mdS y bytes maxL ret n) (hl : Cond.methodLinkNest own index y host ∈ z_nw) (hrc : rm.cells = mc) (hrs : rm.slots = ms) (hR : rm.frames + 1 ≤ R.frames ∧ 8 + (maxL + 11) + rm.locals ≤ R.locals) (hn : As.length = n) (hsize : ls.size = nL) (hst : st0 = As.reverse ++ rest) (hW : (rest.map fun v => v.category).sum ≤ 8) (hdg : decode cc pc = .ok (.invokestatic index, 3)) (hf : cells + mc ≤ R.cells ∧ slots + ms ≤ R.slots) :
    va_Run p l e R s m args below meth c H locs cells slots mc ms (F0 m pc ls st0) rest (Qc H.size As.toArray) (z_A ad (z_n h) H.size) :=
  va_runSN (host := host) hc.1 (hM H.size) ⟨va_cnB n hc.1.2.2.2.2 (z_goodIn md.1.2.1) rfl hrc hrs (hc.2.1.2.2.1 _ hl) (hc.1.2.2.2.2 _ md.1.1) md.1.2.2 hR, hc.1.2.2.2.2 _ md.2, trivial⟩ (z_pre hc hB) rfl hn hsize hst (by show 2 * 0 + _ ≤ 8; omega) hdg hf
theorem z_thI {r : Int32} {a : Array Value} (hc : z_C G S ad n0 p m c cc nL s args own meth) (hB : z_B G ad n0 s h H locs) (hr : va_Run p l e R s m args below meth c H locs cells slots mc ms (F0 m pc ls st0) rest (z_Qi G ad h' (z_n h) H.size r a) (z_A ad (z_n h) H.size))
    (kk : ∀ (H1 : Heap) (locs1 : List Loc), z_B G ad n0 s h' H1 locs1 → W p l e R s m args below meth c H1 locs1 (cells + mc) (slots + ms) Q (F0 m (pc + 3) ls (.int r :: rest))) : W p l e R s m args below meth c H locs cells slots Q (F0 m pc ls st0) :=
  va_calli hr hB.2 (fun q _ hq => z_A1 hc hB q hq) (z_A1 hc hB) (fun r1 u t H1 locs1 ht _ hp hb _ _ hS => by subst hp; exact kk H1 locs1 ⟨by rw [← ht]; exact hb, hS⟩)
theorem z_thL {r : Int64} {a : Array Value} (hc : z_C G S ad n0 p m c cc nL s args own meth) (hB : z_B G ad n0 s h H locs) (hr : va_Run p l e R s m args below meth c H locs cells slots mc ms (F0 m pc ls st0) rest (z_Ql G ad h' (z_n h) H.size r a) (z_A ad (z_n h) H.size))
    (kk : ∀ (H1 : Heap) (locs1 : List Loc), z_B G ad n0 s h' H1 locs1 → W p l e R s m args below meth c H1 locs1 (cells + mc) (slots + ms) Q (F0 m (pc + 3) ls (.long r :: rest))) : W p l e R s m args below meth c H locs cells slots Q (F0 m pc ls st0) :=
  va_calll hr hB.2 (fun q _ hq => z_A1 hc hB q hq) (z_A1 hc hB) (fun r1 u t H1 locs1 ht _ hp hb _ _ hS => by subst hp; exact kk H1 locs1 ⟨by rw [← ht]; exact hb, hS⟩)
theorem z_thV {a : Array Value} (hc : z_C G S ad n0 p m c cc nL s args own meth) (hB : z_B G ad n0 s h H locs) (hr : va_Run p l e R s m args below meth c H locs cells slots mc ms (F0 m pc ls st0) rest (z_Qv G ad h' (z_n h) H.size a) (z_A ad (z_n h) H.size))
    (kk : ∀ (H1 : Heap) (locs1 : List Loc), z_B G ad n0 s h' H1 locs1 → W p l e R s m args below meth c H1 locs1 (cells + mc) (slots + ms) Q (F0 m (pc + 3) ls rest)) : W p l e R s m args below meth c H locs cells slots Q (F0 m pc ls st0) :=
  va_callv hr hB.2 (fun q _ hq => z_A1 hc hB q hq) (z_A1 hc hB) (fun u t H1 locs1 ht _ hp hb _ _ hS => kk H1 locs1 ⟨by rw [← ht]; exact hb, hS⟩)
theorem z_thE {r : Nat} {a : Array Value} (hc : z_C G S ad n0 p m c cc nL s args own meth) (hB : z_B G ad n0 s h H locs) (hr : va_Run p l e R s m args below meth c H locs cells slots mc ms (F0 m pc ls st0) rest (z_Qe G ad h' (z_n h) H.size r a) (z_A ad (z_n h) H.size))
    (kk : ∀ (H1 : Heap) (locs1 : List Loc), z_B G ad n0 s h' H1 locs1 → W p l e R s m args below meth c H1 locs1 (cells + mc) (slots + ms) Q (F0 m (pc + 3) ls (.ref (G.2.2.2.1 r) :: rest))) : W p l e R s m args below meth c H locs cells slots Q (F0 m pc ls st0) :=
  va_callr hr hB.2 (fun q _ hq => z_A1 hc hB q hq) (z_A1 hc hB) (fun u ra t H1 locs1 ht _ hp hb _ _ hS => by rw [hb.1]; exact kk H1 locs1 ⟨by rw [← ht]; exact hb.2, hS⟩)
theorem z_iret {r : Int32} (hc : z_C G S ad n0 p m c cc nL s args own meth) (hB : z_B G ad n0 s h' H locs) (hr : meth.sig.returnType = some .int) (hdg : decode cc pc = .ok (.ireturn, 1)) : W p l e R s m args below meth c H locs cells slots (MQ below (z_Qi G ad h' n0 s.heap.size r) args s cells slots (z_A ad n0 s.heap.size)) (F0 m pc ls [.int r]) :=
  W.iret hc.1.1 hc.1.2.1 hr (fun t ht _ => ⟨⟨r, (), rfl, rfl, (show z_W G ad h' t.heap by rw [ht]; exact hB.1)⟩, hB.2.F ht⟩) hB.2.2.2 hdg (hlocks := hc.2.2.2.2)
theorem z_zret {r : Int32} (hc : z_C G S ad n0 p m c cc nL s args own meth) (hB : z_B G ad n0 s h' H locs) (hr : meth.sig.returnType = some ty) (hn : narrow ty (.int r) = .int r) (hdg : decode cc pc = .ok (.ireturn, 1)) : W p l e R s m args below meth c H locs cells slots (MQ below (z_Qi G ad h' n0 s.heap.size r) args s cells slots (z_A ad n0 s.heap.size)) (F0 m pc ls [.int r]) :=
  W.zret hc.1.1 hc.1.2.1 hr hn (fun t ht _ => ⟨⟨r, (), rfl, rfl, (show z_W G ad h' t.heap by rw [ht]; exact hB.1)⟩, hB.2.F ht⟩) hB.2.2.2 hdg (hlocks := hc.2.2.2.2)
theorem z_lret {r : Int64} (hc : z_C G S ad n0 p m c cc nL s args own meth) (hB : z_B G ad n0 s h' H locs) (hr : meth.sig.returnType = some .long) (hdg : decode cc pc = .ok (.lreturn, 1)) : W p l e R s m args below meth c H locs cells slots (MQ below (z_Ql G ad h' n0 s.heap.size r) args s cells slots (z_A ad n0 s.heap.size)) (F0 m pc ls [.long r]) :=
  W.lret hc.1.1 hc.1.2.1 hr (fun t ht _ => ⟨⟨r, (), rfl, rfl, (show z_W G ad h' t.heap by rw [ht]; exact hB.1)⟩, hB.2.F ht⟩) hB.2.2.2 hdg (hlocks := hc.2.2.2.2)
theorem z_vret (hc : z_C G S ad n0 p m c cc nL s args own meth) (hB : z_B G ad n0 s h' H locs) (hr : meth.sig.returnType = none) (hdg : decode cc pc = .ok (.return_, 1)) : W p l e R s m args below meth c H locs cells slots (MQ below (z_Qv G ad h' n0 s.heap.size) args s cells slots (z_A ad n0 s.heap.size)) (F0 m pc ls []) :=
  W.vret hc.1.1 hc.1.2.1 hr (fun t ht _ => ⟨⟨(), rfl, trivial, (show z_W G ad h' t.heap by rw [ht]; exact hB.1)⟩, hB.2.F ht⟩) hB.2.2.2 hdg (hlocks := hc.2.2.2.2)
theorem z_eret {r : Nat} (hc : z_C G S ad n0 p m c cc nL s args own meth) (hB : z_B G ad n0 s h' H locs) (hr : meth.sig.returnType = some ty) (hr2 : ∃ n, ty = .object n) (hdg : decode cc pc = .ok (.areturn, 1)) : W p l e R s m args below meth c H locs cells slots (MQ below (z_Qe G ad h' n0 s.heap.size r) args s cells slots (z_A ad n0 s.heap.size)) (F0 m pc ls [.ref (G.2.2.2.1 r)]) :=
  W.aret hc.1.1 hc.1.2.1 hr (Or.inl hr2) (Or.inr ⟨_, rfl⟩) (fun t ht _ => ⟨⟨(), _, rfl, trivial, rfl, (show z_W G ad h' t.heap by rw [ht]; exact hB.1)⟩, hB.2.F ht⟩) hB.2.2.2 hdg (hlocks := hc.2.2.2.2)
end ZC
