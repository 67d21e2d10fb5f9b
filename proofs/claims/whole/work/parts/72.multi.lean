/-! new long[N][K] by numbers: the outer row is the next number, the inner ones follow -/
def z_ml (h : z_T) (N K : Nat) : z_T :=
  ((fun a => if z_n h ≤ a ∧ a ≤ z_n h + N then (fun _ => 0) else z_I h a), (fun a => if z_n h ≤ a ∧ a ≤ z_n h + N then (fun _ => 0) else z_L h a),
   (fun a => if a = z_n h then (fun j => if j < N then some (z_n h + 1 + j) else none) else if z_n h ≤ a ∧ a ≤ z_n h + N then (fun _ => none) else z_R h a),
   (fun a => if a = z_n h then 18 else if z_n h ≤ a ∧ a ≤ z_n h + N then 14 else z_K h a), (fun a => if a = z_n h then N else if z_n h ≤ a ∧ a ≤ z_n h + N then K else z_N h a), z_n h + 1 + N)
/-! new long[N][K], from the model's own words: the outer row is made, then each inner row, and it is put in its place -/
section YM
variable {E : CtlPost} {e : Env} {d : Bool} {acts : List Action} {s : State}
/-- one new array, all its slots alike -/
theorem ym_new {cA comp : ClassId} {kA : Class} {ty : FieldType} {len : Nat} {x : Value} {Q : Addr → Pre} (hk : s.vm.classes[cA]? = some kA) (hkind : kA.kind = .array comp ty) (h1 : ¬ len > e.platform.arrayLengthLimit) (h2 : ¬ len * componentBytes ty > e.platform.maxHeapBytes) (hfit : fits ty x = true)
    (hc : s.heap.size + 1 ≤ e.platform.maxCells) (hs : s.slotsUsed + len ≤ e.platform.maxSlots) (hq : ∀ acts', Q s.heap.size d acts' (s.pushCell (arrV cA len (fun _ => x)))) : wp (Jvm.newArray cA len x) Q E e d acts s := by
  have hall : ∀ i v, (Array.replicate len x)[i]? = some v → s.fitsSlot cA .none i v = true := by
    intro i v hv
    rw [Array.getElem?_replicate] at hv
    split at hv
    · have ev := Option.some.inj hv
      subst ev
      simp [State.fitsSlot, State.slotType?, hk, hkind, hfit]
    · exact absurd hv (fun q => by cases q)
  have h3 : ¬ len > e.platform.maxSlots := by omega
  unfold Jvm.newArray Jvm.arrayFits
  simp only [wp_bind', W.ask, W.ite, h1, if_false, wp_pure', W.theClass, hk, hkind, h2, W.alloc, W.stop, Option.some.injEq, exists_eq_left', Array.size_replicate]
  rw [if_neg h3, arrV_new]
  exact ⟨by omega, hs, hall, hq _⟩
theorem ym_in {cI cc : ClassId} {kI : Class} {ty : FieldType} {k : Int32} {Q : Addr → Pre} (hkI : s.vm.classes[cI]? = some kI) (hkind : kI.kind = .array cc ty) (hk : ¬ k < 0) (h1 : ¬ k.toNatClampNeg > e.platform.arrayLengthLimit) (h2 : ¬ k.toNatClampNeg * componentBytes ty > e.platform.maxHeapBytes) (hfit : fits ty (defaultValue ty) = true)
    (hc : s.heap.size + 1 ≤ e.platform.maxCells) (hs : s.slotsUsed + k.toNatClampNeg ≤ e.platform.maxSlots) (hq : ∀ acts', Q s.heap.size d acts' (s.pushCell (arrV cI k.toNatClampNeg (fun _ => defaultValue ty)))) : wp (Jvm.Op.multianewarray.make cI [k]) Q E e d acts s := by
  rw [Jvm.Op.multianewarray.make]
  simp only [wp_bind', W.ite, hk, if_false, wp_pure', W.theClass, hkI, hkind, Option.some.injEq, exists_eq_left']
  exact ym_new hkI hkind h1 h2 hfit hc hs hq
end YM
section YN
variable {p : Program} {l : Launch} {e : Env} {R : Room} {s : State} {m : MethodId} {args : Array Value} {below : List Frame} {meth : Method} {c : Code} {locs : List Loc} {cells slots : Nat} {H : Heap} {cA cI : ClassId} {N K i : Nat} {vm : Vm} {U : State}
def ym_f (H : Heap) (i : Nat) : Nat → Value := fun j => va_rf (if j < i then some (H.size + 1 + j) else none)
/-- i inner rows are made and in their places -/
def ym_P (p : Program) (l : Launch) (e : Env) (R : Room) (s : State) (m : MethodId) (args : Array Value) (below : List Frame) (meth : Method) (c : Code) (locs : List Loc) (cells slots : Nat) (H : Heap) (cA cI : ClassId) (N K : Nat) (vm : Vm) (i : Nat) (U : State) : Prop :=
  U.vm = vm ∧ U.heap.size = H.size + 1 + i ∧ U.heap[H.size]? = some (arrV cA N (ym_f H i)) ∧ (∀ x, x < H.size → U.heap[x]? = H[x]?) ∧ (∀ j, j < i → U.heap[H.size + 1 + j]? = some (arrV cI K (fun _ => .long 0))) ∧ ∃ more : List Loc, (∀ y ∈ more, y.base = H.size) ∧ Stand p l e R s m args below meth c U (locs ++ more) (cells + 1 + i) (slots + N + i * K)
theorem ym_0 {T : State} (X : Stand p l e R s m args below meth c T locs cells slots) (hH : T.heap = H) (hv : T.vm = vm) : ym_P p l e R s m args below meth c locs cells slots H cA cI N K vm 0 (T.pushCell (arrV cA N (fun _ => .null))) := by
  subst hH
  have h := X.pushed (arrV cA N (fun _ => .null))
  rw [arrV_size] at h
  refine ⟨hv, by simp, ?_, fun x hx => State.heap_pushCell_of_lt _ _ hx, fun j hj => absurd hj (Nat.not_lt_zero j), [], fun y hy => absurd hy List.not_mem_nil, ?_⟩
  · rw [State.heap_pushCell_size]
    exact congrArg some (congrArg (arrV cA N) (funext fun j => rfl))
  · rw [List.append_nil, Nat.zero_mul]
    exact h
theorem ym_s (h : ym_P p l e R s m args below meth c locs cells slots H cA cI N K vm i U) : ym_P p l e R s m args below meth c locs cells slots H cA cI N K vm (i + 1) ((U.pushCell (arrV cI K (fun _ => .long 0))).setCell H.size ((arrV cA N (ym_f H i)).setSlot i (.ref U.heap.size))) := by
  obtain ⟨h1, h2, h3, h4, h5, more, h6, X⟩ := h
  have hlt : H.size < U.heap.size := by omega
  have hc : (U.pushCell (arrV cI K (fun _ => .long 0))).heap[H.size]? = some (arrV cA N (ym_f H i)) := (State.heap_pushCell_of_lt _ _ hlt).trans h3
  have hlt2 : H.size < (U.pushCell (arrV cI K (fun _ => .long 0))).heap.size := (Array.getElem?_eq_some_iff.mp hc).1
  have Y := (X.pushed (arrV cI K (fun _ => .long 0))).stored hc i (.ref U.heap.size)
  rw [arrV_size] at Y
  refine ⟨h1, ?_, ?_, fun x hx => ?_, fun j hj => ?_, more ++ [⟨H.size, i⟩], fun y hy => ?_, ?_⟩
  · rw [size_setCell]
    simp
    omega
  · rw [heapAt_setCell_self _ hlt2, arrV_store, h2]
    refine congrArg some (congrArg (arrV cA N) (funext fun j => ?_))
    by_cases ej : j = i
    · subst ej
      simp [updV, ym_f, va_rf]
    · by_cases g : j < i
      · simp [updV, ym_f, ej, g, Nat.lt_succ_of_lt g]
      · simp [updV, ym_f, ej, g, show ¬ j < i + 1 by omega]
  · rw [heapAt_setCell_ne _ (show H.size ≠ x by omega), State.heap_pushCell_of_lt _ _ (show x < U.heap.size by omega)]
    exact h4 x hx
  · rw [heapAt_setCell_ne _ (show H.size ≠ H.size + 1 + j by omega)]
    by_cases g : j < i
    · rw [State.heap_pushCell_of_lt _ _ (show H.size + 1 + j < U.heap.size by omega)]
      exact h5 j g
    · have ej : H.size + 1 + j = U.heap.size := by omega
      rw [ej]
      exact State.heap_pushCell_size _ _
  · rcases List.mem_append.mp hy with q | q
    · exact h6 y q
    · rw [List.mem_singleton.mp q]
  · have e1 : slots + N + (i + 1) * K = slots + N + i * K + K := by rw [Nat.succ_mul]; omega
    rw [e1, ← List.append_assoc]
    exact Y
/-- the states, one after another -/
def ym_U (cA cI : ClassId) (N K : Nat) (T : State) : Nat → State
  | 0 => T.pushCell (arrV cA N (fun _ => .null))
  | i + 1 => ((ym_U cA cI N K T i).pushCell (arrV cI K (fun _ => .long 0))).setCell T.heap.size ((arrV cA N (ym_f T.heap i)).setSlot i (.ref (ym_U cA cI N K T i).heap.size))
theorem ym_all {T : State} (X : Stand p l e R s m args below meth c T locs cells slots) (hv : T.vm = vm) : ∀ i, ym_P p l e R s m args below meth c locs cells slots T.heap cA cI N K vm i (ym_U cA cI N K T i)
  | 0 => ym_0 X rfl hv
  | i + 1 => ym_s (ym_all X hv i)
theorem ym_make {T : State} {E : CtlPost} {d : Bool} {acts : List Action} {kA kI : Class} {cc : ClassId} {n k : Int32} (X : Stand p l e R s m args below meth c T locs cells slots) (hv : T.vm = vm) (hkA : vm.classes[cA]? = some kA) (hA : kA.kind = .array cI (.array .long)) (hkI : vm.classes[cI]? = some kI) (hI : kI.kind = .array cc .long) (hn : ¬ n < 0) (hk : ¬ k < 0) (hb1 : n.toNatClampNeg * 4 ≤ 536870912) (hb2 : k.toNatClampNeg * 8 ≤ 536870912)
    (hcells : cells + (1 + n.toNatClampNeg) ≤ R.cells) (hslots : slots + (n.toNatClampNeg + n.toNatClampNeg * k.toNatClampNeg) ≤ R.slots) (f : JFrame) {Q : Addr → Pre} (hq : ∀ d' acts', Q T.heap.size d' acts' ((ym_U cA cI n.toNatClampNeg k.toNatClampNeg T n.toNatClampNeg).setTop f)) :
    wp (Jvm.Op.multianewarray.make cA [n, k]) Q E e d acts (T.setTop f) := by
  have lim := Launch.admits_arrayLengthLimit X.admits
  have byt := Launch.admits_maxHeapBytes X.admits
  have hl1 : ¬ n.toNatClampNeg > e.platform.arrayLengthLimit := by rw [lim]; omega
  have hl2 : ¬ k.toNatClampNeg > e.platform.arrayLengthLimit := by rw [lim]; omega
  have hh1 : ¬ n.toNatClampNeg * componentBytes (.array .long) > e.platform.maxHeapBytes := by rw [byt]; show ¬ n.toNatClampNeg * 4 > _; omega
  have hh2 : ¬ k.toNatClampNeg * componentBytes .long > e.platform.maxHeapBytes := by rw [byt]; show ¬ k.toNatClampNeg * 8 > _; omega
  have hNK := Nat.zero_le (n.toNatClampNeg * k.toNatClampNeg)
  obtain ⟨r1, r2⟩ := X.roomAbove (a := 1) (b := n.toNatClampNeg) (by omega) (by omega)
  have hfind : ([k].find? (· < 0)) = none := by simp [hk]
  have eT : (T.setTop f).vm = vm := hv
  rw [Jvm.Op.multianewarray.make]
  simp only [wp_bind', W.ite, hn, if_false, wp_pure', W.theClass, eT, hkA, hA, Option.some.injEq, exists_eq_left']
  refine ym_new (by rw [eT]; exact hkA) hA hl1 hh1 rfl r1 r2 (fun acts1 => ?_)
  simp only [hfind]
  rw [ite_self, wp_bind', Std.Legacy.Range.forIn_eq_forIn_range']
  have hsz : ([:n.toNatClampNeg] : Std.Legacy.Range).size = n.toNatClampNeg := by simp [Std.Legacy.Range.size]
  rw [hsz]
  show wp (forIn (List.range' 0 n.toNatClampNeg 1) PUnit.unit _) _ E e d acts1 ((T.pushCell (arrV cA n.toNatClampNeg (fun _ => .null))).setTop f)
  have eh : (T.setTop f).heap.size = T.heap.size := rfl
  refine wp_forIn_inv (fun rest s' => ∃ i, i + rest.length = n.toNatClampNeg ∧ rest = List.range' i rest.length ∧ s' = (ym_U cA cI n.toNatClampNeg k.toNatClampNeg T i).setTop f) _ _ ⟨0, by simp, by simp, rfl⟩ ?_ ?_
  · rintro x rest s' d' acts' Q' ⟨i, q1, q2, rfl⟩ hnext
    rw [List.length_cons, List.range'_succ] at q2
    obtain ⟨rfl, q3⟩ := List.cons.inj q2
    rw [List.length_cons] at q1
    have hlt : x < n.toNatClampNeg := by omega
    have P := ym_all (cA := cA) (cI := cI) (N := n.toNatClampNeg) (K := k.toNatClampNeg) X hv x
    have eS : ym_U cA cI n.toNatClampNeg k.toNatClampNeg T (x + 1) = ((ym_U cA cI n.toNatClampNeg k.toNatClampNeg T x).pushCell (arrV cI k.toNatClampNeg (fun _ => .long 0))).setCell T.heap.size ((arrV cA n.toNatClampNeg (ym_f T.heap x)).setSlot x (.ref (ym_U cA cI n.toNatClampNeg k.toNatClampNeg T x).heap.size)) := rfl
    generalize ym_U cA cI n.toNatClampNeg k.toNatClampNeg T x = U at P eS ⊢
    obtain ⟨h1, h2, h3, h4, h5, more, h6, Y⟩ := P
    have hmul : x * k.toNatClampNeg + k.toNatClampNeg ≤ n.toNatClampNeg * k.toNatClampNeg := by
      have := Nat.mul_le_mul_right k.toNatClampNeg (show x + 1 ≤ n.toNatClampNeg from hlt)
      rw [Nat.succ_mul] at this
      exact this
    obtain ⟨g1, g2⟩ := Y.roomAbove (a := 1) (b := k.toNatClampNeg) (by omega) (by omega)
    have eU : (U.setTop f).vm = vm := h1
    simp only [wp_bind']
    refine ym_in (by rw [eU]; exact hkI) hI hk hl2 hh2 rfl g1 g2 (fun acts2 => ?_)
    simp only [wp_bind', W.writeLoc, wp_pure']
    rw [eh]
    refine ⟨arrV cA n.toNatClampNeg (ym_f T.heap x), (State.heap_pushCell_of_lt (U.setTop f) _ (by show T.heap.size < U.heap.size; omega)).trans h3, (show VmData.none ≠ .unknown from fun q => (by cases q)), (by rw [arrV_size]; exact hlt), ?_, hnext _ _ _ ⟨x + 1, by omega, q3, ?_⟩⟩
    · show State.fitsSlot _ cA .none x _ = true
      simp [State.fitsSlot, State.slotType?, h1, hkA, hA]
      rfl
    · rw [eS]; rfl
  · rintro s' d' acts' ⟨i, q1, -, rfl⟩
    have q1 : i + 0 = n.toNatClampNeg := q1
    simp only [wp_pure']
    rw [eh]
    have ei : i = n.toNatClampNeg := by omega
    subst ei
    exact hq _ _
end YN
section YR
variable {p : Program} {l : Launch} {e : Env} {R : Room} {s : State} {m : MethodId} {args : Array Value} {below : List Frame} {meth : Method} {c : Code} {H : Heap} {locs : List Loc} {cells slots : Nat} {Q : State → Prop}
variable {cc : ByteArray} {pc nL : Nat} {ls : Array Slot} {rest : List Value} {own : String} {G : z_Gt} {S : State → Prop} {ad : Nat → Nat} {n0 : Nat} {h h1 : z_T}
theorem z_multi (hc : z_C G S ad n0 p m c cc nL s args own meth) (hB : z_B G ad n0 s h H locs) (N K : Nat) {n k : Int32} {index : Nat} (eh : h1 = z_ml h N K) (hN : n.toNatClampNeg = N) (hM : k.toNatClampNeg = K) (hn : ¬ n < 0) (hk : ¬ k < 0) (hb1 : N * 4 ≤ 536870912) (hb2 : K * 8 ≤ 536870912) (hl : Cond.classLink own index "[[J" ∈ z_ws) (hover : va_Nw (.arrayOver (.array .long)) s) (harr : Cond.arrayClass .long ∈ z_ws) (hcells : cells + (1 + N) ≤ R.cells) (hslots : slots + (N + N * K) ≤ R.slots) (hdg : decode cc pc = .ok (.multianewarray index 2, 4))
    (kk : ∀ (H1 : Heap), z_B G ad n0 s h1 H1 locs → W p l e R s m args below meth c H1 locs (cells + 1 + N) (slots + N + N * K) Q (F0 m (pc + 4) ls (.ref (ad (z_n h)) :: rest))) : W p l e R s m args below meth c H locs cells slots Q (F0 m pc ls (.int k :: .int n :: rest)) := by
  subst eh
  subst hN
  subst hM
  have hcc := hc
  obtain ⟨⟨hx, hb, -, hown, hts⟩, hK, -⟩ := hc
  have hcy : s.vm.findClass (FieldType.array .long).toString = some (G.2.2.1 14) := (hK.2.1 14 (by decide) (by decide)).2
  have hcA : s.vm.findClass ("[" ++ (FieldType.array .long).toString) = some (G.2.2.1 18) := (hK.2.1 18 (by decide) (by decide)).2
  intro T hT Xs
  have hpl : e.platform.magicAccessors = ({} : Platform).magicAccessors := by rw [Xs.admits.platform]
  obtain ⟨comp, cA, kA, h1, -, hkA, hkindA, hnameA⟩ := arrayOverA_spec (show (Cond.arrayOver (.array .long)).holds #[] s none s [] = true from hover)
  obtain ⟨cI, kI, cc', hcI, hkI, hkindI⟩ := Cond.arrayClass_spec (hts _ harr)
  have e1 : comp = G.2.2.1 14 := Option.some.inj (h1.symm.trans hcy)
  have e2 : cA = G.2.2.1 18 := Option.some.inj (hnameA.symm.trans hcA)
  have e3 : cI = G.2.2.1 14 := Option.some.inj (hcI.symm.trans hcy)
  subst e1 e2 e3
  obtain ⟨c0, hfc0, hcl⟩ := Cond.classLink_spec hown (hts _ hl) e.platform hpl
  have e4 : c0 = G.2.2.1 18 := Option.some.inj (hfc0.symm.trans hcA)
  subst e4
  obtain ⟨hg₁, hwarm₁, -⟩ := State.classEntry (e := e) Xs.warmed hcl
  generalize T.vm.noted m.cls index (.cls (G.2.2.1 18)) = vm₁ at hg₁ hwarm₁
  have hal : s.vm.Alike vm₁ := hwarm₁.alike
  obtain ⟨kA₁, hkA₁, heA⟩ := hal.2.2 _ _ hkA
  obtain ⟨kI₁, hkI₁, heI⟩ := hal.2.2 _ _ hkI
  have hA₁ : kA₁.kind = .array (G.2.2.1 14) (.array .long) := by rw [heA]; exact hkindA
  have hI₁ : kI₁.kind = .array cc' .long := by rw [heI]; exact hkindI
  have X₁ := Xs.noted hwarm₁
  have P := ym_all (cA := G.2.2.1 18) (cI := G.2.2.1 14) (N := n.toNatClampNeg) (K := k.toNatClampNeg) X₁ (vm := vm₁) rfl n.toNatClampNeg
  have step : ∀ target, Steps p.tables e below ((ym_U (G.2.2.1 18) (G.2.2.1 14) n.toNatClampNeg k.toNatClampNeg (T.setVm vm₁) n.toNatClampNeg).setTop (F0 m (pc + 4) ls (.ref T.heap.size :: rest))) target → Steps p.tables e below (T.setTop (F0 m pc ls (.int k :: .int n :: rest))) target := by
    intro target hrest
    have tp : (ym_U (G.2.2.1 18) (G.2.2.1 14) n.toNatClampNeg k.toNatClampNeg (T.setVm vm₁) n.toNatClampNeg).topJava?.isSome := by
      obtain ⟨-, -, -, -, -, more, -, Y⟩ := P
      exact Y.here.top
    jvm_step Xs.here [hx, hb, hdg]
    simp only [Jvm.Op.multianewarray.sem, wp_bind', W.resolveClassAt_links (State.method?_setTop (F0 m pc ls (.int k :: .int n :: rest)) Xs.here.top) hg₁]
    rw [W.popN, if_neg (by decide)]
    refine ⟨F0 m pc ls (.int k :: .int n :: rest), State.topJava?_setTop' (s := T.setVm vm₁) (F0 m pc ls (.int k :: .int n :: rest)) Xs.here.top, [.int n, .int k], rest, rfl, rfl, ?_⟩
    simp only [List.mapM_cons, List.mapM_nil, wp_bind', wp_pure']
    have eS : ((T.setTop (F0 m pc ls (.int k :: .int n :: rest))).setVm vm₁).setTop { F0 m pc ls (.int k :: .int n :: rest) with stack := rest } = (T.setVm vm₁).setTop (F0 m pc ls rest) := by
      show ((T.setVm vm₁).setTop _).setTop _ = _
      rw [State.setTop_setTop]
    rw [eS]
    refine ym_make X₁ (vm := vm₁) rfl hkA₁ hA₁ hkI₁ hI₁ hn hk hb1 hb2 hcells hslots _ (fun d' acts' => ?_)
    simp only [wp_bind', W.mark, W.pushRef, State.topJava?_setTop' _ tp, Option.some.injEq, exists_eq_left', State.setTop_setTop, State.heap_setTop]
    intro acts
    simp [jvm, tp]
    exact hrest
  generalize ym_U (G.2.2.1 18) (G.2.2.1 14) n.toNatClampNeg k.toNatClampNeg (T.setVm vm₁) n.toNatClampNeg = F at P step
  obtain ⟨p1, f1, f2, hold, hrow, more, hmore, X'⟩ := P
  have hTh : (T.setVm vm₁).heap = H := hT
  rw [hTh] at f1 f2 hold hrow hmore
  have X2 := Stand.forget X' (fun y hy => by rw [hmore y hy]; exact hB.2.1)
  have had : ∀ i, z_n h ≤ i → ad i = H.size + (i - z_n h) := hB.1.2.2.1
  obtain ⟨w1, w2, w3, w4, w5, w6, w7⟩ := hB.1
  have hnn : z_n (z_ml h n.toNatClampNeg k.toNatClampNeg) = z_n h + 1 + n.toNatClampNeg := rfl
  have eK0 : z_K (z_ml h n.toNatClampNeg k.toNatClampNeg) (z_n h) = 18 := if_pos rfl
  have eN0 : z_N (z_ml h n.toNatClampNeg k.toNatClampNeg) (z_n h) = n.toNatClampNeg := if_pos rfl
  have eR0 : z_R (z_ml h n.toNatClampNeg k.toNatClampNeg) (z_n h) = fun j => if j < n.toNatClampNeg then some (z_n h + 1 + j) else none := if_pos rfl
  have w : z_W G ad (z_ml h n.toNatClampNeg k.toNatClampNeg) F.heap := by
    refine ⟨fun o ho => ?_, w2, fun i hi => ?_, w4, fun q hq => (hold q (by omega)).trans (w5 q hq), fun i hi => ?_, by omega⟩
    · rw [hnn] at ho
      by_cases e1 : o < z_n h
      · have g1 : ¬ (z_n h ≤ o ∧ o ≤ z_n h + n.toNatClampNeg) := by omega
        have g2 : ¬ o = z_n h := by omega
        refine (w1 o e1).kept (h' := z_ml h n.toNatClampNeg k.toNatClampNeg) ⟨if_neg g1, if_neg g1, ?_, ?_, ?_⟩ (by omega) (hold _ (w6 o e1))
        · show (if o = z_n h then _ else _) = _; rw [if_neg g2]; exact if_neg g1
        · show (if o = z_n h then _ else _) = _; rw [if_neg g2]; exact if_neg g1
        · show (if o = z_n h then _ else _) = _; rw [if_neg g2]; exact if_neg g1
      · by_cases e2 : o = z_n h
        · subst e2
          refine ⟨fun hh => (by rw [eK0] at hh; omega), fun _ => ?_, fun j r _ g => ?_⟩
          rotate_left
          · have g' : (if j < n.toNatClampNeg then some (z_n h + 1 + j) else none) = some r := by rw [eR0] at g; exact g
            by_cases hj : j < n.toNatClampNeg
            · rw [if_pos hj] at g'
              have := Option.some.inj g'
              omega
            · rw [if_neg hj] at g'
              cases g'
          rw [eK0, eN0, had _ (Nat.le_refl _), Nat.sub_self, Nat.add_zero, f2]
          congr 2
          funext j
          show _ = va_rf ((z_R (z_ml h n.toNatClampNeg k.toNatClampNeg) (z_n h) j).map ad)
          rw [eR0]
          show _ = va_rf ((if j < n.toNatClampNeg then some (z_n h + 1 + j) else none).map ad)
          by_cases hj : j < n.toNatClampNeg
          · unfold ym_f
            rw [if_pos hj, if_pos hj]
            show _ = Value.ref (ad _)
            rw [had _ (by omega)]
            have q : H.size + 1 + j = H.size + (z_n h + 1 + j - z_n h) := by omega
            exact congrArg Value.ref q
          · unfold ym_f
            rw [if_neg hj, if_neg hj]; rfl
        · have g1 : z_n h ≤ o ∧ o ≤ z_n h + n.toNatClampNeg := by omega
          have eK : z_K (z_ml h n.toNatClampNeg k.toNatClampNeg) o = 14 := by show (if o = z_n h then _ else _) = _; rw [if_neg e2]; exact if_pos g1
          have eN : z_N (z_ml h n.toNatClampNeg k.toNatClampNeg) o = k.toNatClampNeg := by show (if o = z_n h then _ else _) = _; rw [if_neg e2]; exact if_pos g1
          have eL : z_L (z_ml h n.toNatClampNeg k.toNatClampNeg) o = fun _ => 0 := if_pos g1
          have eR : z_R (z_ml h n.toNatClampNeg k.toNatClampNeg) o = fun _ => none := by show (if o = z_n h then _ else _) = _; rw [if_neg e2]; exact if_pos g1
          refine ⟨fun hh => (by rw [eK] at hh; omega), fun _ => ?_, fun j r _ g => (by rw [eR] at g; cases g)⟩
          rw [eK, eN, had o (by omega), show H.size + (o - z_n h) = H.size + 1 + (o - z_n h - 1) by omega, hrow _ (by omega)]
          congr 2
          funext j
          show _ = Value.long (z_L (z_ml h n.toNatClampNeg k.toNatClampNeg) o j)
          rw [eL]
    · rw [hnn] at hi ⊢
      rw [had i (by omega), f1]
      omega
    · rw [hnn] at hi
      rw [f1]
      by_cases e1 : i < z_n h
      · have := w6 i e1; omega
      · rw [had i (by omega)]; omega
  obtain ⟨t, a1, b1⟩ := kk F.heap ⟨w, by rw [f1]; have := hB.2.1; omega, fun q g1 g2 => (hold q (Nat.lt_of_lt_of_le g1 hB.2.1)).trans (hB.2.2.1 q g1 g2), hB.2.2.2⟩ F rfl X2
  refine ⟨t, step t ?_, b1⟩
  have e : T.heap.size = H.size := by rw [hT]
  rw [e]
  rw [had _ (Nat.le_refl _), Nat.sub_self, Nat.add_zero] at a1
  exact a1
end YR
theorem z_ml_ok {h : z_T} {N K : Nat} : z_ok (z_ml h N K) (z_n h) 18 = true := by
  have e : z_n (z_ml h N K) = z_n h + 1 + N := rfl
  have eK0 : z_K (z_ml h N K) (z_n h) = 18 := if_pos rfl
  simp [z_ok, e, eK0]; omega
