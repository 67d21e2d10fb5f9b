/-! the law's own methods: what is thrown is caught -/
def z_QL (G : z_Gt) (ad : Nat → Nat) (h' : z_T) (n sz : Nat) (r : Int32) : Array Value → State → Outcome → State → Prop := va_Qi (S := Nat → Nat) (fun r' _ => r' = r) (fun ad' t => (∀ i, i < z_n h' → ad' i = ad i) ∧ (∀ i, z_A ad n sz (ad' i)) ∧ z_W G ad' h' t.heap) (z_A ad n sz)
def z_Mw (G : z_Gt) (S : State → Prop) (l : Launch) (y : MethodName) (b : ByteArray) (nL : Nat) (hh : List (Nat × Nat × Nat × Nat)) (rm : Room) (mc ms : Nat) (av : List Value) (ad : Nat → Nat) (h h' : z_T) (r : Int32) : Prop :=
  ∀ sz : Nat, Met l y (.codeWith y b nL (some .int) hh :: z_ws) rm (va_Pc av (z_P G S ad h sz)) (z_QL G ad h' (z_n h) sz r) mc ms (z_A ad (z_n h) sz)
theorem z_ofWr {G : z_Gt} {S : State → Prop} {l : Launch} {y : MethodName} {b : ByteArray} {nL : Nat} {hh : List (Nat × Nat × Nat × Nat)} {rm : Room} {mc ms : Nat} {av : List Value} {ad : Nat → Nat} {h h' : z_T} {r : Int32} (hSK : z_SK S) (hy : plainName y.cls = true) (hn : (lg_sl av).length ≤ nL)
    (body : ∀ (p : Program) (e : Env) (s : State) (m : MethodId) (args : Array Value) (below : List Frame) (meth : Method) (c : Code) (ls : Array Slot), z_C G S ad (z_n h) p m c b nL s args y.cls meth → meth.sig.returnType = some .int → c.exceptionTable.toList = tableOf hh → z_B G ad (z_n h) s h s.heap [] → lv_has ls nL (lv_args 0 av) →
      W p l e rm s m args below meth c s.heap [] 0 0 (MQ below (z_QL G ad h' (z_n h) s.heap.size r) args s mc ms (z_A ad (z_n h) s.heap.size)) (F0 m 0 ls [])) : z_Mw G S l y b nL hh rm mc ms av ad h h' r := by
  intro sz
  refine va_MetW (cc := b) (maxL := nL) (ret := some .int) (hh := hh) hy rfl ?_
  intro p e s m args below meth c s₁ B hml hv
  obtain ⟨rfl, hsz, hW, hK⟩ := hv
  subst hsz
  have hts := atoms_spec (ws := Cond.codeWith y b nL (some .int) hh :: z_ws) B.pre
  have hl := lv_entry av (n := nL) hn
  rw [lg_entry_eq]
  exact body p e s m _ below meth c _ ⟨⟨B.exec, B.bytes, hml, findClass_of_methodNamed B.named, fun w hw => hts w (List.mem_cons_of_mem _ hw)⟩, hK, hW.all, hSK, B.notSynchronized⟩ B.returns (vx_table (x := y) B (hts _ List.mem_cons_self)) ⟨hW, va_S.rf⟩ hl
section ZW
variable {p : Program} {l : Launch} {e : Env} {R : Room} {s : State} {m : MethodId} {args : Array Value} {below : List Frame} {meth : Method} {c : Code} {H : Heap} {locs : List Loc} {cells slots : Nat} {Q : State → Prop}
variable {cc : ByteArray} {pc nL : Nat} {ls : Array Slot} {rest st0 : List Value} {own : String} {G : z_Gt} {S : State → Prop} {ad ad' : Nat → Nat} {n0 : Nat} {h h' : z_T}
variable {y : MethodName} {bytes : ByteArray} {maxL n index : Nat} {rm : Room} {As : List Value}
theorem z_runT {r : Option Int64} (hc : z_C G S ad n0 p m c cc nL s args own meth) (hB : z_B G ad n0 s h H locs) {o : Nat} (hM : z_Tl G S l y bytes maxL rm (.ref (ad o) :: As) ad h h' r) (md : z_mdV y bytes maxL (some .long) n) (hl : Cond.methodLink own index y ∈ z_ws) (hg : z_ok h o 10 = true) (hcl : y.cls = (z_c 10).1) (hrc : rm.cells = 1) (hrs : rm.slots = 6) (hR : rm.frames + 1 ≤ R.frames ∧ 8 + (maxL + 11) + rm.locals ≤ R.locals) (hn : As.length = n) (hsize : ls.size = nL) (hst : st0 = As.reverse ++ .ref (ad o) :: rest) (hW : (rest.map fun v => v.category).sum ≤ 8) (hdg : decode cc pc = .ok (.invokevirtual index, 3)) (hf : cells + 1 ≤ R.cells ∧ slots + 6 ≤ R.slots) :
    vx_Run p l e R s m args below meth c H locs cells slots 1 6 (F0 m pc ls st0) rest (z_Qt G ad h' (z_n h) H.size r (Value.ref (ad o) :: As).toArray) (z_Xt G ad h' (z_n h) H.size r) (z_A ad (z_n h) H.size) :=
  vx_runV hc.1 (hM H.size) ⟨z_cb hc md.1 hl hrc hrs hR, hc.1.2.2.2.2 _ md.2.1, hc.1.2.2.2.2 _ md.2.2⟩ (z_preV hc hB hg (by decide) hcl) rfl hn hsize hst (by show 2 * 0 + _ ≤ 8; omega) hdg hf
theorem z_thT {r : Option Int64} {a : Array Value} (hc : z_C G S ad n0 p m c cc nL s args own meth) (hB : z_B G ad n0 s h H locs) (hr : vx_Run p l e R s m args below meth c H locs cells slots 1 6 (F0 m pc ls st0) rest (z_Qt G ad h' (z_n h) H.size r a) (z_Xt G ad h' (z_n h) H.size r) (z_A ad (z_n h) H.size))
    (kx : r = none → ∀ (ce : Cell) (q9 : Nat) (H1 : Heap) (locs1 : List Loc) (ad' : Nat → Nat), (∀ i, i < z_n h' → ad' i = ad i) → (∀ i, z_A ad n0 s.heap.size (ad' i)) → z_W G ad' h' H1 → va_S (z_A ad n0 s.heap.size) s.heap H1 locs1 → H1[q9]? = some ce → ce.vm = .none → s.vm.findClass z_nse = some ce.cls → vx_W p l e R s m args below meth c H1 locs1 (cells + 1) (slots + 6) Q (F0 m pc ls rest) q9)
    (kk : ∀ v, r = some v → ∀ (H1 : Heap) (locs1 : List Loc), z_B G ad n0 s h' H1 locs1 → W p l e R s m args below meth c H1 locs1 (cells + 1) (slots + 6) Q (F0 m (pc + 3) ls (.long v :: rest))) : W p l e R s m args below meth c H locs cells slots Q (F0 m pc ls st0) := by
  refine vx_calll hr hB.2 (fun q _ hq => z_A1 hc hB q hq) (z_A1 hc hB) (fun q _ hq => z_A1 hc hB q hq) (fun E ce q9 u t H1 locs1 ht _ hp hbx hz hq hS c1 c2 c3 => ?_) (fun v u t H1 locs1 ht _ hp hb hz hq hS => kk v hp.symm H1 locs1 ⟨by rw [← ht]; exact hb, hS⟩)
  obtain ⟨rfl, H0, hW, g1, g2⟩ := hbx
  rw [ht] at g1 g2
  refine kx hp ce q9 H1 locs1 (z_re ad (z_n h') H1.size) (fun i hi => z_re_lt hi) (fun i => ?_) (hW.re (A := fun q => H0.size ≤ q) g1 (fun q hq _ => g2 q hq) (fun i hi q => ?_) (fun q hq q2 => ?_)) hS c1 c2 c3
  · by_cases hi : i < z_n h'
    · rw [z_re_lt hi]; exact hc.2.2.1 i
    · rw [z_re_ge hi]; exact Or.inr (Nat.le_trans hS.1 (Nat.le_add_right _ _))
  · have := hW.2.2.2.2.2.1 i hi; omega
  · have := hW.2.2.2.2.2.2; omega
theorem z_wret {r : Int32} (hc : z_C G S ad n0 p m c cc nL s args own meth) (h1 : ∀ i, i < z_n h' → ad' i = ad i) (h2 : ∀ i, z_A ad n0 s.heap.size (ad' i)) (hW : z_W G ad' h' H) (hS : va_S (z_A ad n0 s.heap.size) s.heap H locs) (hr : meth.sig.returnType = some .int) (hdg : decode cc pc = .ok (.ireturn, 1)) : W p l e R s m args below meth c H locs cells slots (MQ below (z_QL G ad h' n0 s.heap.size r) args s cells slots (z_A ad n0 s.heap.size)) (F0 m pc ls [.int r]) :=
  W.iret hc.1.1 hc.1.2.1 hr (fun t ht _ => ⟨⟨r, ad', rfl, rfl, h1, h2, (show z_W G ad' h' t.heap by rw [ht]; exact hW)⟩, hS.F ht⟩) hS.2.2 hdg (hlocks := hc.2.2.2.2)
variable {ad2 : Nat → Nat} {h2 : z_T} {hh : List (Nat × Nat × Nat × Nat)} {mc ms : Nat}
theorem z_runW {r : Int32} (hc : z_C G S ad n0 p m c cc nL s args own meth) (hB : z_B G ad n0 s h H locs) (hM : z_Mw G S l y bytes maxL hh rm mc ms As ad h h' r) (hcw : Cond.codeWith y bytes maxL (some .int) hh ∈ z_ws) (hstt : Cond.static y ∈ z_ws) (hini : Cond.initialized y.cls ∈ z_ws) (hl : Cond.methodLink own index y ∈ z_ws) (hd : y.cls ≠ "java/lang/invoke/MethodHandle" ∧ y.cls ≠ "java/lang/invoke/VarHandle" ∧ (parseMethodDescriptor y.desc).map (fun d => d.parameters.length) = some n) (hrc : rm.cells = mc) (hrs : rm.slots = ms) (hR : rm.frames + 1 ≤ R.frames ∧ 8 + (maxL + 11) + rm.locals ≤ R.locals) (hn : As.length = n) (hsize : ls.size = nL) (hst : st0 = As.reverse ++ rest) (hW : (rest.map fun v => v.category).sum ≤ 8) (hdg : decode cc pc = .ok (.invokestatic index, 3)) (hf : cells + mc ≤ R.cells ∧ slots + ms ≤ R.slots) :
    va_Run p l e R s m args below meth c H locs cells slots mc ms (F0 m pc ls st0) rest (z_QL G ad h' (z_n h) H.size r As.toArray) (z_A ad (z_n h) H.size) :=
  vx_runSW hc.1 (hM H.size) (vx_cwSW (Ts := z_ws) n hc.1.2.2.2.2 (fun w hw => by
    unfold va_wsS at hw
    simp only [List.mem_append, List.mem_cons, List.not_mem_nil, or_false] at hw
    rcases hw with hw | hw
    · rcases hw with hw | hw | hw <;> (subst hw; exact z_good _ (by assumption))
    · rcases hw with hw | hw
      · subst hw; exact z_good _ hcw
      · exact z_good _ hw) rfl hrc hrs hd hR) (z_pre hc hB) rfl hn hsize hst (by show 2 * 0 + _ ≤ 8; omega) hdg hf
theorem z_2W {r : Int32} {a : Array Value} (hc : z_C G S ad 0 p m c cc nL s args own meth) (w : z_2 G s ad ad2 h h2 H locs) (hr : va_Run p l e R s m args below meth c H locs cells slots mc ms (F0 m pc ls st0) rest (z_QL G ad h' (z_n h) H.size r a) (z_A ad (z_n h) H.size))
    (kk : ∀ (H1 : Heap) (locs1 : List Loc) (ad1 ad2' : Nat → Nat), (∀ i, i < z_n h' → ad1 i = ad i) → (∀ i, i < z_n h2 → ad2' i = ad2 i) → z_2 G s ad1 ad2' h' h2 H1 locs1 → W p l e R s m args below meth c H1 locs1 (cells + mc) (slots + ms) Q (F0 m (pc + 3) ls (.int r :: rest))) : W p l e R s m args below meth c H locs cells slots Q (F0 m pc ls st0) := by
  refine va_calli hr w.B.2 (fun q _ hq => z_A1 hc w.B q hq) (z_A1 hc w.B) (fun r1 ad1 t H1 locs1 ht _ hp hb hz hq hS => ?_)
  subst hp
  obtain ⟨b1, b2, b3⟩ := hb
  refine kk H1 locs1 ad1 _ b1 (fun i hi => z_re_lt hi) (w.next hz hq hS (by rw [← ht]; exact b3) b1 (fun i => ?_))
  rcases b2 i with ⟨j, -, e⟩ | h3
  · rw [e]; exact w.2.2.2.2.1 j
  · exact Nat.le_trans w.2.2.1.1 h3
end ZW

theorem qc_X11_sure : Cond.code yX11_sure cX11_sure 2 (some .long) ∈ z_ws := List.mem_filter.mpr ⟨List.mem_append_right _ (List.mem_of_getElem? (i := 1076) (by decide +kernel)), rfl⟩
theorem qi_X11_sure : Cond.instanceMethod yX11_sure ∈ z_ws := List.mem_filter.mpr ⟨List.mem_append_right _ (List.mem_of_getElem? (i := 1074) (by decide +kernel)), rfl⟩
theorem qs_X11_sure : Cond.selects RX11 yX11_sure yX11_sure ∈ z_ws := List.mem_filter.mpr ⟨List.mem_append_right _ (List.mem_of_getElem? (i := 1075) (by decide +kernel)), rfl⟩
theorem md_X11_sure : z_mdV yX11_sure cX11_sure 2 (some .long) 1 := ⟨⟨qn_RX11, qc_X11_sure, ⟨by decide +kernel, by decide +kernel, by decide +kernel⟩⟩, qi_X11_sure, qs_X11_sure⟩
theorem qmL_7 : Cond.methodLink RL 7 yX11_sure ∈ z_ws := List.mem_filter.mpr ⟨List.mem_append_right _ (List.mem_of_getElem? (i := 1073) (by decide +kernel)), rfl⟩
theorem qlL_13 : Cond.classLink RL 13 "java/util/NoSuchElementException" ∈ z_ws := List.mem_filter.mpr ⟨List.mem_append_right _ (List.mem_of_getElem? (i := 1072) (by decide +kernel)), rfl⟩
abbrev rm_L_sure : Room := { frames := 7, cells := 1, slots := 6, locals := 102 }
theorem dL_sure_0 : decode cL_sure 0 = .ok (.aload_n 2, 1) := by decide +kernel
theorem dL_sure_1 : decode cL_sure 1 = .ok (.iconst 0, 1) := by decide +kernel
theorem dL_sure_2 : decode cL_sure 2 = .ok (.aload_n 0, 1) := by decide +kernel
theorem dL_sure_3 : decode cL_sure 3 = .ok (.iload_n 1, 1) := by decide +kernel
theorem dL_sure_4 : decode cL_sure 4 = .ok (.invokevirtual 7, 3) := by decide +kernel
theorem dL_sure_7 : decode cL_sure 7 = .ok (.lastore, 1) := by decide +kernel
theorem dL_sure_8 : decode cL_sure 8 = .ok (.goto 6, 3) := by decide +kernel
theorem dL_sure_11 : decode cL_sure 11 = .ok (.astore_n 3, 1) := by decide +kernel
theorem dL_sure_12 : decode cL_sure 12 = .ok (.iconst 1, 1) := by decide +kernel
theorem dL_sure_13 : decode cL_sure 13 = .ok (.ireturn, 1) := by decide +kernel
theorem dL_sure_14 : decode cL_sure 14 = .ok (.iconst 0, 1) := by decide +kernel
theorem dL_sure_15 : decode cL_sure 15 = .ok (.ireturn, 1) := by decide +kernel
noncomputable def fL_sure (o : Nat) (x1 : Int32) (t : Nat) (h : z_T) : Option (Int32 × z_T) :=
  y_gd (z_ok h o 10) <|
  y_bi (fX11_sure o x1 h) fun r => match r with
  | some v => y_gd (z_ok h t 14) <| y_gd (z_ix 0 (z_N h t)) <| some (0, z_sL h t 0 v)
  | none => some (1, h)
set_option maxHeartbeats 4000000 in
theorem mm_L_sure {G : z_Gt} (hSK : z_SK (z_S G)) (l : Launch) (hfl : l.stackTraces = false) (ad : Nat → Nat) (o : Nat) (x1 : Int32) (t : Nat) (h : z_T) {r0 : Int32} {h9 : z_T} (hv : fL_sure o x1 t h = some (r0, h9)) : z_Mw G (z_S G) l yL_sure cL_sure 4 [(0, 8, 11, 13)] rm_L_sure 1 6 [.ref (ad o), .int x1, .ref (ad t)] ad h h9 r0 := by
  refine z_ofWr hSK (by decide) (Nat.le_of_ble_eq_true rfl) ?_
  intro p e s m args below meth c ls hc hr htab hB hl
  have hx := hc.1.1
  have hb := hc.1.2.1
  have hown := hc.1.2.2.2.1
  replace hl : lv_has ls 4 [(0, .ref (ad o)), (1, .int x1), (2, .ref (ad t))] := hl
  obtain ⟨g, hv⟩ := y_gd_e hv
  obtain ⟨r, hf, hv⟩ := y_bi_e hv
  refine lv_aload_n hx hb dL_sure_0 rfl (lv_at hl 2 rfl) ?_
  refine lv_iconst (v := (0 : Int32)) hx hb dL_sure_1 (by decide) ?_
  refine lv_aload_n hx hb dL_sure_2 rfl (lv_at hl 0 rfl) ?_
  refine lv_iload_n hx hb dL_sure_3 rfl (lv_at hl 1 rfl) ?_
  refine z_thT hc hB (z_runT (As := [.int x1]) (rest := [.int 0, .ref (ad t)]) hc hB (mm_X11_sure hSK l hfl ad o x1 h hf) md_X11_sure qmL_7 g rfl rfl rfl ⟨Nat.le_of_ble_eq_true rfl, Nat.le_of_ble_eq_true rfl⟩ rfl hl.1 rfl (Nat.le_of_ble_eq_true rfl) dL_sure_4 ⟨Nat.le_of_ble_eq_true rfl, Nat.le_of_ble_eq_true rfl⟩) (fun er ce q9 H1 locs1 ad1 a1 a2 a3 a4 a5 a6 a7 => ?_) (fun v er H1 locs1 hB1 => ?_)
  · subst er
    cases Option.some.inj hv
    refine vx_catch hown [] (⟨0, 8, 11, 13⟩ : ExceptionTableEntry) [] htab (fun z hz => nomatch hz) rfl (by decide) (hc.1.2.2.2.2 _ qlL_13) (va_Nw.use rfl hc.2.1.2.2.2.2.2.2.2.2.1) a5 a6 a7 ?_
    show W p l e rm_L_sure s m args below meth c H1 locs1 1 6 _ (F0 m 11 ls [.ref q9])
    refine lv_astore_n (lv' := [(3, .ref q9), (0, .ref (ad o)), (1, .int x1), (2, .ref (ad t))]) hx hb dL_sure_11 rfl hl (by decide) rfl (fun ls hl => ?_)
    refine lv_iconst (v := (1 : Int32)) hx hb dL_sure_12 (by decide) ?_
    exact z_wret hc a1 a2 a3 a4 hr dL_sure_13
  · subst er
    obtain ⟨g1, hv⟩ := y_gd_e hv
    obtain ⟨g2, hv⟩ := y_gd_e hv
    cases Option.some.inj hv
    refine z_last hc hB1 g1 g2 dL_sure_7 (fun H2 locs2 hB2 => ?_)
    refine lv_goto (tgt := 14) hx hb dL_sure_8 (by decide) ?_
    refine lv_iconst (v := (0 : Int32)) hx hb dL_sure_14 (by decide) ?_
    exact z_wret hc (fun _ _ => rfl) hc.2.2.1 hB2.1 hB2.2 hr dL_sure_15
theorem qc_X11_odds : Cond.code yX11_odds cX11_odds 3 (some .long) ∈ z_ws := List.mem_filter.mpr ⟨List.mem_append_right _ (List.mem_of_getElem? (i := 1149) (by decide +kernel)), rfl⟩
theorem qi_X11_odds : Cond.instanceMethod yX11_odds ∈ z_ws := List.mem_filter.mpr ⟨List.mem_append_right _ (List.mem_of_getElem? (i := 1147) (by decide +kernel)), rfl⟩
theorem qs_X11_odds : Cond.selects RX11 yX11_odds yX11_odds ∈ z_ws := List.mem_filter.mpr ⟨List.mem_append_right _ (List.mem_of_getElem? (i := 1148) (by decide +kernel)), rfl⟩
theorem md_X11_odds : z_mdV yX11_odds cX11_odds 3 (some .long) 2 := ⟨⟨qn_RX11, qc_X11_odds, ⟨by decide +kernel, by decide +kernel, by decide +kernel⟩⟩, qi_X11_odds, qs_X11_odds⟩
theorem qmL_15 : Cond.methodLink RL 15 yX11_odds ∈ z_ws := List.mem_filter.mpr ⟨List.mem_append_right _ (List.mem_of_getElem? (i := 1146) (by decide +kernel)), rfl⟩
abbrev rm_L_odds : Room := { frames := 7, cells := 1, slots := 6, locals := 103 }
theorem dL_odds_0 : decode cL_odds 0 = .ok (.aload_n 3, 1) := by decide +kernel
theorem dL_odds_1 : decode cL_odds 1 = .ok (.iconst 0, 1) := by decide +kernel
theorem dL_odds_2 : decode cL_odds 2 = .ok (.aload_n 0, 1) := by decide +kernel
theorem dL_odds_3 : decode cL_odds 3 = .ok (.iload_n 1, 1) := by decide +kernel
theorem dL_odds_4 : decode cL_odds 4 = .ok (.iload_n 2, 1) := by decide +kernel
theorem dL_odds_5 : decode cL_odds 5 = .ok (.invokevirtual 15, 3) := by decide +kernel
theorem dL_odds_8 : decode cL_odds 8 = .ok (.lastore, 1) := by decide +kernel
theorem dL_odds_9 : decode cL_odds 9 = .ok (.goto 7, 3) := by decide +kernel
theorem dL_odds_12 : decode cL_odds 12 = .ok (.astore 4, 2) := by decide +kernel
theorem dL_odds_14 : decode cL_odds 14 = .ok (.iconst 1, 1) := by decide +kernel
theorem dL_odds_15 : decode cL_odds 15 = .ok (.ireturn, 1) := by decide +kernel
theorem dL_odds_16 : decode cL_odds 16 = .ok (.iconst 0, 1) := by decide +kernel
theorem dL_odds_17 : decode cL_odds 17 = .ok (.ireturn, 1) := by decide +kernel
noncomputable def fL_odds (o : Nat) (x1 x2 : Int32) (t : Nat) (h : z_T) : Option (Int32 × z_T) :=
  y_gd (z_ok h o 10) <|
  y_bi (fX11_odds o x1 x2 h) fun r => match r with
  | some v => y_gd (z_ok h t 14) <| y_gd (z_ix 0 (z_N h t)) <| some (0, z_sL h t 0 v)
  | none => some (1, h)
set_option maxHeartbeats 4000000 in
theorem mm_L_odds {G : z_Gt} (hSK : z_SK (z_S G)) (l : Launch) (hfl : l.stackTraces = false) (ad : Nat → Nat) (o : Nat) (x1 x2 : Int32) (t : Nat) (h : z_T) {r0 : Int32} {h9 : z_T} (hv : fL_odds o x1 x2 t h = some (r0, h9)) : z_Mw G (z_S G) l yL_odds cL_odds 5 [(0, 9, 12, 13)] rm_L_odds 1 6 [.ref (ad o), .int x1, .int x2, .ref (ad t)] ad h h9 r0 := by
  refine z_ofWr hSK (by decide) (Nat.le_of_ble_eq_true rfl) ?_
  intro p e s m args below meth c ls hc hr htab hB hl
  have hx := hc.1.1
  have hb := hc.1.2.1
  have hown := hc.1.2.2.2.1
  replace hl : lv_has ls 5 [(0, .ref (ad o)), (1, .int x1), (2, .int x2), (3, .ref (ad t))] := hl
  obtain ⟨g, hv⟩ := y_gd_e hv
  obtain ⟨r, hf, hv⟩ := y_bi_e hv
  refine lv_aload_n hx hb dL_odds_0 rfl (lv_at hl 3 rfl) ?_
  refine lv_iconst (v := (0 : Int32)) hx hb dL_odds_1 (by decide) ?_
  refine lv_aload_n hx hb dL_odds_2 rfl (lv_at hl 0 rfl) ?_
  refine lv_iload_n hx hb dL_odds_3 rfl (lv_at hl 1 rfl) ?_
  refine lv_iload_n hx hb dL_odds_4 rfl (lv_at hl 2 rfl) ?_
  refine z_thT hc hB (z_runT (As := [.int x1, .int x2]) (rest := [.int 0, .ref (ad t)]) hc hB (mm_X11_odds hSK l hfl ad o x1 x2 h hf) md_X11_odds qmL_15 g rfl rfl rfl ⟨Nat.le_of_ble_eq_true rfl, Nat.le_of_ble_eq_true rfl⟩ rfl hl.1 rfl (Nat.le_of_ble_eq_true rfl) dL_odds_5 ⟨Nat.le_of_ble_eq_true rfl, Nat.le_of_ble_eq_true rfl⟩) (fun er ce q9 H1 locs1 ad1 a1 a2 a3 a4 a5 a6 a7 => ?_) (fun v er H1 locs1 hB1 => ?_)
  · subst er
    cases Option.some.inj hv
    refine vx_catch hown [] (⟨0, 9, 12, 13⟩ : ExceptionTableEntry) [] htab (fun z hz => nomatch hz) rfl (by decide) (hc.1.2.2.2.2 _ qlL_13) (va_Nw.use rfl hc.2.1.2.2.2.2.2.2.2.2.1) a5 a6 a7 ?_
    show W p l e rm_L_odds s m args below meth c H1 locs1 1 6 _ (F0 m 12 ls [.ref q9])
    refine lv_astore (lv' := [(4, .ref q9), (0, .ref (ad o)), (1, .int x1), (2, .int x2), (3, .ref (ad t))]) hx hb dL_odds_12 hl (by decide) rfl (fun ls hl => ?_)
    refine lv_iconst (v := (1 : Int32)) hx hb dL_odds_14 (by decide) ?_
    exact z_wret hc a1 a2 a3 a4 hr dL_odds_15
  · subst er
    obtain ⟨g1, hv⟩ := y_gd_e hv
    obtain ⟨g2, hv⟩ := y_gd_e hv
    cases Option.some.inj hv
    refine z_last hc hB1 g1 g2 dL_odds_8 (fun H2 locs2 hB2 => ?_)
    refine lv_goto (tgt := 16) hx hb dL_odds_9 (by decide) ?_
    refine lv_iconst (v := (0 : Int32)) hx hb dL_odds_16 (by decide) ?_
    exact z_wret hc (fun _ _ => rfl) hc.2.2.1 hB2.1 hB2.2 hr dL_odds_17
theorem qc_X11_error : Cond.code yX11_error cX11_error 4 (some .long) ∈ z_ws := List.mem_filter.mpr ⟨List.mem_append_right _ (List.mem_of_getElem? (i := 1156) (by decide +kernel)), rfl⟩
theorem qi_X11_error : Cond.instanceMethod yX11_error ∈ z_ws := List.mem_filter.mpr ⟨List.mem_append_right _ (List.mem_of_getElem? (i := 1154) (by decide +kernel)), rfl⟩
theorem qs_X11_error : Cond.selects RX11 yX11_error yX11_error ∈ z_ws := List.mem_filter.mpr ⟨List.mem_append_right _ (List.mem_of_getElem? (i := 1155) (by decide +kernel)), rfl⟩
theorem md_X11_error : z_mdV yX11_error cX11_error 4 (some .long) 2 := ⟨⟨qn_RX11, qc_X11_error, ⟨by decide +kernel, by decide +kernel, by decide +kernel⟩⟩, qi_X11_error, qs_X11_error⟩
theorem qmL_19 : Cond.methodLink RL 19 yX11_error ∈ z_ws := List.mem_filter.mpr ⟨List.mem_append_right _ (List.mem_of_getElem? (i := 1153) (by decide +kernel)), rfl⟩
abbrev rm_L_error : Room := { frames := 7, cells := 1, slots := 6, locals := 123 }
theorem dL_error_0 : decode cL_error 0 = .ok (.aload_n 3, 1) := by decide +kernel
theorem dL_error_1 : decode cL_error 1 = .ok (.iconst 0, 1) := by decide +kernel
theorem dL_error_2 : decode cL_error 2 = .ok (.aload_n 0, 1) := by decide +kernel
theorem dL_error_3 : decode cL_error 3 = .ok (.iload_n 1, 1) := by decide +kernel
theorem dL_error_4 : decode cL_error 4 = .ok (.iload_n 2, 1) := by decide +kernel
theorem dL_error_5 : decode cL_error 5 = .ok (.invokevirtual 19, 3) := by decide +kernel
theorem dL_error_8 : decode cL_error 8 = .ok (.lastore, 1) := by decide +kernel
theorem dL_error_9 : decode cL_error 9 = .ok (.goto 7, 3) := by decide +kernel
theorem dL_error_12 : decode cL_error 12 = .ok (.astore 4, 2) := by decide +kernel
theorem dL_error_14 : decode cL_error 14 = .ok (.iconst 1, 1) := by decide +kernel
theorem dL_error_15 : decode cL_error 15 = .ok (.ireturn, 1) := by decide +kernel
theorem dL_error_16 : decode cL_error 16 = .ok (.iconst 0, 1) := by decide +kernel
theorem dL_error_17 : decode cL_error 17 = .ok (.ireturn, 1) := by decide +kernel
noncomputable def fL_error (o : Nat) (x1 x2 : Int32) (t : Nat) (h : z_T) : Option (Int32 × z_T) :=
  y_gd (z_ok h o 10) <|
  y_bi (fX11_error o x1 x2 h) fun r => match r with
  | some v => y_gd (z_ok h t 14) <| y_gd (z_ix 0 (z_N h t)) <| some (0, z_sL h t 0 v)
  | none => some (1, h)
set_option maxHeartbeats 4000000 in
theorem mm_L_error {G : z_Gt} (hSK : z_SK (z_S G)) (l : Launch) (hfl : l.stackTraces = false) (ad : Nat → Nat) (o : Nat) (x1 x2 : Int32) (t : Nat) (h : z_T) {r0 : Int32} {h9 : z_T} (hv : fL_error o x1 x2 t h = some (r0, h9)) : z_Mw G (z_S G) l yL_error cL_error 5 [(0, 9, 12, 13)] rm_L_error 1 6 [.ref (ad o), .int x1, .int x2, .ref (ad t)] ad h h9 r0 := by
  refine z_ofWr hSK (by decide) (Nat.le_of_ble_eq_true rfl) ?_
  intro p e s m args below meth c ls hc hr htab hB hl
  have hx := hc.1.1
  have hb := hc.1.2.1
  have hown := hc.1.2.2.2.1
  replace hl : lv_has ls 5 [(0, .ref (ad o)), (1, .int x1), (2, .int x2), (3, .ref (ad t))] := hl
  obtain ⟨g, hv⟩ := y_gd_e hv
  obtain ⟨r, hf, hv⟩ := y_bi_e hv
  refine lv_aload_n hx hb dL_error_0 rfl (lv_at hl 3 rfl) ?_
  refine lv_iconst (v := (0 : Int32)) hx hb dL_error_1 (by decide) ?_
  refine lv_aload_n hx hb dL_error_2 rfl (lv_at hl 0 rfl) ?_
  refine lv_iload_n hx hb dL_error_3 rfl (lv_at hl 1 rfl) ?_
  refine lv_iload_n hx hb dL_error_4 rfl (lv_at hl 2 rfl) ?_
  refine z_thT hc hB (z_runT (As := [.int x1, .int x2]) (rest := [.int 0, .ref (ad t)]) hc hB (mm_X11_error hSK l hfl ad o x1 x2 h hf) md_X11_error qmL_19 g rfl rfl rfl ⟨Nat.le_of_ble_eq_true rfl, Nat.le_of_ble_eq_true rfl⟩ rfl hl.1 rfl (Nat.le_of_ble_eq_true rfl) dL_error_5 ⟨Nat.le_of_ble_eq_true rfl, Nat.le_of_ble_eq_true rfl⟩) (fun er ce q9 H1 locs1 ad1 a1 a2 a3 a4 a5 a6 a7 => ?_) (fun v er H1 locs1 hB1 => ?_)
  · subst er
    cases Option.some.inj hv
    refine vx_catch hown [] (⟨0, 9, 12, 13⟩ : ExceptionTableEntry) [] htab (fun z hz => nomatch hz) rfl (by decide) (hc.1.2.2.2.2 _ qlL_13) (va_Nw.use rfl hc.2.1.2.2.2.2.2.2.2.2.1) a5 a6 a7 ?_
    show W p l e rm_L_error s m args below meth c H1 locs1 1 6 _ (F0 m 12 ls [.ref q9])
    refine lv_astore (lv' := [(4, .ref q9), (0, .ref (ad o)), (1, .int x1), (2, .int x2), (3, .ref (ad t))]) hx hb dL_error_12 hl (by decide) rfl (fun ls hl => ?_)
    refine lv_iconst (v := (1 : Int32)) hx hb dL_error_14 (by decide) ?_
    exact z_wret hc a1 a2 a3 a4 hr dL_error_15
  · subst er
    obtain ⟨g1, hv⟩ := y_gd_e hv
    obtain ⟨g2, hv⟩ := y_gd_e hv
    cases Option.some.inj hv
    refine z_last hc hB1 g1 g2 dL_error_8 (fun H2 locs2 hB2 => ?_)
    refine lv_goto (tgt := 16) hx hb dL_error_9 (by decide) ?_
    refine lv_iconst (v := (0 : Int32)) hx hb dL_error_16 (by decide) ?_
    exact z_wret hc (fun _ _ => rfl) hc.2.2.1 hB2.1 hB2.2 hr dL_error_17
theorem qc_X11_cost : Cond.code yX11_cost cX11_cost 4 (some .long) ∈ z_ws := List.mem_filter.mpr ⟨List.mem_append_right _ (List.mem_of_getElem? (i := 1169) (by decide +kernel)), rfl⟩
theorem qi_X11_cost : Cond.instanceMethod yX11_cost ∈ z_ws := List.mem_filter.mpr ⟨List.mem_append_right _ (List.mem_of_getElem? (i := 1167) (by decide +kernel)), rfl⟩
theorem qs_X11_cost : Cond.selects RX11 yX11_cost yX11_cost ∈ z_ws := List.mem_filter.mpr ⟨List.mem_append_right _ (List.mem_of_getElem? (i := 1168) (by decide +kernel)), rfl⟩
theorem md_X11_cost : z_mdV yX11_cost cX11_cost 4 (some .long) 2 := ⟨⟨qn_RX11, qc_X11_cost, ⟨by decide +kernel, by decide +kernel, by decide +kernel⟩⟩, qi_X11_cost, qs_X11_cost⟩
theorem qmL_22 : Cond.methodLink RL 22 yX11_cost ∈ z_ws := List.mem_filter.mpr ⟨List.mem_append_right _ (List.mem_of_getElem? (i := 1166) (by decide +kernel)), rfl⟩
abbrev rm_L_cost : Room := { frames := 20, cells := 1, slots := 6, locals := 625 }
theorem dL_cost_0 : decode cL_cost 0 = .ok (.aload_n 3, 1) := by decide +kernel
theorem dL_cost_1 : decode cL_cost 1 = .ok (.iconst 0, 1) := by decide +kernel
theorem dL_cost_2 : decode cL_cost 2 = .ok (.aload_n 0, 1) := by decide +kernel
theorem dL_cost_3 : decode cL_cost 3 = .ok (.iload_n 1, 1) := by decide +kernel
theorem dL_cost_4 : decode cL_cost 4 = .ok (.iload_n 2, 1) := by decide +kernel
theorem dL_cost_5 : decode cL_cost 5 = .ok (.invokevirtual 22, 3) := by decide +kernel
theorem dL_cost_8 : decode cL_cost 8 = .ok (.lastore, 1) := by decide +kernel
theorem dL_cost_9 : decode cL_cost 9 = .ok (.goto 7, 3) := by decide +kernel
theorem dL_cost_12 : decode cL_cost 12 = .ok (.astore 4, 2) := by decide +kernel
theorem dL_cost_14 : decode cL_cost 14 = .ok (.iconst 1, 1) := by decide +kernel
theorem dL_cost_15 : decode cL_cost 15 = .ok (.ireturn, 1) := by decide +kernel
theorem dL_cost_16 : decode cL_cost 16 = .ok (.iconst 0, 1) := by decide +kernel
theorem dL_cost_17 : decode cL_cost 17 = .ok (.ireturn, 1) := by decide +kernel
noncomputable def fL_cost (o : Nat) (x1 x2 : Int32) (t : Nat) (h : z_T) : Option (Int32 × z_T) :=
  y_gd (z_ok h o 10) <|
  y_bi (fX11_cost o x1 x2 h) fun ⟨r, h1⟩ => match r with
  | some v => y_gd (z_ok h1 t 14) <| y_gd (z_ix 0 (z_N h1 t)) <| some (0, z_sL h1 t 0 v)
  | none => some (1, h1)
set_option maxHeartbeats 4000000 in
theorem mm_L_cost {G : z_Gt} (hSK : z_SK (z_S G)) (l : Launch) (hfl : l.stackTraces = false) (ad : Nat → Nat) (o : Nat) (x1 x2 : Int32) (t : Nat) (h : z_T) {r0 : Int32} {h9 : z_T} (hv : fL_cost o x1 x2 t h = some (r0, h9)) : z_Mw G (z_S G) l yL_cost cL_cost 5 [(0, 9, 12, 13)] rm_L_cost 1 6 [.ref (ad o), .int x1, .int x2, .ref (ad t)] ad h h9 r0 := by
  refine z_ofWr hSK (by decide) (Nat.le_of_ble_eq_true rfl) ?_
  intro p e s m args below meth c ls hc hr htab hB hl
  have hx := hc.1.1
  have hb := hc.1.2.1
  have hown := hc.1.2.2.2.1
  replace hl : lv_has ls 5 [(0, .ref (ad o)), (1, .int x1), (2, .int x2), (3, .ref (ad t))] := hl
  obtain ⟨g, hv⟩ := y_gd_e hv
  obtain ⟨⟨r, h1⟩, hf, hv⟩ := y_bi_e hv
  refine lv_aload_n hx hb dL_cost_0 rfl (lv_at hl 3 rfl) ?_
  refine lv_iconst (v := (0 : Int32)) hx hb dL_cost_1 (by decide) ?_
  refine lv_aload_n hx hb dL_cost_2 rfl (lv_at hl 0 rfl) ?_
  refine lv_iload_n hx hb dL_cost_3 rfl (lv_at hl 1 rfl) ?_
  refine lv_iload_n hx hb dL_cost_4 rfl (lv_at hl 2 rfl) ?_
  refine z_thT hc hB (z_runT (As := [.int x1, .int x2]) (rest := [.int 0, .ref (ad t)]) hc hB (mm_X11_cost hSK l hfl ad o x1 x2 h hf) md_X11_cost qmL_22 g rfl rfl rfl ⟨Nat.le_of_ble_eq_true rfl, Nat.le_of_ble_eq_true rfl⟩ rfl hl.1 rfl (Nat.le_of_ble_eq_true rfl) dL_cost_5 ⟨Nat.le_of_ble_eq_true rfl, Nat.le_of_ble_eq_true rfl⟩) (fun er ce q9 H1 locs1 ad1 a1 a2 a3 a4 a5 a6 a7 => ?_) (fun v er H1 locs1 hB1 => ?_)
  · subst er
    cases Option.some.inj hv
    refine vx_catch hown [] (⟨0, 9, 12, 13⟩ : ExceptionTableEntry) [] htab (fun z hz => nomatch hz) rfl (by decide) (hc.1.2.2.2.2 _ qlL_13) (va_Nw.use rfl hc.2.1.2.2.2.2.2.2.2.2.1) a5 a6 a7 ?_
    show W p l e rm_L_cost s m args below meth c H1 locs1 1 6 _ (F0 m 12 ls [.ref q9])
    refine lv_astore (lv' := [(4, .ref q9), (0, .ref (ad o)), (1, .int x1), (2, .int x2), (3, .ref (ad t))]) hx hb dL_cost_12 hl (by decide) rfl (fun ls hl => ?_)
    refine lv_iconst (v := (1 : Int32)) hx hb dL_cost_14 (by decide) ?_
    exact z_wret hc a1 a2 a3 a4 hr dL_cost_15
  · subst er
    obtain ⟨g1, hv⟩ := y_gd_e hv
    obtain ⟨g2, hv⟩ := y_gd_e hv
    cases Option.some.inj hv
    refine z_last hc hB1 g1 g2 dL_cost_8 (fun H2 locs2 hB2 => ?_)
    refine lv_goto (tgt := 16) hx hb dL_cost_9 (by decide) ?_
    refine lv_iconst (v := (0 : Int32)) hx hb dL_cost_16 (by decide) ?_
    exact z_wret hc (fun _ _ => rfl) hc.2.2.1 hB2.1 hB2.2 hr dL_cost_17
theorem qc_X11_worth : Cond.code yX11_worth cX11_worth 4 (some .long) ∈ z_ws := List.mem_filter.mpr ⟨List.mem_append_right _ (List.mem_of_getElem? (i := 1180) (by decide +kernel)), rfl⟩
theorem qi_X11_worth : Cond.instanceMethod yX11_worth ∈ z_ws := List.mem_filter.mpr ⟨List.mem_append_right _ (List.mem_of_getElem? (i := 1178) (by decide +kernel)), rfl⟩
theorem qs_X11_worth : Cond.selects RX11 yX11_worth yX11_worth ∈ z_ws := List.mem_filter.mpr ⟨List.mem_append_right _ (List.mem_of_getElem? (i := 1179) (by decide +kernel)), rfl⟩
theorem md_X11_worth : z_mdV yX11_worth cX11_worth 4 (some .long) 1 := ⟨⟨qn_RX11, qc_X11_worth, ⟨by decide +kernel, by decide +kernel, by decide +kernel⟩⟩, qi_X11_worth, qs_X11_worth⟩
theorem qmL_25 : Cond.methodLink RL 25 yX11_worth ∈ z_ws := List.mem_filter.mpr ⟨List.mem_append_right _ (List.mem_of_getElem? (i := 1177) (by decide +kernel)), rfl⟩
abbrev rm_L_worth : Room := { frames := 7, cells := 1, slots := 6, locals := 120 }
theorem dL_worth_0 : decode cL_worth 0 = .ok (.aload_n 2, 1) := by decide +kernel
theorem dL_worth_1 : decode cL_worth 1 = .ok (.iconst 0, 1) := by decide +kernel
theorem dL_worth_2 : decode cL_worth 2 = .ok (.aload_n 0, 1) := by decide +kernel
theorem dL_worth_3 : decode cL_worth 3 = .ok (.iload_n 1, 1) := by decide +kernel
theorem dL_worth_4 : decode cL_worth 4 = .ok (.invokevirtual 25, 3) := by decide +kernel
theorem dL_worth_7 : decode cL_worth 7 = .ok (.lastore, 1) := by decide +kernel
theorem dL_worth_8 : decode cL_worth 8 = .ok (.goto 6, 3) := by decide +kernel
theorem dL_worth_11 : decode cL_worth 11 = .ok (.astore_n 3, 1) := by decide +kernel
theorem dL_worth_12 : decode cL_worth 12 = .ok (.iconst 1, 1) := by decide +kernel
theorem dL_worth_13 : decode cL_worth 13 = .ok (.ireturn, 1) := by decide +kernel
theorem dL_worth_14 : decode cL_worth 14 = .ok (.iconst 0, 1) := by decide +kernel
theorem dL_worth_15 : decode cL_worth 15 = .ok (.ireturn, 1) := by decide +kernel
noncomputable def fL_worth (o : Nat) (x1 : Int32) (t : Nat) (h : z_T) : Option (Int32 × z_T) :=
  y_gd (z_ok h o 10) <|
  y_bi (fX11_worth o x1 h) fun r => match r with
  | some v => y_gd (z_ok h t 14) <| y_gd (z_ix 0 (z_N h t)) <| some (0, z_sL h t 0 v)
  | none => some (1, h)
set_option maxHeartbeats 4000000 in
theorem mm_L_worth {G : z_Gt} (hSK : z_SK (z_S G)) (l : Launch) (hfl : l.stackTraces = false) (ad : Nat → Nat) (o : Nat) (x1 : Int32) (t : Nat) (h : z_T) {r0 : Int32} {h9 : z_T} (hv : fL_worth o x1 t h = some (r0, h9)) : z_Mw G (z_S G) l yL_worth cL_worth 4 [(0, 8, 11, 13)] rm_L_worth 1 6 [.ref (ad o), .int x1, .ref (ad t)] ad h h9 r0 := by
  refine z_ofWr hSK (by decide) (Nat.le_of_ble_eq_true rfl) ?_
  intro p e s m args below meth c ls hc hr htab hB hl
  have hx := hc.1.1
  have hb := hc.1.2.1
  have hown := hc.1.2.2.2.1
  replace hl : lv_has ls 4 [(0, .ref (ad o)), (1, .int x1), (2, .ref (ad t))] := hl
  obtain ⟨g, hv⟩ := y_gd_e hv
  obtain ⟨r, hf, hv⟩ := y_bi_e hv
  refine lv_aload_n hx hb dL_worth_0 rfl (lv_at hl 2 rfl) ?_
  refine lv_iconst (v := (0 : Int32)) hx hb dL_worth_1 (by decide) ?_
  refine lv_aload_n hx hb dL_worth_2 rfl (lv_at hl 0 rfl) ?_
  refine lv_iload_n hx hb dL_worth_3 rfl (lv_at hl 1 rfl) ?_
  refine z_thT hc hB (z_runT (As := [.int x1]) (rest := [.int 0, .ref (ad t)]) hc hB (mm_X11_worth hSK l hfl ad o x1 h hf) md_X11_worth qmL_25 g rfl rfl rfl ⟨Nat.le_of_ble_eq_true rfl, Nat.le_of_ble_eq_true rfl⟩ rfl hl.1 rfl (Nat.le_of_ble_eq_true rfl) dL_worth_4 ⟨Nat.le_of_ble_eq_true rfl, Nat.le_of_ble_eq_true rfl⟩) (fun er ce q9 H1 locs1 ad1 a1 a2 a3 a4 a5 a6 a7 => ?_) (fun v er H1 locs1 hB1 => ?_)
  · subst er
    cases Option.some.inj hv
    refine vx_catch hown [] (⟨0, 8, 11, 13⟩ : ExceptionTableEntry) [] htab (fun z hz => nomatch hz) rfl (by decide) (hc.1.2.2.2.2 _ qlL_13) (va_Nw.use rfl hc.2.1.2.2.2.2.2.2.2.2.1) a5 a6 a7 ?_
    show W p l e rm_L_worth s m args below meth c H1 locs1 1 6 _ (F0 m 11 ls [.ref q9])
    refine lv_astore_n (lv' := [(3, .ref q9), (0, .ref (ad o)), (1, .int x1), (2, .ref (ad t))]) hx hb dL_worth_11 rfl hl (by decide) rfl (fun ls hl => ?_)
    refine lv_iconst (v := (1 : Int32)) hx hb dL_worth_12 (by decide) ?_
    exact z_wret hc a1 a2 a3 a4 hr dL_worth_13
  · subst er
    obtain ⟨g1, hv⟩ := y_gd_e hv
    obtain ⟨g2, hv⟩ := y_gd_e hv
    cases Option.some.inj hv
    refine z_last hc hB1 g1 g2 dL_worth_7 (fun H2 locs2 hB2 => ?_)
    refine lv_goto (tgt := 14) hx hb dL_worth_8 (by decide) ?_
    refine lv_iconst (v := (0 : Int32)) hx hb dL_worth_14 (by decide) ?_
    exact z_wret hc (fun _ _ => rfl) hc.2.2.1 hB2.1 hB2.2 hr dL_worth_15
theorem qc_X11_after : Cond.code yX11_after cX11_after 6 (some .long) ∈ z_ws := List.mem_filter.mpr ⟨List.mem_append_right _ (List.mem_of_getElem? (i := 1199) (by decide +kernel)), rfl⟩
theorem qi_X11_after : Cond.instanceMethod yX11_after ∈ z_ws := List.mem_filter.mpr ⟨List.mem_append_right _ (List.mem_of_getElem? (i := 1197) (by decide +kernel)), rfl⟩
theorem qs_X11_after : Cond.selects RX11 yX11_after yX11_after ∈ z_ws := List.mem_filter.mpr ⟨List.mem_append_right _ (List.mem_of_getElem? (i := 1198) (by decide +kernel)), rfl⟩
theorem md_X11_after : z_mdV yX11_after cX11_after 6 (some .long) 2 := ⟨⟨qn_RX11, qc_X11_after, ⟨by decide +kernel, by decide +kernel, by decide +kernel⟩⟩, qi_X11_after, qs_X11_after⟩
theorem qmL_28 : Cond.methodLink RL 28 yX11_after ∈ z_ws := List.mem_filter.mpr ⟨List.mem_append_right _ (List.mem_of_getElem? (i := 1196) (by decide +kernel)), rfl⟩
abbrev rm_L_after : Room := { frames := 7, cells := 1, slots := 6, locals := 140 }
theorem dL_after_0 : decode cL_after 0 = .ok (.aload_n 3, 1) := by decide +kernel
theorem dL_after_1 : decode cL_after 1 = .ok (.iconst 0, 1) := by decide +kernel
theorem dL_after_2 : decode cL_after 2 = .ok (.aload_n 0, 1) := by decide +kernel
theorem dL_after_3 : decode cL_after 3 = .ok (.iload_n 1, 1) := by decide +kernel
theorem dL_after_4 : decode cL_after 4 = .ok (.iload_n 2, 1) := by decide +kernel
theorem dL_after_5 : decode cL_after 5 = .ok (.invokevirtual 28, 3) := by decide +kernel
theorem dL_after_8 : decode cL_after 8 = .ok (.lastore, 1) := by decide +kernel
theorem dL_after_9 : decode cL_after 9 = .ok (.goto 7, 3) := by decide +kernel
theorem dL_after_12 : decode cL_after 12 = .ok (.astore 4, 2) := by decide +kernel
theorem dL_after_14 : decode cL_after 14 = .ok (.iconst 1, 1) := by decide +kernel
theorem dL_after_15 : decode cL_after 15 = .ok (.ireturn, 1) := by decide +kernel
theorem dL_after_16 : decode cL_after 16 = .ok (.iconst 0, 1) := by decide +kernel
theorem dL_after_17 : decode cL_after 17 = .ok (.ireturn, 1) := by decide +kernel
noncomputable def fL_after (o : Nat) (x1 x2 : Int32) (t : Nat) (h : z_T) : Option (Int32 × z_T) :=
  y_gd (z_ok h o 10) <|
  y_bi (fX11_after o x1 x2 h) fun ⟨r, h1⟩ => match r with
  | some v => y_gd (z_ok h1 t 14) <| y_gd (z_ix 0 (z_N h1 t)) <| some (0, z_sL h1 t 0 v)
  | none => some (1, h1)
set_option maxHeartbeats 4000000 in
theorem mm_L_after {G : z_Gt} (hSK : z_SK (z_S G)) (l : Launch) (hfl : l.stackTraces = false) (ad : Nat → Nat) (o : Nat) (x1 x2 : Int32) (t : Nat) (h : z_T) {r0 : Int32} {h9 : z_T} (hv : fL_after o x1 x2 t h = some (r0, h9)) : z_Mw G (z_S G) l yL_after cL_after 5 [(0, 9, 12, 13)] rm_L_after 1 6 [.ref (ad o), .int x1, .int x2, .ref (ad t)] ad h h9 r0 := by
  refine z_ofWr hSK (by decide) (Nat.le_of_ble_eq_true rfl) ?_
  intro p e s m args below meth c ls hc hr htab hB hl
  have hx := hc.1.1
  have hb := hc.1.2.1
  have hown := hc.1.2.2.2.1
  replace hl : lv_has ls 5 [(0, .ref (ad o)), (1, .int x1), (2, .int x2), (3, .ref (ad t))] := hl
  obtain ⟨g, hv⟩ := y_gd_e hv
  obtain ⟨⟨r, h1⟩, hf, hv⟩ := y_bi_e hv
  refine lv_aload_n hx hb dL_after_0 rfl (lv_at hl 3 rfl) ?_
  refine lv_iconst (v := (0 : Int32)) hx hb dL_after_1 (by decide) ?_
  refine lv_aload_n hx hb dL_after_2 rfl (lv_at hl 0 rfl) ?_
  refine lv_iload_n hx hb dL_after_3 rfl (lv_at hl 1 rfl) ?_
  refine lv_iload_n hx hb dL_after_4 rfl (lv_at hl 2 rfl) ?_
  refine z_thT hc hB (z_runT (As := [.int x1, .int x2]) (rest := [.int 0, .ref (ad t)]) hc hB (mm_X11_after hSK l hfl ad o x1 x2 h hf) md_X11_after qmL_28 g rfl rfl rfl ⟨Nat.le_of_ble_eq_true rfl, Nat.le_of_ble_eq_true rfl⟩ rfl hl.1 rfl (Nat.le_of_ble_eq_true rfl) dL_after_5 ⟨Nat.le_of_ble_eq_true rfl, Nat.le_of_ble_eq_true rfl⟩) (fun er ce q9 H1 locs1 ad1 a1 a2 a3 a4 a5 a6 a7 => ?_) (fun v er H1 locs1 hB1 => ?_)
  · subst er
    cases Option.some.inj hv
    refine vx_catch hown [] (⟨0, 9, 12, 13⟩ : ExceptionTableEntry) [] htab (fun z hz => nomatch hz) rfl (by decide) (hc.1.2.2.2.2 _ qlL_13) (va_Nw.use rfl hc.2.1.2.2.2.2.2.2.2.2.1) a5 a6 a7 ?_
    show W p l e rm_L_after s m args below meth c H1 locs1 1 6 _ (F0 m 12 ls [.ref q9])
    refine lv_astore (lv' := [(4, .ref q9), (0, .ref (ad o)), (1, .int x1), (2, .int x2), (3, .ref (ad t))]) hx hb dL_after_12 hl (by decide) rfl (fun ls hl => ?_)
    refine lv_iconst (v := (1 : Int32)) hx hb dL_after_14 (by decide) ?_
    exact z_wret hc a1 a2 a3 a4 hr dL_after_15
  · subst er
    obtain ⟨g1, hv⟩ := y_gd_e hv
    obtain ⟨g2, hv⟩ := y_gd_e hv
    cases Option.some.inj hv
    refine z_last hc hB1 g1 g2 dL_after_8 (fun H2 locs2 hB2 => ?_)
    refine lv_goto (tgt := 16) hx hb dL_after_9 (by decide) ?_
    refine lv_iconst (v := (0 : Int32)) hx hb dL_after_16 (by decide) ?_
    exact z_wret hc (fun _ _ => rfl) hc.2.2.1 hB2.1 hB2.2 hr dL_after_17
theorem qc_X11_lot : Cond.code yX11_lot cX11_lot 6 (some .long) ∈ z_ws := List.mem_filter.mpr ⟨List.mem_append_right _ (List.mem_of_getElem? (i := 1206) (by decide +kernel)), rfl⟩
theorem qi_X11_lot : Cond.instanceMethod yX11_lot ∈ z_ws := List.mem_filter.mpr ⟨List.mem_append_right _ (List.mem_of_getElem? (i := 1204) (by decide +kernel)), rfl⟩
theorem qs_X11_lot : Cond.selects RX11 yX11_lot yX11_lot ∈ z_ws := List.mem_filter.mpr ⟨List.mem_append_right _ (List.mem_of_getElem? (i := 1205) (by decide +kernel)), rfl⟩
theorem md_X11_lot : z_mdV yX11_lot cX11_lot 6 (some .long) 1 := ⟨⟨qn_RX11, qc_X11_lot, ⟨by decide +kernel, by decide +kernel, by decide +kernel⟩⟩, qi_X11_lot, qs_X11_lot⟩
theorem qmL_31 : Cond.methodLink RL 31 yX11_lot ∈ z_ws := List.mem_filter.mpr ⟨List.mem_append_right _ (List.mem_of_getElem? (i := 1203) (by decide +kernel)), rfl⟩
abbrev rm_L_lot : Room := { frames := 7, cells := 1, slots := 6, locals := 106 }
theorem dL_lot_0 : decode cL_lot 0 = .ok (.aload_n 2, 1) := by decide +kernel
theorem dL_lot_1 : decode cL_lot 1 = .ok (.iconst 0, 1) := by decide +kernel
theorem dL_lot_2 : decode cL_lot 2 = .ok (.aload_n 0, 1) := by decide +kernel
theorem dL_lot_3 : decode cL_lot 3 = .ok (.iload_n 1, 1) := by decide +kernel
theorem dL_lot_4 : decode cL_lot 4 = .ok (.invokevirtual 31, 3) := by decide +kernel
theorem dL_lot_7 : decode cL_lot 7 = .ok (.lastore, 1) := by decide +kernel
theorem dL_lot_8 : decode cL_lot 8 = .ok (.goto 6, 3) := by decide +kernel
theorem dL_lot_11 : decode cL_lot 11 = .ok (.astore_n 3, 1) := by decide +kernel
theorem dL_lot_12 : decode cL_lot 12 = .ok (.iconst 1, 1) := by decide +kernel
theorem dL_lot_13 : decode cL_lot 13 = .ok (.ireturn, 1) := by decide +kernel
theorem dL_lot_14 : decode cL_lot 14 = .ok (.iconst 0, 1) := by decide +kernel
theorem dL_lot_15 : decode cL_lot 15 = .ok (.ireturn, 1) := by decide +kernel
noncomputable def fL_lot (o : Nat) (x1 : Int32) (t : Nat) (h : z_T) : Option (Int32 × z_T) :=
  y_gd (z_ok h o 10) <|
  y_bi (fX11_lot o x1 h) fun r => match r with
  | some v => y_gd (z_ok h t 14) <| y_gd (z_ix 0 (z_N h t)) <| some (0, z_sL h t 0 v)
  | none => some (1, h)
set_option maxHeartbeats 4000000 in
theorem mm_L_lot {G : z_Gt} (hSK : z_SK (z_S G)) (l : Launch) (hfl : l.stackTraces = false) (ad : Nat → Nat) (o : Nat) (x1 : Int32) (t : Nat) (h : z_T) {r0 : Int32} {h9 : z_T} (hv : fL_lot o x1 t h = some (r0, h9)) : z_Mw G (z_S G) l yL_lot cL_lot 4 [(0, 8, 11, 13)] rm_L_lot 1 6 [.ref (ad o), .int x1, .ref (ad t)] ad h h9 r0 := by
  refine z_ofWr hSK (by decide) (Nat.le_of_ble_eq_true rfl) ?_
  intro p e s m args below meth c ls hc hr htab hB hl
  have hx := hc.1.1
  have hb := hc.1.2.1
  have hown := hc.1.2.2.2.1
  replace hl : lv_has ls 4 [(0, .ref (ad o)), (1, .int x1), (2, .ref (ad t))] := hl
  obtain ⟨g, hv⟩ := y_gd_e hv
  obtain ⟨r, hf, hv⟩ := y_bi_e hv
  refine lv_aload_n hx hb dL_lot_0 rfl (lv_at hl 2 rfl) ?_
  refine lv_iconst (v := (0 : Int32)) hx hb dL_lot_1 (by decide) ?_
  refine lv_aload_n hx hb dL_lot_2 rfl (lv_at hl 0 rfl) ?_
  refine lv_iload_n hx hb dL_lot_3 rfl (lv_at hl 1 rfl) ?_
  refine z_thT hc hB (z_runT (As := [.int x1]) (rest := [.int 0, .ref (ad t)]) hc hB (mm_X11_lot hSK l hfl ad o x1 h hf) md_X11_lot qmL_31 g rfl rfl rfl ⟨Nat.le_of_ble_eq_true rfl, Nat.le_of_ble_eq_true rfl⟩ rfl hl.1 rfl (Nat.le_of_ble_eq_true rfl) dL_lot_4 ⟨Nat.le_of_ble_eq_true rfl, Nat.le_of_ble_eq_true rfl⟩) (fun er ce q9 H1 locs1 ad1 a1 a2 a3 a4 a5 a6 a7 => ?_) (fun v er H1 locs1 hB1 => ?_)
  · subst er
    cases Option.some.inj hv
    refine vx_catch hown [] (⟨0, 8, 11, 13⟩ : ExceptionTableEntry) [] htab (fun z hz => nomatch hz) rfl (by decide) (hc.1.2.2.2.2 _ qlL_13) (va_Nw.use rfl hc.2.1.2.2.2.2.2.2.2.2.1) a5 a6 a7 ?_
    show W p l e rm_L_lot s m args below meth c H1 locs1 1 6 _ (F0 m 11 ls [.ref q9])
    refine lv_astore_n (lv' := [(3, .ref q9), (0, .ref (ad o)), (1, .int x1), (2, .ref (ad t))]) hx hb dL_lot_11 rfl hl (by decide) rfl (fun ls hl => ?_)
    refine lv_iconst (v := (1 : Int32)) hx hb dL_lot_12 (by decide) ?_
    exact z_wret hc a1 a2 a3 a4 hr dL_lot_13
  · subst er
    obtain ⟨g1, hv⟩ := y_gd_e hv
    obtain ⟨g2, hv⟩ := y_gd_e hv
    cases Option.some.inj hv
    refine z_last hc hB1 g1 g2 dL_lot_7 (fun H2 locs2 hB2 => ?_)
    refine lv_goto (tgt := 14) hx hb dL_lot_8 (by decide) ?_
    refine lv_iconst (v := (0 : Int32)) hx hb dL_lot_14 (by decide) ?_
    exact z_wret hc (fun _ _ => rfl) hc.2.2.1 hB2.1 hB2.2 hr dL_lot_15
theorem qc_X11_share : Cond.code yX11_share cX11_share 5 (some .long) ∈ z_ws := List.mem_filter.mpr ⟨List.mem_append_right _ (List.mem_of_getElem? (i := 1229) (by decide +kernel)), rfl⟩
theorem qi_X11_share : Cond.instanceMethod yX11_share ∈ z_ws := List.mem_filter.mpr ⟨List.mem_append_right _ (List.mem_of_getElem? (i := 1227) (by decide +kernel)), rfl⟩
theorem qs_X11_share : Cond.selects RX11 yX11_share yX11_share ∈ z_ws := List.mem_filter.mpr ⟨List.mem_append_right _ (List.mem_of_getElem? (i := 1228) (by decide +kernel)), rfl⟩
theorem md_X11_share : z_mdV yX11_share cX11_share 5 (some .long) 2 := ⟨⟨qn_RX11, qc_X11_share, ⟨by decide +kernel, by decide +kernel, by decide +kernel⟩⟩, qi_X11_share, qs_X11_share⟩
theorem qmL_34 : Cond.methodLink RL 34 yX11_share ∈ z_ws := List.mem_filter.mpr ⟨List.mem_append_right _ (List.mem_of_getElem? (i := 1226) (by decide +kernel)), rfl⟩
abbrev rm_L_share : Room := { frames := 7, cells := 1, slots := 6, locals := 105 }
theorem dL_share_0 : decode cL_share 0 = .ok (.aload_n 3, 1) := by decide +kernel
theorem dL_share_1 : decode cL_share 1 = .ok (.iconst 0, 1) := by decide +kernel
theorem dL_share_2 : decode cL_share 2 = .ok (.aload_n 0, 1) := by decide +kernel
theorem dL_share_3 : decode cL_share 3 = .ok (.iload_n 1, 1) := by decide +kernel
theorem dL_share_4 : decode cL_share 4 = .ok (.iload_n 2, 1) := by decide +kernel
theorem dL_share_5 : decode cL_share 5 = .ok (.invokevirtual 34, 3) := by decide +kernel
theorem dL_share_8 : decode cL_share 8 = .ok (.lastore, 1) := by decide +kernel
theorem dL_share_9 : decode cL_share 9 = .ok (.goto 7, 3) := by decide +kernel
theorem dL_share_12 : decode cL_share 12 = .ok (.astore 4, 2) := by decide +kernel
theorem dL_share_14 : decode cL_share 14 = .ok (.iconst 1, 1) := by decide +kernel
theorem dL_share_15 : decode cL_share 15 = .ok (.ireturn, 1) := by decide +kernel
theorem dL_share_16 : decode cL_share 16 = .ok (.iconst 0, 1) := by decide +kernel
theorem dL_share_17 : decode cL_share 17 = .ok (.ireturn, 1) := by decide +kernel
noncomputable def fL_share (o : Nat) (x1 x2 : Int32) (t : Nat) (h : z_T) : Option (Int32 × z_T) :=
  y_gd (z_ok h o 10) <|
  y_bi (fX11_share o x1 x2 h) fun r => match r with
  | some v => y_gd (z_ok h t 14) <| y_gd (z_ix 0 (z_N h t)) <| some (0, z_sL h t 0 v)
  | none => some (1, h)
set_option maxHeartbeats 4000000 in
theorem mm_L_share {G : z_Gt} (hSK : z_SK (z_S G)) (l : Launch) (hfl : l.stackTraces = false) (ad : Nat → Nat) (o : Nat) (x1 x2 : Int32) (t : Nat) (h : z_T) {r0 : Int32} {h9 : z_T} (hv : fL_share o x1 x2 t h = some (r0, h9)) : z_Mw G (z_S G) l yL_share cL_share 5 [(0, 9, 12, 13)] rm_L_share 1 6 [.ref (ad o), .int x1, .int x2, .ref (ad t)] ad h h9 r0 := by
  refine z_ofWr hSK (by decide) (Nat.le_of_ble_eq_true rfl) ?_
  intro p e s m args below meth c ls hc hr htab hB hl
  have hx := hc.1.1
  have hb := hc.1.2.1
  have hown := hc.1.2.2.2.1
  replace hl : lv_has ls 5 [(0, .ref (ad o)), (1, .int x1), (2, .int x2), (3, .ref (ad t))] := hl
  obtain ⟨g, hv⟩ := y_gd_e hv
  obtain ⟨r, hf, hv⟩ := y_bi_e hv
  refine lv_aload_n hx hb dL_share_0 rfl (lv_at hl 3 rfl) ?_
  refine lv_iconst (v := (0 : Int32)) hx hb dL_share_1 (by decide) ?_
  refine lv_aload_n hx hb dL_share_2 rfl (lv_at hl 0 rfl) ?_
  refine lv_iload_n hx hb dL_share_3 rfl (lv_at hl 1 rfl) ?_
  refine lv_iload_n hx hb dL_share_4 rfl (lv_at hl 2 rfl) ?_
  refine z_thT hc hB (z_runT (As := [.int x1, .int x2]) (rest := [.int 0, .ref (ad t)]) hc hB (mm_X11_share hSK l hfl ad o x1 x2 h hf) md_X11_share qmL_34 g rfl rfl rfl ⟨Nat.le_of_ble_eq_true rfl, Nat.le_of_ble_eq_true rfl⟩ rfl hl.1 rfl (Nat.le_of_ble_eq_true rfl) dL_share_5 ⟨Nat.le_of_ble_eq_true rfl, Nat.le_of_ble_eq_true rfl⟩) (fun er ce q9 H1 locs1 ad1 a1 a2 a3 a4 a5 a6 a7 => ?_) (fun v er H1 locs1 hB1 => ?_)
  · subst er
    cases Option.some.inj hv
    refine vx_catch hown [] (⟨0, 9, 12, 13⟩ : ExceptionTableEntry) [] htab (fun z hz => nomatch hz) rfl (by decide) (hc.1.2.2.2.2 _ qlL_13) (va_Nw.use rfl hc.2.1.2.2.2.2.2.2.2.2.1) a5 a6 a7 ?_
    show W p l e rm_L_share s m args below meth c H1 locs1 1 6 _ (F0 m 12 ls [.ref q9])
    refine lv_astore (lv' := [(4, .ref q9), (0, .ref (ad o)), (1, .int x1), (2, .int x2), (3, .ref (ad t))]) hx hb dL_share_12 hl (by decide) rfl (fun ls hl => ?_)
    refine lv_iconst (v := (1 : Int32)) hx hb dL_share_14 (by decide) ?_
    exact z_wret hc a1 a2 a3 a4 hr dL_share_15
  · subst er
    obtain ⟨g1, hv⟩ := y_gd_e hv
    obtain ⟨g2, hv⟩ := y_gd_e hv
    cases Option.some.inj hv
    refine z_last hc hB1 g1 g2 dL_share_8 (fun H2 locs2 hB2 => ?_)
    refine lv_goto (tgt := 16) hx hb dL_share_9 (by decide) ?_
    refine lv_iconst (v := (0 : Int32)) hx hb dL_share_16 (by decide) ?_
    exact z_wret hc (fun _ _ => rfl) hc.2.2.1 hB2.1 hB2.2 hr dL_share_17
theorem qc_X11_fails : Cond.code yX11_fails cX11_fails 6 (some .long) ∈ z_ws := List.mem_filter.mpr ⟨List.mem_append_right _ (List.mem_of_getElem? (i := 1236) (by decide +kernel)), rfl⟩
theorem qi_X11_fails : Cond.instanceMethod yX11_fails ∈ z_ws := List.mem_filter.mpr ⟨List.mem_append_right _ (List.mem_of_getElem? (i := 1234) (by decide +kernel)), rfl⟩
theorem qs_X11_fails : Cond.selects RX11 yX11_fails yX11_fails ∈ z_ws := List.mem_filter.mpr ⟨List.mem_append_right _ (List.mem_of_getElem? (i := 1235) (by decide +kernel)), rfl⟩
theorem md_X11_fails : z_mdV yX11_fails cX11_fails 6 (some .long) 2 := ⟨⟨qn_RX11, qc_X11_fails, ⟨by decide +kernel, by decide +kernel, by decide +kernel⟩⟩, qi_X11_fails, qs_X11_fails⟩
theorem qmL_37 : Cond.methodLink RL 37 yX11_fails ∈ z_ws := List.mem_filter.mpr ⟨List.mem_append_right _ (List.mem_of_getElem? (i := 1233) (by decide +kernel)), rfl⟩
abbrev rm_L_fails : Room := { frames := 7, cells := 1, slots := 6, locals := 106 }
theorem dL_fails_0 : decode cL_fails 0 = .ok (.aload_n 3, 1) := by decide +kernel
theorem dL_fails_1 : decode cL_fails 1 = .ok (.iconst 0, 1) := by decide +kernel
theorem dL_fails_2 : decode cL_fails 2 = .ok (.aload_n 0, 1) := by decide +kernel
theorem dL_fails_3 : decode cL_fails 3 = .ok (.iload_n 1, 1) := by decide +kernel
theorem dL_fails_4 : decode cL_fails 4 = .ok (.iload_n 2, 1) := by decide +kernel
theorem dL_fails_5 : decode cL_fails 5 = .ok (.invokevirtual 37, 3) := by decide +kernel
theorem dL_fails_8 : decode cL_fails 8 = .ok (.lastore, 1) := by decide +kernel
theorem dL_fails_9 : decode cL_fails 9 = .ok (.goto 7, 3) := by decide +kernel
theorem dL_fails_12 : decode cL_fails 12 = .ok (.astore 4, 2) := by decide +kernel
theorem dL_fails_14 : decode cL_fails 14 = .ok (.iconst 1, 1) := by decide +kernel
theorem dL_fails_15 : decode cL_fails 15 = .ok (.ireturn, 1) := by decide +kernel
theorem dL_fails_16 : decode cL_fails 16 = .ok (.iconst 0, 1) := by decide +kernel
theorem dL_fails_17 : decode cL_fails 17 = .ok (.ireturn, 1) := by decide +kernel
noncomputable def fL_fails (o : Nat) (x1 x2 : Int32) (t : Nat) (h : z_T) : Option (Int32 × z_T) :=
  y_gd (z_ok h o 10) <|
  y_bi (fX11_fails o x1 x2 h) fun r => match r with
  | some v => y_gd (z_ok h t 14) <| y_gd (z_ix 0 (z_N h t)) <| some (0, z_sL h t 0 v)
  | none => some (1, h)
set_option maxHeartbeats 4000000 in
theorem mm_L_fails {G : z_Gt} (hSK : z_SK (z_S G)) (l : Launch) (hfl : l.stackTraces = false) (ad : Nat → Nat) (o : Nat) (x1 x2 : Int32) (t : Nat) (h : z_T) {r0 : Int32} {h9 : z_T} (hv : fL_fails o x1 x2 t h = some (r0, h9)) : z_Mw G (z_S G) l yL_fails cL_fails 5 [(0, 9, 12, 13)] rm_L_fails 1 6 [.ref (ad o), .int x1, .int x2, .ref (ad t)] ad h h9 r0 := by
  refine z_ofWr hSK (by decide) (Nat.le_of_ble_eq_true rfl) ?_
  intro p e s m args below meth c ls hc hr htab hB hl
  have hx := hc.1.1
  have hb := hc.1.2.1
  have hown := hc.1.2.2.2.1
  replace hl : lv_has ls 5 [(0, .ref (ad o)), (1, .int x1), (2, .int x2), (3, .ref (ad t))] := hl
  obtain ⟨g, hv⟩ := y_gd_e hv
  obtain ⟨r, hf, hv⟩ := y_bi_e hv
  refine lv_aload_n hx hb dL_fails_0 rfl (lv_at hl 3 rfl) ?_
  refine lv_iconst (v := (0 : Int32)) hx hb dL_fails_1 (by decide) ?_
  refine lv_aload_n hx hb dL_fails_2 rfl (lv_at hl 0 rfl) ?_
  refine lv_iload_n hx hb dL_fails_3 rfl (lv_at hl 1 rfl) ?_
  refine lv_iload_n hx hb dL_fails_4 rfl (lv_at hl 2 rfl) ?_
  refine z_thT hc hB (z_runT (As := [.int x1, .int x2]) (rest := [.int 0, .ref (ad t)]) hc hB (mm_X11_fails hSK l hfl ad o x1 x2 h hf) md_X11_fails qmL_37 g rfl rfl rfl ⟨Nat.le_of_ble_eq_true rfl, Nat.le_of_ble_eq_true rfl⟩ rfl hl.1 rfl (Nat.le_of_ble_eq_true rfl) dL_fails_5 ⟨Nat.le_of_ble_eq_true rfl, Nat.le_of_ble_eq_true rfl⟩) (fun er ce q9 H1 locs1 ad1 a1 a2 a3 a4 a5 a6 a7 => ?_) (fun v er H1 locs1 hB1 => ?_)
  · subst er
    cases Option.some.inj hv
    refine vx_catch hown [] (⟨0, 9, 12, 13⟩ : ExceptionTableEntry) [] htab (fun z hz => nomatch hz) rfl (by decide) (hc.1.2.2.2.2 _ qlL_13) (va_Nw.use rfl hc.2.1.2.2.2.2.2.2.2.2.1) a5 a6 a7 ?_
    show W p l e rm_L_fails s m args below meth c H1 locs1 1 6 _ (F0 m 12 ls [.ref q9])
    refine lv_astore (lv' := [(4, .ref q9), (0, .ref (ad o)), (1, .int x1), (2, .int x2), (3, .ref (ad t))]) hx hb dL_fails_12 hl (by decide) rfl (fun ls hl => ?_)
    refine lv_iconst (v := (1 : Int32)) hx hb dL_fails_14 (by decide) ?_
    exact z_wret hc a1 a2 a3 a4 hr dL_fails_15
  · subst er
    obtain ⟨g1, hv⟩ := y_gd_e hv
    obtain ⟨g2, hv⟩ := y_gd_e hv
    cases Option.some.inj hv
    refine z_last hc hB1 g1 g2 dL_fails_8 (fun H2 locs2 hB2 => ?_)
    refine lv_goto (tgt := 16) hx hb dL_fails_9 (by decide) ?_
    refine lv_iconst (v := (0 : Int32)) hx hb dL_fails_16 (by decide) ?_
    exact z_wret hc (fun _ _ => rfl) hc.2.2.1 hB2.1 hB2.2 hr dL_fails_17
theorem qc_X11_deep : Cond.code yX11_deep cX11_deep 9 (some .long) ∈ z_ws := List.mem_filter.mpr ⟨List.mem_append_right _ (List.mem_of_getElem? (i := 1244) (by decide +kernel)), rfl⟩
theorem qi_X11_deep : Cond.instanceMethod yX11_deep ∈ z_ws := List.mem_filter.mpr ⟨List.mem_append_right _ (List.mem_of_getElem? (i := 1242) (by decide +kernel)), rfl⟩
theorem qs_X11_deep : Cond.selects RX11 yX11_deep yX11_deep ∈ z_ws := List.mem_filter.mpr ⟨List.mem_append_right _ (List.mem_of_getElem? (i := 1243) (by decide +kernel)), rfl⟩
theorem md_X11_deep : z_mdV yX11_deep cX11_deep 9 (some .long) 2 := ⟨⟨qn_RX11, qc_X11_deep, ⟨by decide +kernel, by decide +kernel, by decide +kernel⟩⟩, qi_X11_deep, qs_X11_deep⟩
theorem qmL_40 : Cond.methodLink RL 40 yX11_deep ∈ z_ws := List.mem_filter.mpr ⟨List.mem_append_right _ (List.mem_of_getElem? (i := 1241) (by decide +kernel)), rfl⟩
abbrev rm_L_deep : Room := { frames := 7, cells := 1, slots := 6, locals := 109 }
theorem dL_deep_0 : decode cL_deep 0 = .ok (.aload_n 3, 1) := by decide +kernel
theorem dL_deep_1 : decode cL_deep 1 = .ok (.iconst 0, 1) := by decide +kernel
theorem dL_deep_2 : decode cL_deep 2 = .ok (.aload_n 0, 1) := by decide +kernel
theorem dL_deep_3 : decode cL_deep 3 = .ok (.iload_n 1, 1) := by decide +kernel
theorem dL_deep_4 : decode cL_deep 4 = .ok (.iload_n 2, 1) := by decide +kernel
theorem dL_deep_5 : decode cL_deep 5 = .ok (.invokevirtual 40, 3) := by decide +kernel
theorem dL_deep_8 : decode cL_deep 8 = .ok (.lastore, 1) := by decide +kernel
theorem dL_deep_9 : decode cL_deep 9 = .ok (.goto 7, 3) := by decide +kernel
theorem dL_deep_12 : decode cL_deep 12 = .ok (.astore 4, 2) := by decide +kernel
theorem dL_deep_14 : decode cL_deep 14 = .ok (.iconst 1, 1) := by decide +kernel
theorem dL_deep_15 : decode cL_deep 15 = .ok (.ireturn, 1) := by decide +kernel
theorem dL_deep_16 : decode cL_deep 16 = .ok (.iconst 0, 1) := by decide +kernel
theorem dL_deep_17 : decode cL_deep 17 = .ok (.ireturn, 1) := by decide +kernel
noncomputable def fL_deep (o : Nat) (x1 x2 : Int32) (t : Nat) (h : z_T) : Option (Int32 × z_T) :=
  y_gd (z_ok h o 10) <|
  y_bi (fX11_deep o x1 x2 h) fun r => match r with
  | some v => y_gd (z_ok h t 14) <| y_gd (z_ix 0 (z_N h t)) <| some (0, z_sL h t 0 v)
  | none => some (1, h)
set_option maxHeartbeats 4000000 in
theorem mm_L_deep {G : z_Gt} (hSK : z_SK (z_S G)) (l : Launch) (hfl : l.stackTraces = false) (ad : Nat → Nat) (o : Nat) (x1 x2 : Int32) (t : Nat) (h : z_T) {r0 : Int32} {h9 : z_T} (hv : fL_deep o x1 x2 t h = some (r0, h9)) : z_Mw G (z_S G) l yL_deep cL_deep 5 [(0, 9, 12, 13)] rm_L_deep 1 6 [.ref (ad o), .int x1, .int x2, .ref (ad t)] ad h h9 r0 := by
  refine z_ofWr hSK (by decide) (Nat.le_of_ble_eq_true rfl) ?_
  intro p e s m args below meth c ls hc hr htab hB hl
  have hx := hc.1.1
  have hb := hc.1.2.1
  have hown := hc.1.2.2.2.1
  replace hl : lv_has ls 5 [(0, .ref (ad o)), (1, .int x1), (2, .int x2), (3, .ref (ad t))] := hl
  obtain ⟨g, hv⟩ := y_gd_e hv
  obtain ⟨r, hf, hv⟩ := y_bi_e hv
  refine lv_aload_n hx hb dL_deep_0 rfl (lv_at hl 3 rfl) ?_
  refine lv_iconst (v := (0 : Int32)) hx hb dL_deep_1 (by decide) ?_
  refine lv_aload_n hx hb dL_deep_2 rfl (lv_at hl 0 rfl) ?_
  refine lv_iload_n hx hb dL_deep_3 rfl (lv_at hl 1 rfl) ?_
  refine lv_iload_n hx hb dL_deep_4 rfl (lv_at hl 2 rfl) ?_
  refine z_thT hc hB (z_runT (As := [.int x1, .int x2]) (rest := [.int 0, .ref (ad t)]) hc hB (mm_X11_deep hSK l hfl ad o x1 x2 h hf) md_X11_deep qmL_40 g rfl rfl rfl ⟨Nat.le_of_ble_eq_true rfl, Nat.le_of_ble_eq_true rfl⟩ rfl hl.1 rfl (Nat.le_of_ble_eq_true rfl) dL_deep_5 ⟨Nat.le_of_ble_eq_true rfl, Nat.le_of_ble_eq_true rfl⟩) (fun er ce q9 H1 locs1 ad1 a1 a2 a3 a4 a5 a6 a7 => ?_) (fun v er H1 locs1 hB1 => ?_)
  · subst er
    cases Option.some.inj hv
    refine vx_catch hown [] (⟨0, 9, 12, 13⟩ : ExceptionTableEntry) [] htab (fun z hz => nomatch hz) rfl (by decide) (hc.1.2.2.2.2 _ qlL_13) (va_Nw.use rfl hc.2.1.2.2.2.2.2.2.2.2.1) a5 a6 a7 ?_
    show W p l e rm_L_deep s m args below meth c H1 locs1 1 6 _ (F0 m 12 ls [.ref q9])
    refine lv_astore (lv' := [(4, .ref q9), (0, .ref (ad o)), (1, .int x1), (2, .int x2), (3, .ref (ad t))]) hx hb dL_deep_12 hl (by decide) rfl (fun ls hl => ?_)
    refine lv_iconst (v := (1 : Int32)) hx hb dL_deep_14 (by decide) ?_
    exact z_wret hc a1 a2 a3 a4 hr dL_deep_15
  · subst er
    obtain ⟨g1, hv⟩ := y_gd_e hv
    obtain ⟨g2, hv⟩ := y_gd_e hv
    cases Option.some.inj hv
    refine z_last hc hB1 g1 g2 dL_deep_8 (fun H2 locs2 hB2 => ?_)
    refine lv_goto (tgt := 16) hx hb dL_deep_9 (by decide) ?_
    refine lv_iconst (v := (0 : Int32)) hx hb dL_deep_16 (by decide) ?_
    exact z_wret hc (fun _ _ => rfl) hc.2.2.1 hB2.1 hB2.2 hr dL_deep_17
theorem qc_X11_tells : Cond.code yX11_tells cX11_tells 7 (some .long) ∈ z_ws := List.mem_filter.mpr ⟨List.mem_append_right _ (List.mem_of_getElem? (i := 1251) (by decide +kernel)), rfl⟩
theorem qi_X11_tells : Cond.instanceMethod yX11_tells ∈ z_ws := List.mem_filter.mpr ⟨List.mem_append_right _ (List.mem_of_getElem? (i := 1249) (by decide +kernel)), rfl⟩
theorem qs_X11_tells : Cond.selects RX11 yX11_tells yX11_tells ∈ z_ws := List.mem_filter.mpr ⟨List.mem_append_right _ (List.mem_of_getElem? (i := 1250) (by decide +kernel)), rfl⟩
theorem md_X11_tells : z_mdV yX11_tells cX11_tells 7 (some .long) 2 := ⟨⟨qn_RX11, qc_X11_tells, ⟨by decide +kernel, by decide +kernel, by decide +kernel⟩⟩, qi_X11_tells, qs_X11_tells⟩
theorem qmL_43 : Cond.methodLink RL 43 yX11_tells ∈ z_ws := List.mem_filter.mpr ⟨List.mem_append_right _ (List.mem_of_getElem? (i := 1248) (by decide +kernel)), rfl⟩
abbrev rm_L_tells : Room := { frames := 7, cells := 1, slots := 6, locals := 107 }
theorem dL_tells_0 : decode cL_tells 0 = .ok (.aload_n 3, 1) := by decide +kernel
theorem dL_tells_1 : decode cL_tells 1 = .ok (.iconst 0, 1) := by decide +kernel
theorem dL_tells_2 : decode cL_tells 2 = .ok (.aload_n 0, 1) := by decide +kernel
theorem dL_tells_3 : decode cL_tells 3 = .ok (.iload_n 1, 1) := by decide +kernel
theorem dL_tells_4 : decode cL_tells 4 = .ok (.iload_n 2, 1) := by decide +kernel
theorem dL_tells_5 : decode cL_tells 5 = .ok (.invokevirtual 43, 3) := by decide +kernel
theorem dL_tells_8 : decode cL_tells 8 = .ok (.lastore, 1) := by decide +kernel
theorem dL_tells_9 : decode cL_tells 9 = .ok (.goto 7, 3) := by decide +kernel
theorem dL_tells_12 : decode cL_tells 12 = .ok (.astore 4, 2) := by decide +kernel
theorem dL_tells_14 : decode cL_tells 14 = .ok (.iconst 1, 1) := by decide +kernel
theorem dL_tells_15 : decode cL_tells 15 = .ok (.ireturn, 1) := by decide +kernel
theorem dL_tells_16 : decode cL_tells 16 = .ok (.iconst 0, 1) := by decide +kernel
theorem dL_tells_17 : decode cL_tells 17 = .ok (.ireturn, 1) := by decide +kernel
noncomputable def fL_tells (o : Nat) (x1 x2 : Int32) (t : Nat) (h : z_T) : Option (Int32 × z_T) :=
  y_gd (z_ok h o 10) <|
  y_bi (fX11_tells o x1 x2 h) fun r => match r with
  | some v => y_gd (z_ok h t 14) <| y_gd (z_ix 0 (z_N h t)) <| some (0, z_sL h t 0 v)
  | none => some (1, h)
set_option maxHeartbeats 4000000 in
theorem mm_L_tells {G : z_Gt} (hSK : z_SK (z_S G)) (l : Launch) (hfl : l.stackTraces = false) (ad : Nat → Nat) (o : Nat) (x1 x2 : Int32) (t : Nat) (h : z_T) {r0 : Int32} {h9 : z_T} (hv : fL_tells o x1 x2 t h = some (r0, h9)) : z_Mw G (z_S G) l yL_tells cL_tells 5 [(0, 9, 12, 13)] rm_L_tells 1 6 [.ref (ad o), .int x1, .int x2, .ref (ad t)] ad h h9 r0 := by
  refine z_ofWr hSK (by decide) (Nat.le_of_ble_eq_true rfl) ?_
  intro p e s m args below meth c ls hc hr htab hB hl
  have hx := hc.1.1
  have hb := hc.1.2.1
  have hown := hc.1.2.2.2.1
  replace hl : lv_has ls 5 [(0, .ref (ad o)), (1, .int x1), (2, .int x2), (3, .ref (ad t))] := hl
  obtain ⟨g, hv⟩ := y_gd_e hv
  obtain ⟨r, hf, hv⟩ := y_bi_e hv
  refine lv_aload_n hx hb dL_tells_0 rfl (lv_at hl 3 rfl) ?_
  refine lv_iconst (v := (0 : Int32)) hx hb dL_tells_1 (by decide) ?_
  refine lv_aload_n hx hb dL_tells_2 rfl (lv_at hl 0 rfl) ?_
  refine lv_iload_n hx hb dL_tells_3 rfl (lv_at hl 1 rfl) ?_
  refine lv_iload_n hx hb dL_tells_4 rfl (lv_at hl 2 rfl) ?_
  refine z_thT hc hB (z_runT (As := [.int x1, .int x2]) (rest := [.int 0, .ref (ad t)]) hc hB (mm_X11_tells hSK l hfl ad o x1 x2 h hf) md_X11_tells qmL_43 g rfl rfl rfl ⟨Nat.le_of_ble_eq_true rfl, Nat.le_of_ble_eq_true rfl⟩ rfl hl.1 rfl (Nat.le_of_ble_eq_true rfl) dL_tells_5 ⟨Nat.le_of_ble_eq_true rfl, Nat.le_of_ble_eq_true rfl⟩) (fun er ce q9 H1 locs1 ad1 a1 a2 a3 a4 a5 a6 a7 => ?_) (fun v er H1 locs1 hB1 => ?_)
  · subst er
    cases Option.some.inj hv
    refine vx_catch hown [] (⟨0, 9, 12, 13⟩ : ExceptionTableEntry) [] htab (fun z hz => nomatch hz) rfl (by decide) (hc.1.2.2.2.2 _ qlL_13) (va_Nw.use rfl hc.2.1.2.2.2.2.2.2.2.2.1) a5 a6 a7 ?_
    show W p l e rm_L_tells s m args below meth c H1 locs1 1 6 _ (F0 m 12 ls [.ref q9])
    refine lv_astore (lv' := [(4, .ref q9), (0, .ref (ad o)), (1, .int x1), (2, .int x2), (3, .ref (ad t))]) hx hb dL_tells_12 hl (by decide) rfl (fun ls hl => ?_)
    refine lv_iconst (v := (1 : Int32)) hx hb dL_tells_14 (by decide) ?_
    exact z_wret hc a1 a2 a3 a4 hr dL_tells_15
  · subst er
    obtain ⟨g1, hv⟩ := y_gd_e hv
    obtain ⟨g2, hv⟩ := y_gd_e hv
    cases Option.some.inj hv
    refine z_last hc hB1 g1 g2 dL_tells_8 (fun H2 locs2 hB2 => ?_)
    refine lv_goto (tgt := 16) hx hb dL_tells_9 (by decide) ?_
    refine lv_iconst (v := (0 : Int32)) hx hb dL_tells_16 (by decide) ?_
    exact z_wret hc (fun _ _ => rfl) hc.2.2.1 hB2.1 hB2.2 hr dL_tells_17
