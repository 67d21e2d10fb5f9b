/-! the constants: the enum Word, its table, the table of Plan -/
def z_wn : Nat → String := fun k => match k with
  | 0 => "NAME"
  | 1 => "TEST"
  | 2 => "DREAM"
  | 3 => "ROOM"
  | 4 => "TIRED"
  | 5 => "SURE"
  | 6 => "LATE"
  | 7 => "WRONG"
  | 8 => "LEARN"
  | 9 => "IN"
  | 10 => "STAYS"
  | 11 => "MOVES"
  | 12 => "UP"
  | 13 => "BED"
  | 14 => "OR"
  | 15 => "AND"
  | 16 => "NOT"
  | 17 => "GOOD"
  | 18 => "KEPT"
  | 19 => "ASKED"
  | 20 => "ROOMS"
  | 21 => "DREAMS"
  | _ => "PLACE"
def z_wname : Nat → Int64 := fun k => match k with
  | 0 => 0
  | 1 => 661108
  | 2 => 4789293
  | 3 => 605677
  | 4 => 21285028
  | 5 => 644677
  | 6 => 394885
  | 7 => 24722887
  | 8 => 12748366
  | 9 => 302
  | 10 => 20580147
  | 11 => 14145715
  | 12 => 688
  | 13 => 2212
  | 14 => 498
  | 15 => 1476
  | 16 => 14836
  | 17 => 245220
  | 18 => 366100
  | 19 => 1682596
  | 20 => 19381683
  | 21 => 153257395
  | _ => 17171557
def z_wset : Nat → Int32 := fun k => match k with
  | 0 => -1
  | 1 => -1
  | 2 => -1
  | 3 => 0
  | 4 => 1
  | 5 => 2
  | 6 => 3
  | 7 => 4
  | 8 => 5
  | 9 => -1
  | 10 => -1
  | 11 => -1
  | 12 => -1
  | 13 => -1
  | 14 => -1
  | 15 => -1
  | 16 => -1
  | 17 => -1
  | 18 => -1
  | 19 => -1
  | 20 => -1
  | 21 => -1
  | _ => -1
def z_wleast : Nat → Int32 := fun k => match k with
  | 0 => 0
  | 1 => 0
  | 2 => 0
  | 3 => 1
  | 4 => 0
  | 5 => 5
  | 6 => 0
  | 7 => 0
  | 8 => 0
  | 9 => 0
  | 10 => 0
  | 11 => 0
  | 12 => 0
  | 13 => 0
  | 14 => 0
  | 15 => 0
  | 16 => 0
  | 17 => 0
  | 18 => 0
  | 19 => 0
  | 20 => 0
  | 21 => 0
  | _ => 0
def z_wgreat : Nat → Int32 := fun k => match k with
  | 0 => 0
  | 1 => 0
  | 2 => 0
  | 3 => 20
  | 4 => 12
  | 5 => 9
  | 6 => 99
  | 7 => 99
  | 8 => 0
  | 9 => 0
  | 10 => 0
  | 11 => 0
  | 12 => 0
  | 13 => 0
  | 14 => 0
  | 15 => 0
  | 16 => 0
  | 17 => 0
  | 18 => 0
  | 19 => 0
  | 20 => 0
  | 21 => 0
  | _ => 0
def z_unit : Nat → Int32 := fun k => match k with
  | 0 => 1
  | 1 => 3
  | 2 => 9
  | 3 => 27
  | 4 => 81
  | _ => 243
abbrev z_F : Nat → Prop := fun _ => False
/-- the constants of the enum: where they stand, what they hold -/
def z_S1 (G : z_Gt) (U : State) : Prop :=
  (∀ k, k < 23 → va_Z "DreamTests$Word" (z_wn k) "LDreamTests$Word;" (.ref (G.2.2.2.1 k)) z_F U G.2.2.2.2) ∧
  (∀ k, k < 23 → va_OF "DreamTests$Word" "name" "J" (.long (z_wname k)) (G.2.2.2.1 k) z_F U G.2.2.2.2 ∧ va_OF "DreamTests$Word" "setting" "I" (.int (z_wset k)) (G.2.2.2.1 k) z_F U G.2.2.2.2 ∧ va_OF "DreamTests$Word" "least" "I" (.int (z_wleast k)) (G.2.2.2.1 k) z_F U G.2.2.2.2 ∧ va_OF "DreamTests$Word" "greatest" "I" (.int (z_wgreat k)) (G.2.2.2.1 k) z_F U G.2.2.2.2) ∧
  (∀ i j, i < 23 → j < 23 → G.2.2.2.1 i = G.2.2.2.1 j → i = j) ∧
  (∃ t, va_Z "DreamTests$Word" "ALL" "[LDreamTests$Word;" (.ref t) z_F U G.2.2.2.2 ∧ va_T (.object "DreamTests$Word") t 23 (fun j => .ref (G.2.2.2.1 j)) z_F U G.2.2.2.2) ∧
  (∃ t, va_Z "DreamTests$Plan" "UNITS" "[I" (.ref t) z_F U G.2.2.2.2 ∧ va_T .int t 6 (fun j => .int (z_unit j)) z_F U G.2.2.2.2) ∧
  va_AO "DreamTests$Night" U ∧ va_AO "DreamTests$State" U
/-- the constant texts, and what the JDK's own methods read -/
def z_stx : List (Nat × String) := [(92, "up"), (94, "bed"), (109, " ( "), (111, " ; "), (113, " )")]
def z_sln : List Nat := [2, 3, 3, 3, 2]
def z_sby : List (List Int32) := [[117, 112], [98, 101, 100], [32, 40, 32], [32, 59, 32], [32, 41]]
def z_S2 (G : z_Gt) (U : State) : Prop :=
  (∃ adV : Nat → Nat, vk_S 5 z_sln z_sby (fun i => G.2.2.2.1 (23 + i)) adV z_F U G.2.2.2.2) ∧
  (∀ i, i < 5 → vk_R "DreamTests$Plan" (z_stx.getD i (0, "")).1 (z_stx.getD i (0, "")).2 (G.2.2.2.1 (23 + i)) U) ∧
  va_Z "java/lang/String" "COMPACT_STRINGS" "Z" (.int 1) z_F U G.2.2.2.2 ∧ va_Zq "jdk/internal/util/Preconditions" "SIOOBE_FORMATTER" "Ljava/util/function/BiFunction;" z_F U G.2.2.2.2
/-- what a throw reads: words of the tables that no list of good ones holds, two statics of Throwable -/
def z_nse : String := "java/util/NoSuchElementException"
def z_thw : List Cond := vx_at0 RX11 175 z_nse ["java/lang/RuntimeException", "java/lang/Exception"]
def z_S3 (G : z_Gt) (U : State) : Prop := (∀ w ∈ z_thw.filter (fun w => !goodWord w), va_Nw w U) ∧ vx_Zq Bundle.tN "UNASSIGNED_STACK" Bundle.steD z_F U G.2.2.2.2 ∧ vx_Zq Bundle.tN "SUPPRESSED_SENTINEL" Bundle.listD z_F U G.2.2.2.2 ∧ va_Nw (.castable z_nse z_nse) U ∧ va_Nw (.arrayOver (.array .long)) U
def z_S (G : z_Gt) (U : State) : Prop := z_S1 G U ∧ z_S2 G U ∧ z_S3 G U
theorem z_thw_bad : (z_thw.filter (fun w => !goodWord w)).all (fun w => match w with
  | .castable .. => true
  | .declares .. => true
  | _ => false) = true := by decide +kernel
theorem z_thw_warm {s U : State} (hW : s.WarmedH U.vm) {w : Cond} (hw : w ∈ z_thw.filter (fun w => !goodWord w)) (h : va_Nw w s) : va_Nw w U := by
  have h2 := List.all_eq_true.mp z_thw_bad w hw
  cases w <;> first | exact h.warmC hW | exact h.warmD hW | exact absurd (show false = true from h2) (by decide)
theorem z_thw_same {u U : State} (e : u.vm = U.vm) {w : Cond} (hw : w ∈ z_thw.filter (fun w => !goodWord w)) (h : va_Nw w u) : va_Nw w U := by
  have h2 := List.all_eq_true.mp z_thw_bad w hw
  cases w <;> first | exact h.same rfl e | exact absurd (show false = true from h2) (by decide)
/-- an array over arrays: the tables alone say it -/
theorem z_AOA_moved {t : FieldType} {u U : State} (hvm : u.vm.Alike U.vm) (h : va_Nw (.arrayOver (.array t)) u) : va_Nw (.arrayOver (.array t)) U := by
  obtain ⟨comp, c, k, h1, h2, h3, h4, h5⟩ := arrayOverA_spec h
  obtain ⟨k', hk', he⟩ := hvm.2.2 _ _ h3
  have hi : (U.vm.classes.findIdx? fun (x : Class) => match x.kind with | .array component _ => component == comp | _ => false) = some c := by
    refine Eq.trans (va_idx_bare U.vm comp).symm ?_
    first | rw [hvm.bare_eq] | rw [← hvm.bare_eq]
    exact (va_idx_bare u.vm comp).trans h2
  have hkind : k'.kind = .array comp (.array t) := by rw [he]; exact h4
  have f1 : U.vm.findClass (FieldType.array t).toString = some comp := by rw [hvm.findClass]; exact h1
  have f2 : U.vm.findClass ("[" ++ (FieldType.array t).toString) = some c := by rw [hvm.findClass]; exact h5
  unfold va_Nw Cond.before Cond.holds
  simp only [Cond.value]
  rw [f1, Option.bind_some]
  refine (congrArg (fun o : Option Nat => (o.bind (fun c => (U.vm.classes[c]?).map fun (k : Class) => match k.kind with | .array _ ty => decide (ty = FieldType.array t) && decide (U.vm.findClass ("[" ++ (FieldType.array t).toString) = some c) | _ => false) == some true)) hi).trans ?_
  simp [hk', hkind, f2]
theorem z_S1_moved {G : z_Gt} {s U : State} (hvm : s.vm.Alike U.vm) (h : z_S1 G s) : z_S1 G U := by
  obtain ⟨h1, h2, h3, ⟨t, h4, h5⟩, ⟨t2, h6, h7⟩, h8, h9⟩ := h
  exact ⟨fun k hk => (h1 k hk).moved hvm, fun k hk => ⟨(h2 k hk).1.moved hvm, (h2 k hk).2.1.moved hvm, (h2 k hk).2.2.1.moved hvm, (h2 k hk).2.2.2.moved hvm⟩, h3, ⟨t, h4.moved hvm, h5.moved hvm⟩, ⟨t2, h6.moved hvm, h7.moved hvm⟩, h8.moved hvm, h9.moved hvm⟩
theorem z_SKS (G : z_Gt) : z_SK (z_S G) := by
  refine ⟨fun s U hW h => ⟨z_S1_moved hW.alike h.1, ?_, ?_⟩, fun u U e h => ⟨z_S1_moved (by rw [e]; exact Vm.Alike.refl _) h.1, ?_, ?_⟩⟩
  · obtain ⟨⟨adV, h1⟩, h2, h3, h4⟩ := h.2.1
    exact ⟨⟨adV, h1.moved hW.alike⟩, fun i hi => (h2 i hi).warm hW, h3.moved hW.alike, h4.moved hW.alike⟩
  · obtain ⟨h1, h2, h3, h4, h5⟩ := h.2.2
    exact ⟨fun w hw => z_thw_warm hW hw (h1 w hw), vx_Zq.moved hW.alike h2, vx_Zq.moved hW.alike h3, h4.warmC hW, z_AOA_moved hW.alike h5⟩
  · have ha : u.vm.Alike U.vm := by rw [e]; exact Vm.Alike.refl _
    obtain ⟨⟨adV, h1⟩, h2, h3, h4⟩ := h.2.1
    exact ⟨⟨adV, h1.moved ha⟩, fun i hi => vk_R.same e.symm (h2 i hi), h3.moved ha, h4.moved ha⟩
  · have ha : u.vm.Alike U.vm := by rw [e]; exact Vm.Alike.refl _
    obtain ⟨h1, h2, h3, h4, h5⟩ := h.2.2
    exact ⟨fun w hw => z_thw_same e hw (h1 w hw), vx_Zq.moved ha h2, vx_Zq.moved ha h3, h4.same rfl e, z_AOA_moved ha h5⟩
section ZS
variable {p : Program} {l : Launch} {e : Env} {R : Room} {s : State} {m : MethodId} {args : Array Value} {below : List Frame} {meth : Method} {c : Code} {H : Heap} {locs : List Loc} {cells slots : Nat} {Q : State → Prop}
variable {cc : ByteArray} {pc nL : Nat} {ls : Array Slot} {rest : List Value} {own : String} {G : z_Gt} {S : State → Prop} {ad : Nat → Nat} {n0 : Nat} {h h1 : z_T}
theorem z_old (hB : z_B G ad n0 s h H locs) {q : Nat} {cell : Cell} (hq : G.2.2.2.2[q]? = some cell) : H[q]? = some cell := by
  rw [hB.1.2.2.2.2.1 q (Array.getElem?_eq_some_iff.mp hq).1]; exact hq
theorem z_gets (hc : z_C G S ad n0 p m c cc nL s args own meth) (hB : z_B G ad n0 s h H locs) {C n d : String} {v : Value} {index : Nat} (hZ : va_Z C n d v z_F s G.2.2.2.2) (hl : Cond.fieldLink own index C n d ∈ z_ws) (hdg : decode cc pc = .ok (.getstatic index, 3))
    (kk : W p l e R s m args below meth c H locs cells slots Q (F0 m (pc + 3) ls (v :: rest))) : W p l e R s m args below meth c H locs cells slots Q (F0 m pc ls rest) := by
  obtain ⟨cf, kf, fi, f, a, cell, g1, g2, g3, g4, g5, g6, g7, -⟩ := hZ
  exact W.gets hc.1.1 hc.1.2.1 hc.1.2.2.2.1 (hc.1.2.2.2.2 _ hl) g1 g2 g3 g4 (z_old hB g5) (fun e => by rw [e] at g6; cases g6) g7 rfl hdg kk
theorem z_getO (hc : z_C G S ad n0 p m c cc nL s args own meth) (hB : z_B G ad n0 s h H locs) {o n d : String} {v : Value} {t index : Nat} (hF : va_OF o n d v t z_F s G.2.2.2.2) (hl : z_lk s args own index o n d) (hdg : decode cc pc = .ok (.getfield index, 3))
    (kk : W p l e R s m args below meth c H locs cells slots Q (F0 m (pc + 3) ls (v :: rest))) : W p l e R s m args below meth c H locs cells slots Q (F0 m pc ls (.ref t :: rest)) := by
  obtain ⟨cf, k, i, f, cell, g1, g2, g3, g4, g5, -⟩ := hF
  rcases hl with hl | ⟨host, hl⟩
  · exact W.getf hc.1.1 hc.1.2.1 hc.1.2.2.2.1 hl g1 g2 (z_old hB g3) g4 g5 rfl rfl hdg kk
  · exact va_Wgetf hc.1.1 hc.1.2.1 hc.1.2.2.2.1 hl g1 g2 (z_old hB g3) g4 g5 rfl rfl hdg kk
theorem z_lenT (hc : z_C G S ad n0 p m c cc nL s args own meth) (hB : z_B G ad n0 s h H locs) {ty : FieldType} {t N : Nat} {f : Nat → Value} {v : Int32} (hv : Int32.ofNat N = v) (hT : va_T ty t N f z_F s G.2.2.2.2) (hdg : decode cc pc = .ok (.arraylength, 1))
    (kk : W p l e R s m args below meth c H locs cells slots Q (F0 m (pc + 1) ls (.int v :: rest))) : W p l e R s m args below meth c H locs cells slots Q (F0 m pc ls (.ref t :: rest)) := by
  obtain ⟨cell, g1, g2, g3, g4, g5, g6, -⟩ := hT
  exact W.alen hc.1.1 hc.1.2.1 (z_old hB g1) g2 (g5.trans hv) rfl rfl hdg kk
theorem z_aldT (hc : z_C G S ad n0 p m c cc nL s args own meth) (hB : z_B G ad n0 s h H locs) {ty : FieldType} (hr : ty.isReference = true) {t N : Nat} {f : Nat → Value} {i : Int32} (hT : va_T ty t N f z_F s G.2.2.2.2) (hi : z_ix i N = true) (hdg : decode cc pc = .ok (.aaload, 1))
    (kk : W p l e R s m args below meth c H locs cells slots Q (F0 m (pc + 1) ls (f i.toNatClampNeg :: rest))) : W p l e R s m args below meth c H locs cells slots Q (F0 m pc ls (.int i :: .ref t :: rest)) := by
  obtain ⟨cell, g1, g2, g3, g4, g5, g6, -⟩ := hT
  have hin := z_ix_in hi
  have hlt : i.toNatClampNeg < N := Nat.not_le.mp fun q => hin (Or.inr q)
  exact W.aald hc.1.1 hc.1.2.1 (z_old hB g1) g2 hr g3 (fun q => q.elim (fun q => hin (Or.inl q)) (fun q => by omega)) (g6 _ hlt) rfl rfl hdg kk
theorem z_ialdT (hc : z_C G S ad n0 p m c cc nL s args own meth) (hB : z_B G ad n0 s h H locs) {t N : Nat} {f : Nat → Value} {i : Int32} (hT : va_T .int t N f z_F s G.2.2.2.2) (hi : z_ix i N = true) (hdg : decode cc pc = .ok (.iaload, 1))
    (kk : W p l e R s m args below meth c H locs cells slots Q (F0 m (pc + 1) ls (f i.toNatClampNeg :: rest))) : W p l e R s m args below meth c H locs cells slots Q (F0 m pc ls (.int i :: .ref t :: rest)) := by
  obtain ⟨cell, g1, g2, g3, g4, g5, g6, -⟩ := hT
  have hin := z_ix_in hi
  have hlt : i.toNatClampNeg < N := Nat.not_le.mp fun q => hin (Or.inr q)
  exact W.iald hc.1.1 hc.1.2.1 (z_old hB g1) g2 g3 (fun q => q.elim (fun q => hin (Or.inl q)) (fun q => by omega)) (g6 _ hlt) rfl rfl hdg kk
theorem z_baldT (hc : z_C G S ad n0 p m c cc nL s args own meth) (hB : z_B G ad n0 s h H locs) {t N : Nat} {f : Nat → Value} {i : Int32} (hT : va_T .byte t N f z_F s G.2.2.2.2) (hi : z_ix i N = true) (hdg : decode cc pc = .ok (.baload, 1))
    (kk : W p l e R s m args below meth c H locs cells slots Q (F0 m (pc + 1) ls (f i.toNatClampNeg :: rest))) : W p l e R s m args below meth c H locs cells slots Q (F0 m pc ls (.int i :: .ref t :: rest)) := by
  obtain ⟨cell, g1, g2, g3, g4, g5, g6, -⟩ := hT
  have hin := z_ix_in hi
  have hlt : i.toNatClampNeg < N := Nat.not_le.mp fun q => hin (Or.inr q)
  exact W.bald hc.1.1 hc.1.2.1 (z_old hB g1) g2 g3 (fun q => q.elim (fun q => hin (Or.inl q)) (fun q => by omega)) (g6 _ hlt) rfl rfl hdg kk
theorem z_acmpE {a b : Nat} (hc : z_C G (z_S G) ad n0 p m c cc nL s args own meth) (ha : a < 23) (hb : b < 23) {off : Int} {tgt : Nat} (hdg : decode cc pc = .ok (.if_acmp .eq off, 3)) (ht : (pc : Int) + off = (tgt : Int)) (kt : a = b → W p l e R s m args below meth c H locs cells slots Q (F0 m tgt ls rest)) (kf : ¬ a = b → W p l e R s m args below meth c H locs cells slots Q (F0 m (pc + 3) ls rest)) : W p l e R s m args below meth c H locs cells slots Q (F0 m pc ls (.ref (G.2.2.2.1 b) :: .ref (G.2.2.2.1 a) :: rest)) :=
  lv_acmp_eq (rx := some (G.2.2.2.1 a)) (ry := some (G.2.2.2.1 b)) hc.1.1 hc.1.2.1 hdg ht (fun q => kt (hc.2.1.2.2.2.1.2.2.1 _ _ ha hb (Option.some.inj q))) (fun q => kf (fun z => q (by rw [z])))
theorem z_acmpN {a b : Nat} (hc : z_C G (z_S G) ad n0 p m c cc nL s args own meth) (ha : a < 23) (hb : b < 23) {off : Int} {tgt : Nat} (hdg : decode cc pc = .ok (.if_acmp .ne off, 3)) (ht : (pc : Int) + off = (tgt : Int)) (kt : ¬ a = b → W p l e R s m args below meth c H locs cells slots Q (F0 m tgt ls rest)) (kf : a = b → W p l e R s m args below meth c H locs cells slots Q (F0 m (pc + 3) ls rest)) : W p l e R s m args below meth c H locs cells slots Q (F0 m pc ls (.ref (G.2.2.2.1 b) :: .ref (G.2.2.2.1 a) :: rest)) :=
  lv_acmp_ne (rx := some (G.2.2.2.1 a)) (ry := some (G.2.2.2.1 b)) hc.1.1 hc.1.2.1 hdg ht (fun q => kt (fun z => q (by rw [z]))) (fun q => kf (hc.2.1.2.2.2.1.2.2.1 _ _ ha hb (Option.some.inj q)))
theorem z_lt {a n : Nat} (h : decide (a < n) = true) : a < n := of_decide_eq_true h
end ZS
