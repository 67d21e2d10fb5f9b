/-! the constant texts: String's own methods, on the five texts of Plan -/
def z_ST (G : z_Gt) (t N : Nat) (f : Nat → Value) : State → Prop := fun U => z_S G U ∧ va_T .byte t N f z_F U G.2.2.2.2
theorem z_SKT (G : z_Gt) (t N : Nat) (f : Nat → Value) : z_SK (z_ST G t N f) :=
  ⟨fun s U hW h => ⟨(z_SKS G).1 s U hW h.1, h.2.moved hW.alike⟩, fun u U e h => ⟨(z_SKS G).2 u U e h.1, h.2.moved (by rw [e]; exact Vm.Alike.refl _)⟩⟩
section ZSTR
variable {p : Program} {l : Launch} {e : Env} {R : Room} {s : State} {m : MethodId} {args : Array Value} {below : List Frame} {meth : Method} {c : Code} {H : Heap} {locs : List Loc} {cells slots : Nat} {Q : State → Prop}
variable {cc : ByteArray} {pc nL : Nat} {ls : Array Slot} {rest st0 : List Value} {own : String} {G : z_Gt} {S : State → Prop} {ad : Nat → Nat} {n0 : Nat} {h h' : z_T}
variable {y : MethodName} {bytes : ByteArray} {maxL mc ms n index : Nat} {ret : Option FieldType} {ty : FieldType} {rm : Room} {As av : List Value} {Qc : Nat → Array Value → State → Outcome → State → Prop}
theorem z_runVO (hc : z_C G S ad n0 p m c cc nL s args own meth) (hB : z_B G ad n0 s h H locs) {t : Nat} (hO : va_O y.cls t z_F s G.2.2.2.2) (hM : z_Mq G S l y bytes maxL ret rm mc ms (.ref t :: As) ad h Qc) (md : z_mdV y bytes maxL ret n) (hl : Cond.methodLink own index y ∈ z_ws) (hrc : rm.cells = mc) (hrs : rm.slots = ms) (hR : rm.frames + 1 ≤ R.frames ∧ 8 + (maxL + 11) + rm.locals ≤ R.locals) (hn : As.length = n) (hsize : ls.size = nL) (hst : st0 = As.reverse ++ .ref t :: rest) (hW : (rest.map fun v => v.category).sum ≤ 8) (hdg : decode cc pc = .ok (.invokevirtual index, 3)) (hf : cells + mc ≤ R.cells ∧ slots + ms ≤ R.slots) :
    va_Run p l e R s m args below meth c H locs cells slots mc ms (F0 m pc ls st0) rest (Qc H.size (Value.ref t :: As).toArray) (z_A ad (z_n h) H.size) := by
  obtain ⟨cell, g1, g2, g3, -⟩ := hO
  exact va_runV hc.1 (hM H.size) ⟨z_cb hc md.1 hl hrc hrs hR, hc.1.2.2.2.2 _ md.2.1, hc.1.2.2.2.2 _ md.2.2⟩ ⟨(z_pre hc hB (av := .ref t :: As)).1, ⟨cell, z_old hB g1, g2, g3⟩, (z_pre hc hB (av := .ref t :: As)).2⟩ rfl hn hsize hst (by show 2 * 0 + _ ≤ 8; omega) hdg hf
theorem z_ldcS (hc : z_C G S ad n0 p m c cc nL s args own meth) {tx : String} {q : Nat} (hZ : vk_R own index tx q s) (hdg : decode cc pc = .ok (.ldc index, 2)) (kk : W p l e R s m args below meth c H locs cells slots Q (F0 m (pc + 2) ls (.ref q :: rest))) : W p l e R s m args below meth c H locs cells slots Q (F0 m pc ls rest) :=
  va_ldcS hc.1.1 hc.1.2.1 hc.1.2.2.2.1 hZ hdg kk
end ZSTR
theorem qfJ0_38 : Cond.fieldLink RJ0 38 "java/lang/String" "COMPACT_STRINGS" "Z" ∈ z_ws := List.mem_filter.mpr ⟨List.mem_append_right _ (List.mem_of_getElem? (i := 720) (by decide +kernel)), rfl⟩
theorem qfJ0_1053 : Cond.fieldLink RJ0 1053 "jdk/internal/util/Preconditions" "SIOOBE_FORMATTER" "Ljava/util/function/BiFunction;" ∈ z_ws := List.mem_filter.mpr ⟨List.mem_append_right _ (List.mem_of_getElem? (i := 736) (by decide +kernel)), rfl⟩
theorem qfJ0_9 : Cond.fieldLink RJ0 9 "java/lang/String" "value" "[B" ∈ z_ws := List.mem_filter.mpr ⟨List.mem_append_right _ (List.mem_of_getElem? (i := 1928) (by decide +kernel)), rfl⟩
theorem qfJ0_15 : Cond.fieldLink RJ0 15 "java/lang/String" "coder" "B" ∈ z_ws := List.mem_filter.mpr ⟨List.mem_append_right _ (List.mem_of_getElem? (i := 1929) (by decide +kernel)), rfl⟩
theorem qmJ0_335 : Cond.methodLink RJ0 335 yJ0_coder_7d493 ∈ z_ws := List.mem_filter.mpr ⟨List.mem_append_right _ (List.mem_of_getElem? (i := 716) (by decide +kernel)), rfl⟩
theorem qmJ0_492 : Cond.methodLink RJ0 492 yJ0_isLatin1_aae02 ∈ z_ws := List.mem_filter.mpr ⟨List.mem_append_right _ (List.mem_of_getElem? (i := 726) (by decide +kernel)), rfl⟩
theorem qmJ0_495 : Cond.methodLink RJ0 495 yJ1_charAt_3b067 ∈ z_ws := List.mem_filter.mpr ⟨List.mem_append_right _ (List.mem_of_getElem? (i := 730) (by decide +kernel)), rfl⟩
theorem qmJ1_9 : Cond.methodLink RJ1 9 yJ0_checkIndex_df160 ∈ z_ws := List.mem_filter.mpr ⟨List.mem_append_right _ (List.mem_of_getElem? (i := 733) (by decide +kernel)), rfl⟩
theorem qmJ0_1059 : Cond.methodLink RJ0 1059 yJ3_checkIndex_8e157 ∈ z_ws := List.mem_filter.mpr ⟨List.mem_append_right _ (List.mem_of_getElem? (i := 738) (by decide +kernel)), rfl⟩
theorem qn_RJ0 : Cond.initialized RJ0 ∈ z_ws := List.mem_filter.mpr ⟨List.mem_append_right _ (List.mem_of_getElem? (i := 20) (by decide +kernel)), rfl⟩
theorem qc_J0_coder_7d493 : Cond.code yJ0_coder_7d493 cJ0_coder_7d493 1 (some .byte) ∈ z_ws := List.mem_filter.mpr ⟨List.mem_append_right _ (List.mem_of_getElem? (i := 719) (by decide +kernel)), rfl⟩
theorem qi_J0_coder_7d493 : Cond.instanceMethod yJ0_coder_7d493 ∈ z_ws := List.mem_filter.mpr ⟨List.mem_append_right _ (List.mem_of_getElem? (i := 717) (by decide +kernel)), rfl⟩
theorem qs_J0_coder_7d493 : Cond.selects RJ0 yJ0_coder_7d493 yJ0_coder_7d493 ∈ z_ws := List.mem_filter.mpr ⟨List.mem_append_right _ (List.mem_of_getElem? (i := 718) (by decide +kernel)), rfl⟩
theorem md_J0_coder_7d493 : z_mdV yJ0_coder_7d493 cJ0_coder_7d493 1 (some .byte) 0 := ⟨⟨qn_RJ0, qc_J0_coder_7d493, ⟨by decide +kernel, by decide +kernel, by decide +kernel⟩⟩, qi_J0_coder_7d493, qs_J0_coder_7d493⟩
theorem qc_J0_length_8abf5 : Cond.code yJ0_length_8abf5 cJ0_length_8abf5 1 (some .int) ∈ z_ws := List.mem_filter.mpr ⟨List.mem_append_right _ (List.mem_of_getElem? (i := 715) (by decide +kernel)), rfl⟩
theorem qi_J0_length_8abf5 : Cond.instanceMethod yJ0_length_8abf5 ∈ z_ws := List.mem_filter.mpr ⟨List.mem_append_right _ (List.mem_of_getElem? (i := 713) (by decide +kernel)), rfl⟩
theorem qs_J0_length_8abf5 : Cond.selects RJ0 yJ0_length_8abf5 yJ0_length_8abf5 ∈ z_ws := List.mem_filter.mpr ⟨List.mem_append_right _ (List.mem_of_getElem? (i := 714) (by decide +kernel)), rfl⟩
theorem md_J0_length_8abf5 : z_mdV yJ0_length_8abf5 cJ0_length_8abf5 1 (some .int) 0 := ⟨⟨qn_RJ0, qc_J0_length_8abf5, ⟨by decide +kernel, by decide +kernel, by decide +kernel⟩⟩, qi_J0_length_8abf5, qs_J0_length_8abf5⟩
theorem qc_J0_isLatin1_aae02 : Cond.code yJ0_isLatin1_aae02 cJ0_isLatin1_aae02 1 (some .boolean) ∈ z_ws := List.mem_filter.mpr ⟨List.mem_append_right _ (List.mem_of_getElem? (i := 729) (by decide +kernel)), rfl⟩
theorem qi_J0_isLatin1_aae02 : Cond.instanceMethod yJ0_isLatin1_aae02 ∈ z_ws := List.mem_filter.mpr ⟨List.mem_append_right _ (List.mem_of_getElem? (i := 727) (by decide +kernel)), rfl⟩
theorem qs_J0_isLatin1_aae02 : Cond.selects RJ0 yJ0_isLatin1_aae02 yJ0_isLatin1_aae02 ∈ z_ws := List.mem_filter.mpr ⟨List.mem_append_right _ (List.mem_of_getElem? (i := 728) (by decide +kernel)), rfl⟩
theorem md_J0_isLatin1_aae02 : z_mdV yJ0_isLatin1_aae02 cJ0_isLatin1_aae02 1 (some .boolean) 0 := ⟨⟨qn_RJ0, qc_J0_isLatin1_aae02, ⟨by decide +kernel, by decide +kernel, by decide +kernel⟩⟩, qi_J0_isLatin1_aae02, qs_J0_isLatin1_aae02⟩
theorem qn_RJ3 : Cond.initialized RJ3 ∈ z_ws := List.mem_filter.mpr ⟨List.mem_append_right _ (List.mem_of_getElem? (i := 22) (by decide +kernel)), rfl⟩
theorem qc_J3_checkIndex_8e157 : Cond.code yJ3_checkIndex_8e157 cJ3_checkIndex_8e157 3 (some .int) ∈ z_ws := List.mem_filter.mpr ⟨List.mem_append_right _ (List.mem_of_getElem? (i := 740) (by decide +kernel)), rfl⟩
theorem qs_J3_checkIndex_8e157 : Cond.static yJ3_checkIndex_8e157 ∈ z_ws := List.mem_filter.mpr ⟨List.mem_append_right _ (List.mem_of_getElem? (i := 739) (by decide +kernel)), rfl⟩
theorem md_J3_checkIndex_8e157 : z_mdS yJ3_checkIndex_8e157 cJ3_checkIndex_8e157 3 (some .int) 3 := ⟨⟨qn_RJ3, qc_J3_checkIndex_8e157, ⟨by decide +kernel, by decide +kernel, by decide +kernel⟩⟩, qs_J3_checkIndex_8e157⟩
theorem qc_J0_checkIndex_df160 : Cond.code yJ0_checkIndex_df160 cJ0_checkIndex_df160 2 none ∈ z_ws := List.mem_filter.mpr ⟨List.mem_append_right _ (List.mem_of_getElem? (i := 735) (by decide +kernel)), rfl⟩
theorem qs_J0_checkIndex_df160 : Cond.static yJ0_checkIndex_df160 ∈ z_ws := List.mem_filter.mpr ⟨List.mem_append_right _ (List.mem_of_getElem? (i := 734) (by decide +kernel)), rfl⟩
theorem md_J0_checkIndex_df160 : z_mdS yJ0_checkIndex_df160 cJ0_checkIndex_df160 2 none 2 := ⟨⟨qn_RJ0, qc_J0_checkIndex_df160, ⟨by decide +kernel, by decide +kernel, by decide +kernel⟩⟩, qs_J0_checkIndex_df160⟩
theorem qn_RJ1 : Cond.initialized RJ1 ∈ z_ws := List.mem_filter.mpr ⟨List.mem_append_right _ (List.mem_of_getElem? (i := 21) (by decide +kernel)), rfl⟩
theorem qc_J1_charAt_3b067 : Cond.code yJ1_charAt_3b067 cJ1_charAt_3b067 2 (some .char) ∈ z_ws := List.mem_filter.mpr ⟨List.mem_append_right _ (List.mem_of_getElem? (i := 732) (by decide +kernel)), rfl⟩
theorem qs_J1_charAt_3b067 : Cond.static yJ1_charAt_3b067 ∈ z_ws := List.mem_filter.mpr ⟨List.mem_append_right _ (List.mem_of_getElem? (i := 731) (by decide +kernel)), rfl⟩
theorem md_J1_charAt_3b067 : z_mdS yJ1_charAt_3b067 cJ1_charAt_3b067 2 (some .char) 2 := ⟨⟨qn_RJ1, qc_J1_charAt_3b067, ⟨by decide +kernel, by decide +kernel, by decide +kernel⟩⟩, qs_J1_charAt_3b067⟩
theorem qc_J0_charAt_5068e : Cond.code yJ0_charAt_5068e cJ0_charAt_5068e 2 (some .char) ∈ z_ws := List.mem_filter.mpr ⟨List.mem_append_right _ (List.mem_of_getElem? (i := 725) (by decide +kernel)), rfl⟩
theorem qi_J0_charAt_5068e : Cond.instanceMethod yJ0_charAt_5068e ∈ z_ws := List.mem_filter.mpr ⟨List.mem_append_right _ (List.mem_of_getElem? (i := 723) (by decide +kernel)), rfl⟩
theorem qs_J0_charAt_5068e : Cond.selects RJ0 yJ0_charAt_5068e yJ0_charAt_5068e ∈ z_ws := List.mem_filter.mpr ⟨List.mem_append_right _ (List.mem_of_getElem? (i := 724) (by decide +kernel)), rfl⟩
theorem md_J0_charAt_5068e : z_mdV yJ0_charAt_5068e cJ0_charAt_5068e 2 (some .char) 1 := ⟨⟨qn_RJ0, qc_J0_charAt_5068e, ⟨by decide +kernel, by decide +kernel, by decide +kernel⟩⟩, qi_J0_charAt_5068e, qs_J0_charAt_5068e⟩
theorem dJ0_coder_7d493_0 : decode cJ0_coder_7d493 0 = .ok (.getstatic 38, 3) := by decide +kernel
theorem dJ0_coder_7d493_3 : decode cJ0_coder_7d493 3 = .ok (.ifCond .eq 10, 3) := by decide +kernel
theorem dJ0_coder_7d493_6 : decode cJ0_coder_7d493 6 = .ok (.aload_n 0, 1) := by decide +kernel
theorem dJ0_coder_7d493_7 : decode cJ0_coder_7d493 7 = .ok (.getfield 15, 3) := by decide +kernel
theorem dJ0_coder_7d493_10 : decode cJ0_coder_7d493 10 = .ok (.goto 4, 3) := by decide +kernel
theorem dJ0_coder_7d493_13 : decode cJ0_coder_7d493 13 = .ok (.iconst 1, 1) := by decide +kernel
theorem dJ0_coder_7d493_14 : decode cJ0_coder_7d493 14 = .ok (.ireturn, 1) := by decide +kernel
theorem dJ0_length_8abf5_0 : decode cJ0_length_8abf5 0 = .ok (.aload_n 0, 1) := by decide +kernel
theorem dJ0_length_8abf5_1 : decode cJ0_length_8abf5 1 = .ok (.getfield 9, 3) := by decide +kernel
theorem dJ0_length_8abf5_4 : decode cJ0_length_8abf5 4 = .ok (.arraylength, 1) := by decide +kernel
theorem dJ0_length_8abf5_5 : decode cJ0_length_8abf5 5 = .ok (.aload_n 0, 1) := by decide +kernel
theorem dJ0_length_8abf5_6 : decode cJ0_length_8abf5 6 = .ok (.invokevirtual 335, 3) := by decide +kernel
theorem dJ0_length_8abf5_9 : decode cJ0_length_8abf5 9 = .ok (.ishr, 1) := by decide +kernel
theorem dJ0_length_8abf5_10 : decode cJ0_length_8abf5 10 = .ok (.ireturn, 1) := by decide +kernel
theorem dJ0_isLatin1_aae02_0 : decode cJ0_isLatin1_aae02 0 = .ok (.getstatic 38, 3) := by decide +kernel
theorem dJ0_isLatin1_aae02_3 : decode cJ0_isLatin1_aae02 3 = .ok (.ifCond .eq 14, 3) := by decide +kernel
theorem dJ0_isLatin1_aae02_6 : decode cJ0_isLatin1_aae02 6 = .ok (.aload_n 0, 1) := by decide +kernel
theorem dJ0_isLatin1_aae02_7 : decode cJ0_isLatin1_aae02 7 = .ok (.getfield 15, 3) := by decide +kernel
theorem dJ0_isLatin1_aae02_10 : decode cJ0_isLatin1_aae02 10 = .ok (.ifCond .ne 7, 3) := by decide +kernel
theorem dJ0_isLatin1_aae02_13 : decode cJ0_isLatin1_aae02 13 = .ok (.iconst 1, 1) := by decide +kernel
theorem dJ0_isLatin1_aae02_14 : decode cJ0_isLatin1_aae02 14 = .ok (.goto 4, 3) := by decide +kernel
theorem dJ0_isLatin1_aae02_17 : decode cJ0_isLatin1_aae02 17 = .ok (.iconst 0, 1) := by decide +kernel
theorem dJ0_isLatin1_aae02_18 : decode cJ0_isLatin1_aae02 18 = .ok (.ireturn, 1) := by decide +kernel
theorem dJ3_checkIndex_8e157_0 : decode cJ3_checkIndex_8e157 0 = .ok (.iload_n 0, 1) := by decide +kernel
theorem dJ3_checkIndex_8e157_1 : decode cJ3_checkIndex_8e157 1 = .ok (.ifCond .lt 8, 3) := by decide +kernel
theorem dJ3_checkIndex_8e157_4 : decode cJ3_checkIndex_8e157 4 = .ok (.iload_n 0, 1) := by decide +kernel
theorem dJ3_checkIndex_8e157_5 : decode cJ3_checkIndex_8e157 5 = .ok (.iload_n 1, 1) := by decide +kernel
theorem dJ3_checkIndex_8e157_6 : decode cJ3_checkIndex_8e157 6 = .ok (.if_icmp .lt 10, 3) := by decide +kernel
theorem dJ3_checkIndex_8e157_9 : decode cJ3_checkIndex_8e157 9 = .ok (.aload_n 2, 1) := by decide +kernel
theorem dJ3_checkIndex_8e157_10 : decode cJ3_checkIndex_8e157 10 = .ok (.iload_n 0, 1) := by decide +kernel
theorem dJ3_checkIndex_8e157_11 : decode cJ3_checkIndex_8e157 11 = .ok (.iload_n 1, 1) := by decide +kernel
theorem dJ3_checkIndex_8e157_12 : decode cJ3_checkIndex_8e157 12 = .ok (.invokestatic 95, 3) := by decide +kernel
theorem dJ3_checkIndex_8e157_15 : decode cJ3_checkIndex_8e157 15 = .ok (.athrow, 1) := by decide +kernel
theorem dJ3_checkIndex_8e157_16 : decode cJ3_checkIndex_8e157 16 = .ok (.iload_n 0, 1) := by decide +kernel
theorem dJ3_checkIndex_8e157_17 : decode cJ3_checkIndex_8e157 17 = .ok (.ireturn, 1) := by decide +kernel
theorem dJ0_checkIndex_df160_0 : decode cJ0_checkIndex_df160 0 = .ok (.iload_n 0, 1) := by decide +kernel
theorem dJ0_checkIndex_df160_1 : decode cJ0_checkIndex_df160 1 = .ok (.iload_n 1, 1) := by decide +kernel
theorem dJ0_checkIndex_df160_2 : decode cJ0_checkIndex_df160 2 = .ok (.getstatic 1053, 3) := by decide +kernel
theorem dJ0_checkIndex_df160_5 : decode cJ0_checkIndex_df160 5 = .ok (.invokestatic 1059, 3) := by decide +kernel
theorem dJ0_checkIndex_df160_8 : decode cJ0_checkIndex_df160 8 = .ok (.pop, 1) := by decide +kernel
theorem dJ0_checkIndex_df160_9 : decode cJ0_checkIndex_df160 9 = .ok (.return_, 1) := by decide +kernel
theorem dJ1_charAt_3b067_0 : decode cJ1_charAt_3b067 0 = .ok (.iload_n 1, 1) := by decide +kernel
theorem dJ1_charAt_3b067_1 : decode cJ1_charAt_3b067 1 = .ok (.aload_n 0, 1) := by decide +kernel
theorem dJ1_charAt_3b067_2 : decode cJ1_charAt_3b067 2 = .ok (.arraylength, 1) := by decide +kernel
theorem dJ1_charAt_3b067_3 : decode cJ1_charAt_3b067 3 = .ok (.invokestatic 9, 3) := by decide +kernel
theorem dJ1_charAt_3b067_6 : decode cJ1_charAt_3b067 6 = .ok (.aload_n 0, 1) := by decide +kernel
theorem dJ1_charAt_3b067_7 : decode cJ1_charAt_3b067 7 = .ok (.iload_n 1, 1) := by decide +kernel
theorem dJ1_charAt_3b067_8 : decode cJ1_charAt_3b067 8 = .ok (.baload, 1) := by decide +kernel
theorem dJ1_charAt_3b067_9 : decode cJ1_charAt_3b067 9 = .ok (.sipush 255, 3) := by decide +kernel
theorem dJ1_charAt_3b067_12 : decode cJ1_charAt_3b067 12 = .ok (.iand, 1) := by decide +kernel
theorem dJ1_charAt_3b067_13 : decode cJ1_charAt_3b067 13 = .ok (.i2c, 1) := by decide +kernel
theorem dJ1_charAt_3b067_14 : decode cJ1_charAt_3b067 14 = .ok (.ireturn, 1) := by decide +kernel
theorem dJ0_charAt_5068e_0 : decode cJ0_charAt_5068e 0 = .ok (.aload_n 0, 1) := by decide +kernel
theorem dJ0_charAt_5068e_1 : decode cJ0_charAt_5068e 1 = .ok (.invokevirtual 492, 3) := by decide +kernel
theorem dJ0_charAt_5068e_4 : decode cJ0_charAt_5068e 4 = .ok (.ifCond .eq 12, 3) := by decide +kernel
theorem dJ0_charAt_5068e_7 : decode cJ0_charAt_5068e 7 = .ok (.aload_n 0, 1) := by decide +kernel
theorem dJ0_charAt_5068e_8 : decode cJ0_charAt_5068e 8 = .ok (.getfield 9, 3) := by decide +kernel
theorem dJ0_charAt_5068e_11 : decode cJ0_charAt_5068e 11 = .ok (.iload_n 1, 1) := by decide +kernel
theorem dJ0_charAt_5068e_12 : decode cJ0_charAt_5068e 12 = .ok (.invokestatic 495, 3) := by decide +kernel
theorem dJ0_charAt_5068e_15 : decode cJ0_charAt_5068e 15 = .ok (.ireturn, 1) := by decide +kernel
theorem dJ0_charAt_5068e_16 : decode cJ0_charAt_5068e 16 = .ok (.aload_n 0, 1) := by decide +kernel
theorem dJ0_charAt_5068e_17 : decode cJ0_charAt_5068e 17 = .ok (.getfield 9, 3) := by decide +kernel
theorem dJ0_charAt_5068e_20 : decode cJ0_charAt_5068e 20 = .ok (.iload_n 1, 1) := by decide +kernel
theorem dJ0_charAt_5068e_21 : decode cJ0_charAt_5068e 21 = .ok (.invokestatic 498, 3) := by decide +kernel
theorem dJ0_charAt_5068e_24 : decode cJ0_charAt_5068e 24 = .ok (.ireturn, 1) := by decide +kernel
abbrev rm_J0c : Room := { frames := 0, cells := 0, slots := 0, locals := 0 }
set_option maxHeartbeats 4000000 in
set_option maxRecDepth 100000 in
theorem mm_J0_coder {G : z_Gt} (l : Launch) (ad : Nat → Nat) (i : Nat) (hi : i < 5) (h : z_T) : z_Mi G (z_S G) l yJ0_coder_7d493 cJ0_coder_7d493 1 (.byte) rm_J0c 0 0 [.ref (G.2.2.2.1 (23 + i))] ad h h 0 := by
  refine z_ofW (z_SKS G) (by decide) (Nat.le_of_ble_eq_true rfl) ?_
  intro p e s m args below meth c ls hc hr hnm hB hl
  have hx := hc.1.1
  have hb := hc.1.2.1
  obtain ⟨⟨adV, hV⟩, -, hcs, -⟩ := hc.2.1.2.2.2.2.1
  refine z_gets hc hB hcs qfJ0_38 dJ0_coder_7d493_0 ?_
  refine lv_if_eq (tgt := 13) hx hb dJ0_coder_7d493_3 (by decide) (fun q => absurd q (by decide)) (fun _ => ?_)
  refine lv_aload_n hx hb dJ0_coder_7d493_6 rfl (lv_at hl 0 rfl) ?_
  refine z_getO hc hB (hV.1 i hi).2.1 (z_l1 hc qfJ0_15) dJ0_coder_7d493_7 ?_
  refine lv_goto (tgt := 14) hx hb dJ0_coder_7d493_10 (by decide) ?_
  exact z_zret hc hB hr rfl dJ0_coder_7d493_14
theorem mm_J0_latin {G : z_Gt} (l : Launch) (ad : Nat → Nat) (i : Nat) (hi : i < 5) (h : z_T) : z_Mi G (z_S G) l yJ0_isLatin1_aae02 cJ0_isLatin1_aae02 1 (.boolean) rm_J0c 0 0 [.ref (G.2.2.2.1 (23 + i))] ad h h 1 := by
  refine z_ofW (z_SKS G) (by decide) (Nat.le_of_ble_eq_true rfl) ?_
  intro p e s m args below meth c ls hc hr hnm hB hl
  have hx := hc.1.1
  have hb := hc.1.2.1
  obtain ⟨⟨adV, hV⟩, -, hcs, -⟩ := hc.2.1.2.2.2.2.1
  refine z_gets hc hB hcs qfJ0_38 dJ0_isLatin1_aae02_0 ?_
  refine lv_if_eq (tgt := 17) hx hb dJ0_isLatin1_aae02_3 (by decide) (fun q => absurd q (by decide)) (fun _ => ?_)
  refine lv_aload_n hx hb dJ0_isLatin1_aae02_6 rfl (lv_at hl 0 rfl) ?_
  refine z_getO hc hB (hV.1 i hi).2.1 (z_l1 hc qfJ0_15) dJ0_isLatin1_aae02_7 ?_
  refine lv_if_ne (tgt := 17) hx hb dJ0_isLatin1_aae02_10 (by decide) (fun q => absurd rfl q) (fun _ => ?_)
  refine lv_iconst (v := 1) hx hb dJ0_isLatin1_aae02_13 (by decide) ?_
  refine lv_goto (tgt := 18) hx hb dJ0_isLatin1_aae02_14 (by decide) ?_
  exact z_zret hc hB hr rfl dJ0_isLatin1_aae02_18
abbrev rm_J0l : Room := { frames := 1, cells := 0, slots := 0, locals := 20 }
theorem mm_J0_length {G : z_Gt} (l : Launch) (ad : Nat → Nat) (i : Nat) (hi : i < 5) (h : z_T) : z_Mi G (z_S G) l yJ0_length_8abf5 cJ0_length_8abf5 1 (.int) rm_J0l 0 0 [.ref (G.2.2.2.1 (23 + i))] ad h h (nI (z_sln.getD i 0)) := by
  refine z_ofW (z_SKS G) (by decide) (Nat.le_of_ble_eq_true rfl) ?_
  intro p e s m args below meth c ls hc hr hnm hB hl
  have hx := hc.1.1
  have hb := hc.1.2.1
  obtain ⟨⟨adV, hV⟩, -, hcs, -⟩ := hc.2.1.2.2.2.2.1
  refine lv_aload_n hx hb dJ0_length_8abf5_0 rfl (lv_at hl 0 rfl) ?_
  refine z_getO hc hB (hV.1 i hi).2.2.1 (z_l1 hc qfJ0_9) dJ0_length_8abf5_1 ?_
  refine z_lenT hc hB rfl (hV.1 i hi).2.2.2 dJ0_length_8abf5_4 ?_
  refine lv_aload_n hx hb dJ0_length_8abf5_5 rfl (lv_at hl 0 rfl) ?_
  refine z_thI hc hB (z_runVO (As := []) (rest := [.int (nI (z_sln.getD i 0))]) hc hB (hV.1 i hi).1 (mm_J0_coder l ad i hi h) md_J0_coder_7d493 qmJ0_335 rfl rfl ⟨Nat.le_of_ble_eq_true rfl, Nat.le_of_ble_eq_true rfl⟩ rfl hl.1 rfl (Nat.le_of_ble_eq_true rfl) dJ0_length_8abf5_6 ⟨Nat.le_of_ble_eq_true rfl, Nat.le_of_ble_eq_true rfl⟩) (fun H locs hB => ?_)
  refine lv_ishr hx hb dJ0_length_8abf5_9 ?_
  have e : Int32.ofNat (z_sln.getD i 0) >>> ((0 : Int32) &&& 31) = nI (z_sln.getD i 0) := by
    rcases (show i = 0 ∨ i = 1 ∨ i = 2 ∨ i = 3 ∨ i = 4 by omega) with rfl | rfl | rfl | rfl | rfl <;> decide
  rw [show (nI (z_sln.getD i 0)) >>> ((0 : Int32) &&& 31) = nI (z_sln.getD i 0) from e]
  exact z_iret hc hB hr dJ0_length_8abf5_10
theorem mm_J3_check {G : z_Gt} {S : State → Prop} (hSK : z_SK S) (l : Launch) (ad : Nat → Nat) (a b : Int32) (v : Value) (hv : v = .null ∨ ∃ t, v = .ref t) (h1 : ¬ a < 0) (h2 : a < b) (h : z_T) : z_Mi G S l yJ3_checkIndex_8e157 cJ3_checkIndex_8e157 3 (.int) rm_J0c 0 0 [.int a, .int b, v] ad h h a := by
  have body : ∀ (hn : (lg_sl [.int a, .int b, v]).length ≤ 3) (he : ∀ ls : Array Slot, lv_has ls 3 (lv_args 0 [.int a, .int b, v]) → lv_has ls 3 [(0, .int a), (1, .int b)]), z_Mi G S l yJ3_checkIndex_8e157 cJ3_checkIndex_8e157 3 (.int) rm_J0c 0 0 [.int a, .int b, v] ad h h a := by
    intro hn he
    refine z_ofW hSK (by decide) hn ?_
    intro p e s m args below meth c ls hc hr hnm hB hl0
    have hl := he ls hl0
    have hx := hc.1.1
    have hb := hc.1.2.1
    refine lv_iload_n hx hb dJ3_checkIndex_8e157_0 rfl (lv_at hl 0 rfl) ?_
    refine lv_if_lt (tgt := 9) hx hb dJ3_checkIndex_8e157_1 (by decide) (fun q => absurd q h1) (fun _ => ?_)
    refine lv_iload_n hx hb dJ3_checkIndex_8e157_4 rfl (lv_at hl 0 rfl) ?_
    refine lv_iload_n hx hb dJ3_checkIndex_8e157_5 rfl (lv_at hl 1 rfl) ?_
    refine lv_icmp_lt (tgt := 16) hx hb dJ3_checkIndex_8e157_6 (by decide) (fun _ => ?_) (fun q => absurd h2 q)
    refine lv_iload_n hx hb dJ3_checkIndex_8e157_16 rfl (lv_at hl 0 rfl) ?_
    exact z_iret hc hB hr dJ3_checkIndex_8e157_17
  rcases hv with rfl | ⟨t, rfl⟩
  · exact body (Nat.le_of_ble_eq_true rfl) (fun ls hl => lv_sub hl [0, 1] rfl)
  · exact body (Nat.le_of_ble_eq_true rfl) (fun ls hl => lv_sub hl [0, 1] rfl)
abbrev rm_J0i : Room := { frames := 1, cells := 0, slots := 0, locals := 22 }
theorem mm_J0_check {G : z_Gt} {S : State → Prop} (hSS : ∀ U, S U → z_S G U) (hSK : z_SK S) (l : Launch) (ad : Nat → Nat) (a b : Int32) (h1 : ¬ a < 0) (h2 : a < b) (h : z_T) : z_Mv G S l yJ0_checkIndex_df160 cJ0_checkIndex_df160 2 rm_J0i 0 0 [.int a, .int b] ad h h := by
  refine z_ofW hSK (by decide) (Nat.le_of_ble_eq_true rfl) ?_
  intro p e s m args below meth c ls hc hr hnm hB hl
  have hx := hc.1.1
  have hb := hc.1.2.1
  obtain ⟨-, -, -, hz⟩ := (hSS s hc.2.1.2.2.2).2.1
  obtain ⟨v, hv, hz⟩ : ∃ v : Value, (v = .null ∨ ∃ t, v = .ref t) ∧ va_Z "jdk/internal/util/Preconditions" "SIOOBE_FORMATTER" "Ljava/util/function/BiFunction;" v z_F s G.2.2.2.2 := by
    rcases hz with hz | ⟨t, hz⟩
    · exact ⟨_, Or.inl rfl, hz⟩
    · exact ⟨_, Or.inr ⟨t, rfl⟩, hz⟩
  refine lv_iload_n hx hb dJ0_checkIndex_df160_0 rfl (lv_at hl 0 rfl) ?_
  refine lv_iload_n hx hb dJ0_checkIndex_df160_1 rfl (lv_at hl 1 rfl) ?_
  refine z_gets hc hB hz qfJ0_1053 dJ0_checkIndex_df160_2 ?_
  refine z_thI hc hB (z_runS (As := [.int a, .int b, v]) (rest := []) hc hB (mm_J3_check hSK l ad a b v hv h1 h2 h) md_J3_checkIndex_8e157 qmJ0_1059 rfl rfl ⟨Nat.le_of_ble_eq_true rfl, Nat.le_of_ble_eq_true rfl⟩ rfl hl.1 rfl (Nat.le_of_ble_eq_true rfl) dJ0_checkIndex_df160_5 ⟨Nat.le_of_ble_eq_true rfl, Nat.le_of_ble_eq_true rfl⟩) (fun H locs hB => ?_)
  refine lv_pop hx hb dJ0_checkIndex_df160_8 rfl ?_
  exact z_vret hc hB hr dJ0_checkIndex_df160_9
abbrev rm_J1c : Room := { frames := 2, cells := 0, slots := 0, locals := 43 }
/-- the sign at place k of the bytes at t -/
theorem mm_J1_charAt {G : z_Gt} (l : Launch) (ad : Nat → Nat) (t N : Nat) (f : Nat → Int32) (hN : N < 2 ^ 31) (k : Int32) (hk : z_ix k N = true) (h : z_T) : z_Mi G (z_ST G t N (fun j => .int (f j))) l yJ1_charAt_3b067 cJ1_charAt_3b067 2 (.char) rm_J1c 0 0 [.ref t, .int k] ad h h (((f k.toNatClampNeg &&& 255).toUInt32 % 65536).toInt32) := by
  refine z_ofW (z_SKT G t N _) (by decide) (Nat.le_of_ble_eq_true rfl) ?_
  intro p e s m args below meth c ls hc hr hnm hB hl
  have hx := hc.1.1
  have hb := hc.1.2.1
  have hT := hc.2.1.2.2.2.2
  have h1 : ¬ k < 0 := fun q => z_ix_in hk (Or.inl q)
  have h2 : k < nI N := by
    simp [z_ix] at hk
    exact Int32.lt_iff_toInt_lt.mpr (by rw [nI_toInt hN]; exact hk.2)
  refine lv_iload_n hx hb dJ1_charAt_3b067_0 rfl (lv_at hl 1 rfl) ?_
  refine lv_aload_n hx hb dJ1_charAt_3b067_1 rfl (lv_at hl 0 rfl) ?_
  refine z_lenT hc hB (v := nI N) rfl hT dJ1_charAt_3b067_2 ?_
  refine z_thV hc hB (z_runS (As := [.int k, .int (nI N)]) (rest := []) hc hB (mm_J0_check (fun _ h => h.1) (z_SKT G t N _) l ad k (nI N) h1 h2 h) md_J0_checkIndex_df160 qmJ1_9 rfl rfl ⟨Nat.le_of_ble_eq_true rfl, Nat.le_of_ble_eq_true rfl⟩ rfl hl.1 rfl (Nat.le_of_ble_eq_true rfl) dJ1_charAt_3b067_3 ⟨Nat.le_of_ble_eq_true rfl, Nat.le_of_ble_eq_true rfl⟩) (fun H locs hB => ?_)
  refine lv_aload_n hx hb dJ1_charAt_3b067_6 rfl (lv_at hl 0 rfl) ?_
  refine lv_iload_n hx hb dJ1_charAt_3b067_7 rfl (lv_at hl 1 rfl) ?_
  refine z_baldT hc hB hT hk dJ1_charAt_3b067_8 ?_
  refine lv_sipush (v := 255) hx hb dJ1_charAt_3b067_9 (by decide) ?_
  refine lv_iand hx hb dJ1_charAt_3b067_12 ?_
  refine lv_i2c hx hb dJ1_charAt_3b067_13 rfl ?_
  exact z_zret hc hB hr (pk_nc _) dJ1_charAt_3b067_14
abbrev rm_J0h : Room := { frames := 3, cells := 0, slots := 0, locals := 64 }
theorem mm_J0_charAt {G : z_Gt} (l : Launch) (ad : Nat → Nat) (i : Nat) (hi : i < 5) (k : Int32) (hk : z_ix k (z_sln.getD i 0) = true) (h : z_T) : z_Mi G (z_S G) l yJ0_charAt_5068e cJ0_charAt_5068e 2 (.char) rm_J0h 0 0 [.ref (G.2.2.2.1 (23 + i)), .int k] ad h h (((((z_sby.getD i []).getD k.toNatClampNeg 0) &&& 255).toUInt32 % 65536).toInt32) := by
  refine z_ofW (z_SKS G) (by decide) (Nat.le_of_ble_eq_true rfl) ?_
  intro p e s m args below meth c ls hc hr hnm hB hl
  have hx := hc.1.1
  have hb := hc.1.2.1
  obtain ⟨⟨adV, hV⟩, -, hcs, -⟩ := hc.2.1.2.2.2.2.1
  have hN : z_sln.getD i 0 < 2 ^ 31 := by rcases (show i = 0 ∨ i = 1 ∨ i = 2 ∨ i = 3 ∨ i = 4 by omega) with rfl | rfl | rfl | rfl | rfl <;> decide
  refine lv_aload_n hx hb dJ0_charAt_5068e_0 rfl (lv_at hl 0 rfl) ?_
  refine z_thI hc hB (z_runVO (As := []) (rest := []) hc hB (hV.1 i hi).1 (mm_J0_latin l ad i hi h) md_J0_isLatin1_aae02 qmJ0_492 rfl rfl ⟨Nat.le_of_ble_eq_true rfl, Nat.le_of_ble_eq_true rfl⟩ rfl hl.1 rfl (Nat.le_of_ble_eq_true rfl) dJ0_charAt_5068e_1 ⟨Nat.le_of_ble_eq_true rfl, Nat.le_of_ble_eq_true rfl⟩) (fun H locs hB => ?_)
  refine lv_if_eq (tgt := 16) hx hb dJ0_charAt_5068e_4 (by decide) (fun q => absurd q (by decide)) (fun _ => ?_)
  refine lv_aload_n hx hb dJ0_charAt_5068e_7 rfl (lv_at hl 0 rfl) ?_
  refine z_getO hc hB (hV.1 i hi).2.2.1 (z_l1 hc qfJ0_9) dJ0_charAt_5068e_8 ?_
  refine lv_iload_n hx hb dJ0_charAt_5068e_11 rfl (lv_at hl 1 rfl) ?_
  have hc2 : z_C G (z_ST G (adV i) (z_sln.getD i 0) (fun j => .int ((z_sby.getD i []).getD j 0))) ad (z_n h) p m c cJ0_charAt_5068e 2 s args RJ0 meth := ⟨hc.1, ⟨hc.2.1.1, hc.2.1.2.1, hc.2.1.2.2.1, hc.2.1.2.2.2, (hV.1 i hi).2.2.2⟩, hc.2.2.1, z_SKT G _ _ _, hc.2.2.2.2⟩
  refine z_thI hc2 hB (z_runS (As := [.ref (adV i), .int k]) (rest := []) hc2 hB (mm_J1_charAt l ad (adV i) (z_sln.getD i 0) (fun j => (z_sby.getD i []).getD j 0) hN k hk h) md_J1_charAt_3b067 qmJ0_495 rfl rfl ⟨Nat.le_of_ble_eq_true rfl, Nat.le_of_ble_eq_true rfl⟩ rfl hl.1 rfl (Nat.le_of_ble_eq_true rfl) dJ0_charAt_5068e_12 ⟨Nat.le_of_ble_eq_true rfl, Nat.le_of_ble_eq_true rfl⟩) (fun H locs hB => ?_)
  exact z_zret hc hB hr (pk_nc _) dJ0_charAt_5068e_15
