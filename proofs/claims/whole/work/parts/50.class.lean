/-! the methods of the class: the rows that decode, a function each, the walk (by gen5.py) -/
theorem q_objInst : Cond.instanceMethod objectInit ∈ z_ws := List.mem_filter.mpr ⟨List.mem_append_right _ (List.mem_of_getElem? (i := 32) (by decide +kernel)), rfl⟩
theorem q_objCode : Cond.code objectInit ⟨#[0xb1]⟩ 1 none ∈ z_ws := List.mem_filter.mpr ⟨List.mem_append_right _ (List.mem_of_getElem? (i := 33) (by decide +kernel)), rfl⟩
theorem q_max_st : Cond.static Lib.Math.max.name ∈ z_ws := List.mem_filter.mpr ⟨List.mem_append_right _ (List.mem_of_getElem? (i := 368) (by decide +kernel)), rfl⟩
theorem q_max_cd : Cond.code Lib.Math.max.name Lib.Math.max.code 2 (some .int) ∈ z_ws := List.mem_filter.mpr ⟨List.mem_append_right _ (List.mem_of_getElem? (i := 369) (by decide +kernel)), rfl⟩
theorem q_min_st : Cond.static Lib.Math.min.name ∈ z_ws := List.mem_filter.mpr ⟨List.mem_append_right _ (List.mem_of_getElem? (i := 551) (by decide +kernel)), rfl⟩
theorem q_min_cd : Cond.code Lib.Math.min.name Lib.Math.min.code 2 (some .int) ∈ z_ws := List.mem_filter.mpr ⟨List.mem_append_right _ (List.mem_of_getElem? (i := 552) (by decide +kernel)), rfl⟩
theorem q_maxl_st : Cond.static Lib.MathLoose.max_long.x ∈ z_ws := List.mem_filter.mpr ⟨List.mem_append_right _ (List.mem_of_getElem? (i := 837) (by decide +kernel)), rfl⟩
theorem q_maxl_cd : Cond.code Lib.MathLoose.max_long.x Lib.MathLoose.max_long.code 4 (some .long) ∈ z_ws := List.mem_filter.mpr ⟨List.mem_append_right _ (List.mem_of_getElem? (i := 838) (by decide +kernel)), rfl⟩
theorem q_minl_st : Cond.static Lib.MathLoose.min_long.x ∈ z_ws := List.mem_filter.mpr ⟨List.mem_append_right _ (List.mem_of_getElem? (i := 640) (by decide +kernel)), rfl⟩
theorem q_minl_cd : Cond.code Lib.MathLoose.min_long.x Lib.MathLoose.min_long.code 4 (some .long) ∈ z_ws := List.mem_filter.mpr ⟨List.mem_append_right _ (List.mem_of_getElem? (i := 641) (by decide +kernel)), rfl⟩
theorem q_mathIni : Cond.initialized "java/lang/Math" ∈ z_ws := List.mem_filter.mpr ⟨List.mem_append_right _ (List.mem_of_getElem? (i := 13) (by decide +kernel)), rfl⟩
theorem q_sysIni : Cond.initialized "java/lang/System" ∈ z_ws := List.mem_filter.mpr ⟨List.mem_append_right _ (List.mem_of_getElem? (i := 14) (by decide +kernel)), rfl⟩
theorem q_acNat : Cond.native arraycopyName ∈ z_ws := List.mem_filter.mpr ⟨List.mem_append_right _ (List.mem_of_getElem? (i := 549) (by decide +kernel)), rfl⟩
theorem q_acSt : Cond.static arraycopyName ∈ z_ws := List.mem_filter.mpr ⟨List.mem_append_right _ (List.mem_of_getElem? (i := 548) (by decide +kernel)), rfl⟩

theorem qmX0_3 : Cond.methodLink RX0 3 objectInit ∈ z_ws := List.mem_filter.mpr ⟨List.mem_append_right _ (List.mem_of_getElem? (i := 39) (by decide +kernel)), rfl⟩
theorem qa_int : Cond.arrayClass FieldType.int ∈ z_ws := List.mem_filter.mpr ⟨List.mem_append_right _ (List.mem_of_getElem? (i := 80) (by decide +kernel)), rfl⟩
theorem qfX0_9 : Cond.fieldLink RX0 9 "DreamTests$Book" "settings" "[I" ∈ z_ws := List.mem_filter.mpr ⟨List.mem_append_right _ (List.mem_of_getElem? (i := 50) (by decide +kernel)), rfl⟩
theorem qa_long : Cond.arrayClass FieldType.long ∈ z_ws := List.mem_filter.mpr ⟨List.mem_append_right _ (List.mem_of_getElem? (i := 81) (by decide +kernel)), rfl⟩
theorem qfX0_15 : Cond.fieldLink RX0 15 "DreamTests$Book" "testNames" "[J" ∈ z_ws := List.mem_filter.mpr ⟨List.mem_append_right _ (List.mem_of_getElem? (i := 51) (by decide +kernel)), rfl⟩
theorem qfX0_19 : Cond.fieldLink RX0 19 "DreamTests$Book" "rooms" "[I" ∈ z_ws := List.mem_filter.mpr ⟨List.mem_append_right _ (List.mem_of_getElem? (i := 52) (by decide +kernel)), rfl⟩
theorem qfX0_22 : Cond.fieldLink RX0 22 "DreamTests$Book" "dreamings" "[I" ∈ z_ws := List.mem_filter.mpr ⟨List.mem_append_right _ (List.mem_of_getElem? (i := 53) (by decide +kernel)), rfl⟩
theorem qfX0_25 : Cond.fieldLink RX0 25 "DreamTests$Book" "dreamNames" "[J" ∈ z_ws := List.mem_filter.mpr ⟨List.mem_append_right _ (List.mem_of_getElem? (i := 54) (by decide +kernel)), rfl⟩
theorem qfX0_28 : Cond.fieldLink RX0 28 "DreamTests$Book" "weights" "[I" ∈ z_ws := List.mem_filter.mpr ⟨List.mem_append_right _ (List.mem_of_getElem? (i := 55) (by decide +kernel)), rfl⟩
theorem qfX0_31 : Cond.fieldLink RX0 31 "DreamTests$Book" "keeps" "[I" ∈ z_ws := List.mem_filter.mpr ⟨List.mem_append_right _ (List.mem_of_getElem? (i := 56) (by decide +kernel)), rfl⟩
theorem dX0_init_0 : decode cX0_init 0 = .ok (.aload_n 0, 1) := by decide +kernel
theorem dX0_init_1 : decode cX0_init 1 = .ok (.invokespecial 3, 3) := by decide +kernel
theorem dX0_init_4 : decode cX0_init 4 = .ok (.aload_n 0, 1) := by decide +kernel
theorem dX0_init_5 : decode cX0_init 5 = .ok (.bipush 6, 2) := by decide +kernel
theorem dX0_init_7 : decode cX0_init 7 = .ok (.newarray .int, 2) := by decide +kernel
theorem dX0_init_9 : decode cX0_init 9 = .ok (.dup, 1) := by decide +kernel
theorem dX0_init_10 : decode cX0_init 10 = .ok (.iconst 0, 1) := by decide +kernel
theorem dX0_init_11 : decode cX0_init 11 = .ok (.iconst 1, 1) := by decide +kernel
theorem dX0_init_12 : decode cX0_init 12 = .ok (.iastore, 1) := by decide +kernel
theorem dX0_init_13 : decode cX0_init 13 = .ok (.dup, 1) := by decide +kernel
theorem dX0_init_14 : decode cX0_init 14 = .ok (.iconst 1, 1) := by decide +kernel
theorem dX0_init_15 : decode cX0_init 15 = .ok (.iconst 0, 1) := by decide +kernel
theorem dX0_init_16 : decode cX0_init 16 = .ok (.iastore, 1) := by decide +kernel
theorem dX0_init_17 : decode cX0_init 17 = .ok (.dup, 1) := by decide +kernel
theorem dX0_init_18 : decode cX0_init 18 = .ok (.iconst 2, 1) := by decide +kernel
theorem dX0_init_19 : decode cX0_init 19 = .ok (.bipush 8, 2) := by decide +kernel
theorem dX0_init_21 : decode cX0_init 21 = .ok (.iastore, 1) := by decide +kernel
theorem dX0_init_22 : decode cX0_init 22 = .ok (.dup, 1) := by decide +kernel
theorem dX0_init_23 : decode cX0_init 23 = .ok (.iconst 3, 1) := by decide +kernel
theorem dX0_init_24 : decode cX0_init 24 = .ok (.iconst 1, 1) := by decide +kernel
theorem dX0_init_25 : decode cX0_init 25 = .ok (.iastore, 1) := by decide +kernel
theorem dX0_init_26 : decode cX0_init 26 = .ok (.dup, 1) := by decide +kernel
theorem dX0_init_27 : decode cX0_init 27 = .ok (.iconst 4, 1) := by decide +kernel
theorem dX0_init_28 : decode cX0_init 28 = .ok (.iconst 1, 1) := by decide +kernel
theorem dX0_init_29 : decode cX0_init 29 = .ok (.iastore, 1) := by decide +kernel
theorem dX0_init_30 : decode cX0_init 30 = .ok (.dup, 1) := by decide +kernel
theorem dX0_init_31 : decode cX0_init 31 = .ok (.iconst 5, 1) := by decide +kernel
theorem dX0_init_32 : decode cX0_init 32 = .ok (.iconst 0, 1) := by decide +kernel
theorem dX0_init_33 : decode cX0_init 33 = .ok (.iastore, 1) := by decide +kernel
theorem dX0_init_34 : decode cX0_init 34 = .ok (.putfield 9, 3) := by decide +kernel
theorem dX0_init_37 : decode cX0_init 37 = .ok (.aload_n 0, 1) := by decide +kernel
theorem dX0_init_38 : decode cX0_init 38 = .ok (.bipush 8, 2) := by decide +kernel
theorem dX0_init_40 : decode cX0_init 40 = .ok (.newarray .long, 2) := by decide +kernel
theorem dX0_init_42 : decode cX0_init 42 = .ok (.putfield 15, 3) := by decide +kernel
theorem dX0_init_45 : decode cX0_init 45 = .ok (.aload_n 0, 1) := by decide +kernel
theorem dX0_init_46 : decode cX0_init 46 = .ok (.bipush 8, 2) := by decide +kernel
theorem dX0_init_48 : decode cX0_init 48 = .ok (.newarray .int, 2) := by decide +kernel
theorem dX0_init_50 : decode cX0_init 50 = .ok (.putfield 19, 3) := by decide +kernel
theorem dX0_init_53 : decode cX0_init 53 = .ok (.aload_n 0, 1) := by decide +kernel
theorem dX0_init_54 : decode cX0_init 54 = .ok (.bipush 8, 2) := by decide +kernel
theorem dX0_init_56 : decode cX0_init 56 = .ok (.newarray .int, 2) := by decide +kernel
theorem dX0_init_58 : decode cX0_init 58 = .ok (.putfield 22, 3) := by decide +kernel
theorem dX0_init_61 : decode cX0_init 61 = .ok (.aload_n 0, 1) := by decide +kernel
theorem dX0_init_62 : decode cX0_init 62 = .ok (.bipush 6, 2) := by decide +kernel
theorem dX0_init_64 : decode cX0_init 64 = .ok (.newarray .long, 2) := by decide +kernel
theorem dX0_init_66 : decode cX0_init 66 = .ok (.putfield 25, 3) := by decide +kernel
theorem dX0_init_69 : decode cX0_init 69 = .ok (.aload_n 0, 1) := by decide +kernel
theorem dX0_init_70 : decode cX0_init 70 = .ok (.bipush 7, 2) := by decide +kernel
theorem dX0_init_72 : decode cX0_init 72 = .ok (.newarray .int, 2) := by decide +kernel
theorem dX0_init_74 : decode cX0_init 74 = .ok (.putfield 28, 3) := by decide +kernel
theorem dX0_init_77 : decode cX0_init 77 = .ok (.aload_n 0, 1) := by decide +kernel
theorem dX0_init_78 : decode cX0_init 78 = .ok (.bipush 7, 2) := by decide +kernel
theorem dX0_init_80 : decode cX0_init 80 = .ok (.newarray .int, 2) := by decide +kernel
theorem dX0_init_82 : decode cX0_init 82 = .ok (.putfield 31, 3) := by decide +kernel
theorem dX0_init_85 : decode cX0_init 85 = .ok (.return_, 1) := by decide +kernel
abbrev rm_X0_init : Room := { frames := 1, cells := 7, slots := 50, locals := 12 }
noncomputable def fX0_init (o0 : Nat) (h : z_T) : Option (z_T) :=
  y_nm (z_n h) fun o1 =>
  y_nm (z_al h 13 6) fun h2 =>
  y_gd (z_ix (0 : Int32) (z_N h2 o1)) <|
  y_nm (z_sI h2 o1 (0 : Int32).toNatClampNeg (1 : Int32)) fun h5 =>
  y_gd (z_ix (1 : Int32) (z_N h5 o1)) <|
  y_nm (z_sI h5 o1 (1 : Int32).toNatClampNeg (0 : Int32)) fun h7 =>
  y_gd (z_ix (2 : Int32) (z_N h7 o1)) <|
  y_nm (z_sI h7 o1 (2 : Int32).toNatClampNeg (8 : Int32)) fun h9 =>
  y_gd (z_ix (3 : Int32) (z_N h9 o1)) <|
  y_nm (z_sI h9 o1 (3 : Int32).toNatClampNeg (1 : Int32)) fun h11 =>
  y_gd (z_ix (4 : Int32) (z_N h11 o1)) <|
  y_nm (z_sI h11 o1 (4 : Int32).toNatClampNeg (1 : Int32)) fun h13 =>
  y_gd (z_ix (5 : Int32) (z_N h13 o1)) <|
  y_nm (z_sI h13 o1 (5 : Int32).toNatClampNeg (0 : Int32)) fun h15 =>
  y_gd (z_ok h15 o0 0) <|
  y_nm (z_sR h15 o0 4 (some o1)) fun h17 =>
  y_nm (z_n h17) fun o18 =>
  y_nm (z_al h17 14 8) fun h19 =>
  y_gd (z_ok h19 o0 0) <|
  y_nm (z_sR h19 o0 5 (some o18)) fun h22 =>
  y_nm (z_n h22) fun o23 =>
  y_nm (z_al h22 13 8) fun h24 =>
  y_gd (z_ok h24 o0 0) <|
  y_nm (z_sR h24 o0 6 (some o23)) fun h27 =>
  y_nm (z_n h27) fun o28 =>
  y_nm (z_al h27 13 8) fun h29 =>
  y_gd (z_ok h29 o0 0) <|
  y_nm (z_sR h29 o0 7 (some o28)) fun h32 =>
  y_nm (z_n h32) fun o33 =>
  y_nm (z_al h32 14 6) fun h34 =>
  y_gd (z_ok h34 o0 0) <|
  y_nm (z_sR h34 o0 8 (some o33)) fun h37 =>
  y_nm (z_n h37) fun o38 =>
  y_nm (z_al h37 13 7) fun h39 =>
  y_gd (z_ok h39 o0 0) <|
  y_nm (z_sR h39 o0 9 (some o38)) fun h42 =>
  y_nm (z_n h42) fun o43 =>
  y_nm (z_al h42 13 7) fun h44 =>
  y_gd (z_ok h44 o0 0) <|
  y_nm (z_sR h44 o0 10 (some o43)) fun h47 =>
  some h47
set_option maxHeartbeats 4000000 in
set_option maxRecDepth 100000 in
theorem mm_X0_init {G : z_Gt} (hSK : z_SK (z_S G)) (l : Launch) (ad : Nat → Nat) (o0 : Nat) (h : z_T) {h9 : z_T} (hv : fX0_init o0 h = some h9) : z_Mv G (z_S G) l yX0_init cX0_init 1 rm_X0_init 7 50 [.ref (ad o0)] ad h h9 := by
  refine z_ofW hSK (by decide) (Nat.le_of_ble_eq_true rfl) ?_
  intro p e s m args below meth c ls hc hr hnm hB hl
  have hx := hc.1.1
  have hb := hc.1.2.1
  have hown := hc.1.2.2.2.1
  have hts := hc.1.2.2.2.2
  replace hc : z_C G (z_S G) ad (z_n h) p m c cX0_init 1 s args RX0 meth := hc
  replace hown : s.vm.findClass RX0 = some m.cls := hown
  replace hl : lv_has ls 1 [(0, .ref (ad o0))] := hl
  show W p l e rm_X0_init s m args below meth c s.heap [] 0 0 (MQ below (z_Qv G ad h9 (z_n h) s.heap.size) args s 7 50 (z_A ad (z_n h) s.heap.size)) (F0 m 0 ls [])
  obtain ⟨rs, kt⟩ : ∃ rs : z_T, rs = h9 := ⟨_, rfl⟩
  generalize hn0 : z_n h = n0 at hc hB ⊢
  rw [← kt] at hv
  refine lv_aload_n hx hb dX0_init_0 rfl (lv_at hl 0 rfl) ?_
  refine z_objI hc qmX0_3 q_objInst q_objCode hl.1 ⟨Nat.le_of_ble_eq_true rfl, Nat.le_of_ble_eq_true rfl⟩ dX0_init_1 ?_
  refine lv_aload_n hx hb dX0_init_4 rfl (lv_at hl 0 rfl) ?_
  refine lv_bipush (v := (6 : Int32)) hx hb dX0_init_5 (by decide) ?_
  obtain ⟨o1, eo1, hv⟩ := y_nm_e hv
  obtain ⟨h2, eh2, hv⟩ := y_nm_e hv
  refine z_newarr hc hB 13 6 (n := (6 : Int32)) eh2 (by decide) (by decide) (by decide) rfl qa_int (by decide) (by decide) (Nat.le_of_ble_eq_true rfl) (Nat.le_of_ble_eq_true rfl) dX0_init_7 (fun H hB => ?_)
  rw [← eo1]
  have g3 : z_ok h2 o1 13 = true := by rw [eh2, eo1]; exact z_al_ok
  refine lv_dup hx hb dX0_init_9 rfl ?_
  refine lv_iconst (v := (0 : Int32)) hx hb dX0_init_10 (by decide) ?_
  refine lv_iconst (v := (1 : Int32)) hx hb dX0_init_11 (by decide) ?_
  obtain ⟨i4, hv⟩ := y_gd_e hv
  obtain ⟨h5, eh5, hv⟩ := y_nm_e hv
  refine y_iast hc hB eh5 g3 i4 dX0_init_12 (fun H locs hB => ?_)
  refine lv_dup hx hb dX0_init_13 rfl ?_
  refine lv_iconst (v := (1 : Int32)) hx hb dX0_init_14 (by decide) ?_
  refine lv_iconst (v := (0 : Int32)) hx hb dX0_init_15 (by decide) ?_
  obtain ⟨i6, hv⟩ := y_gd_e hv
  obtain ⟨h7, eh7, hv⟩ := y_nm_e hv
  refine y_iast hc hB eh7 (by rw [eh5]; exact g3) i6 dX0_init_16 (fun H locs hB => ?_)
  refine lv_dup hx hb dX0_init_17 rfl ?_
  refine lv_iconst (v := (2 : Int32)) hx hb dX0_init_18 (by decide) ?_
  refine lv_bipush (v := (8 : Int32)) hx hb dX0_init_19 (by decide) ?_
  obtain ⟨i8, hv⟩ := y_gd_e hv
  obtain ⟨h9, eh9, hv⟩ := y_nm_e hv
  refine y_iast hc hB eh9 (by rw [eh7, eh5]; exact g3) i8 dX0_init_21 (fun H locs hB => ?_)
  refine lv_dup hx hb dX0_init_22 rfl ?_
  refine lv_iconst (v := (3 : Int32)) hx hb dX0_init_23 (by decide) ?_
  refine lv_iconst (v := (1 : Int32)) hx hb dX0_init_24 (by decide) ?_
  obtain ⟨i10, hv⟩ := y_gd_e hv
  obtain ⟨h11, eh11, hv⟩ := y_nm_e hv
  refine y_iast hc hB eh11 (by rw [eh9, eh7, eh5]; exact g3) i10 dX0_init_25 (fun H locs hB => ?_)
  refine lv_dup hx hb dX0_init_26 rfl ?_
  refine lv_iconst (v := (4 : Int32)) hx hb dX0_init_27 (by decide) ?_
  refine lv_iconst (v := (1 : Int32)) hx hb dX0_init_28 (by decide) ?_
  obtain ⟨i12, hv⟩ := y_gd_e hv
  obtain ⟨h13, eh13, hv⟩ := y_nm_e hv
  refine y_iast hc hB eh13 (by rw [eh11, eh9, eh7, eh5]; exact g3) i12 dX0_init_29 (fun H locs hB => ?_)
  refine lv_dup hx hb dX0_init_30 rfl ?_
  refine lv_iconst (v := (5 : Int32)) hx hb dX0_init_31 (by decide) ?_
  refine lv_iconst (v := (0 : Int32)) hx hb dX0_init_32 (by decide) ?_
  obtain ⟨i14, hv⟩ := y_gd_e hv
  obtain ⟨h15, eh15, hv⟩ := y_nm_e hv
  refine y_iast hc hB eh15 (by rw [eh13, eh11, eh9, eh7, eh5]; exact g3) i14 dX0_init_33 (fun H locs hB => ?_)
  obtain ⟨g16, hv⟩ := y_gd_e hv
  obtain ⟨h17, eh17, hv⟩ := y_nm_e hv
  refine z_putF hc hB 0 4 (r := (some o1)) rfl (z_hrS (k := 13) (by rw [eh15, eh13, eh11, eh9, eh7, eh5]; exact g3)) eh17 g16 qfX0_9 dX0_init_34 hnm (by decide) (by decide) rfl rfl rfl (fun r => by cases r <;> rfl) (fun r => by cases r <;> rfl) (fun H locs hB => ?_)
  refine lv_aload_n hx hb dX0_init_37 rfl (lv_at hl 0 rfl) ?_
  refine lv_bipush (v := (8 : Int32)) hx hb dX0_init_38 (by decide) ?_
  obtain ⟨o18, eo18, hv⟩ := y_nm_e hv
  obtain ⟨h19, eh19, hv⟩ := y_nm_e hv
  refine z_newarr hc hB 14 8 (n := (8 : Int32)) eh19 (by decide) (by decide) (by decide) rfl qa_long (by decide) (by decide) (Nat.le_of_ble_eq_true rfl) (Nat.le_of_ble_eq_true rfl) dX0_init_40 (fun H hB => ?_)
  rw [← eo18]
  have g20 : z_ok h19 o18 14 = true := by rw [eh19, eo18]; exact z_al_ok
  obtain ⟨g21, hv⟩ := y_gd_e hv
  obtain ⟨h22, eh22, hv⟩ := y_nm_e hv
  refine z_putF hc hB 0 5 (r := (some o18)) rfl (z_hrS (k := 14) g20) eh22 g21 qfX0_15 dX0_init_42 hnm (by decide) (by decide) rfl rfl rfl (fun r => by cases r <;> rfl) (fun r => by cases r <;> rfl) (fun H locs hB => ?_)
  refine lv_aload_n hx hb dX0_init_45 rfl (lv_at hl 0 rfl) ?_
  refine lv_bipush (v := (8 : Int32)) hx hb dX0_init_46 (by decide) ?_
  obtain ⟨o23, eo23, hv⟩ := y_nm_e hv
  obtain ⟨h24, eh24, hv⟩ := y_nm_e hv
  refine z_newarr hc hB 13 8 (n := (8 : Int32)) eh24 (by decide) (by decide) (by decide) rfl qa_int (by decide) (by decide) (Nat.le_of_ble_eq_true rfl) (Nat.le_of_ble_eq_true rfl) dX0_init_48 (fun H hB => ?_)
  rw [← eo23]
  have g25 : z_ok h24 o23 13 = true := by rw [eh24, eo23]; exact z_al_ok
  obtain ⟨g26, hv⟩ := y_gd_e hv
  obtain ⟨h27, eh27, hv⟩ := y_nm_e hv
  refine z_putF hc hB 0 6 (r := (some o23)) rfl (z_hrS (k := 13) g25) eh27 g26 qfX0_19 dX0_init_50 hnm (by decide) (by decide) rfl rfl rfl (fun r => by cases r <;> rfl) (fun r => by cases r <;> rfl) (fun H locs hB => ?_)
  refine lv_aload_n hx hb dX0_init_53 rfl (lv_at hl 0 rfl) ?_
  refine lv_bipush (v := (8 : Int32)) hx hb dX0_init_54 (by decide) ?_
  obtain ⟨o28, eo28, hv⟩ := y_nm_e hv
  obtain ⟨h29, eh29, hv⟩ := y_nm_e hv
  refine z_newarr hc hB 13 8 (n := (8 : Int32)) eh29 (by decide) (by decide) (by decide) rfl qa_int (by decide) (by decide) (Nat.le_of_ble_eq_true rfl) (Nat.le_of_ble_eq_true rfl) dX0_init_56 (fun H hB => ?_)
  rw [← eo28]
  have g30 : z_ok h29 o28 13 = true := by rw [eh29, eo28]; exact z_al_ok
  obtain ⟨g31, hv⟩ := y_gd_e hv
  obtain ⟨h32, eh32, hv⟩ := y_nm_e hv
  refine z_putF hc hB 0 7 (r := (some o28)) rfl (z_hrS (k := 13) g30) eh32 g31 qfX0_22 dX0_init_58 hnm (by decide) (by decide) rfl rfl rfl (fun r => by cases r <;> rfl) (fun r => by cases r <;> rfl) (fun H locs hB => ?_)
  refine lv_aload_n hx hb dX0_init_61 rfl (lv_at hl 0 rfl) ?_
  refine lv_bipush (v := (6 : Int32)) hx hb dX0_init_62 (by decide) ?_
  obtain ⟨o33, eo33, hv⟩ := y_nm_e hv
  obtain ⟨h34, eh34, hv⟩ := y_nm_e hv
  refine z_newarr hc hB 14 6 (n := (6 : Int32)) eh34 (by decide) (by decide) (by decide) rfl qa_long (by decide) (by decide) (Nat.le_of_ble_eq_true rfl) (Nat.le_of_ble_eq_true rfl) dX0_init_64 (fun H hB => ?_)
  rw [← eo33]
  have g35 : z_ok h34 o33 14 = true := by rw [eh34, eo33]; exact z_al_ok
  obtain ⟨g36, hv⟩ := y_gd_e hv
  obtain ⟨h37, eh37, hv⟩ := y_nm_e hv
  refine z_putF hc hB 0 8 (r := (some o33)) rfl (z_hrS (k := 14) g35) eh37 g36 qfX0_25 dX0_init_66 hnm (by decide) (by decide) rfl rfl rfl (fun r => by cases r <;> rfl) (fun r => by cases r <;> rfl) (fun H locs hB => ?_)
  refine lv_aload_n hx hb dX0_init_69 rfl (lv_at hl 0 rfl) ?_
  refine lv_bipush (v := (7 : Int32)) hx hb dX0_init_70 (by decide) ?_
  obtain ⟨o38, eo38, hv⟩ := y_nm_e hv
  obtain ⟨h39, eh39, hv⟩ := y_nm_e hv
  refine z_newarr hc hB 13 7 (n := (7 : Int32)) eh39 (by decide) (by decide) (by decide) rfl qa_int (by decide) (by decide) (Nat.le_of_ble_eq_true rfl) (Nat.le_of_ble_eq_true rfl) dX0_init_72 (fun H hB => ?_)
  rw [← eo38]
  have g40 : z_ok h39 o38 13 = true := by rw [eh39, eo38]; exact z_al_ok
  obtain ⟨g41, hv⟩ := y_gd_e hv
  obtain ⟨h42, eh42, hv⟩ := y_nm_e hv
  refine z_putF hc hB 0 9 (r := (some o38)) rfl (z_hrS (k := 13) g40) eh42 g41 qfX0_28 dX0_init_74 hnm (by decide) (by decide) rfl rfl rfl (fun r => by cases r <;> rfl) (fun r => by cases r <;> rfl) (fun H locs hB => ?_)
  refine lv_aload_n hx hb dX0_init_77 rfl (lv_at hl 0 rfl) ?_
  refine lv_bipush (v := (7 : Int32)) hx hb dX0_init_78 (by decide) ?_
  obtain ⟨o43, eo43, hv⟩ := y_nm_e hv
  obtain ⟨h44, eh44, hv⟩ := y_nm_e hv
  refine z_newarr hc hB 13 7 (n := (7 : Int32)) eh44 (by decide) (by decide) (by decide) rfl qa_int (by decide) (by decide) (Nat.le_of_ble_eq_true rfl) (Nat.le_of_ble_eq_true rfl) dX0_init_80 (fun H hB => ?_)
  rw [← eo43]
  have g45 : z_ok h44 o43 13 = true := by rw [eh44, eo43]; exact z_al_ok
  obtain ⟨g46, hv⟩ := y_gd_e hv
  obtain ⟨h47, eh47, hv⟩ := y_nm_e hv
  refine z_putF hc hB 0 10 (r := (some o43)) rfl (z_hrS (k := 13) g45) eh47 g46 qfX0_31 dX0_init_82 hnm (by decide) (by decide) rfl rfl rfl (fun r => by cases r <;> rfl) (fun r => by cases r <;> rfl) (fun H locs hB => ?_)
  replace hv := Option.some.inj hv
  subst hv
  rw [← kt]
  exact z_vret hc hB hr dX0_init_85
theorem qfX1_9 : Cond.fieldLink RX1 9 "DreamTests$Bytes" "bytes" "[B" ∈ z_ws := List.mem_filter.mpr ⟨List.mem_append_right _ (List.mem_of_getElem? (i := 88) (by decide +kernel)), rfl⟩
theorem dX1_at_0 : decode cX1_at 0 = .ok (.iload_n 1, 1) := by decide +kernel
theorem dX1_at_1 : decode cX1_at 1 = .ok (.ifCond .lt 21, 3) := by decide +kernel
theorem dX1_at_4 : decode cX1_at 4 = .ok (.iload_n 1, 1) := by decide +kernel
theorem dX1_at_5 : decode cX1_at 5 = .ok (.aload_n 0, 1) := by decide +kernel
theorem dX1_at_6 : decode cX1_at 6 = .ok (.getfield 9, 3) := by decide +kernel
theorem dX1_at_9 : decode cX1_at 9 = .ok (.arraylength, 1) := by decide +kernel
theorem dX1_at_10 : decode cX1_at 10 = .ok (.if_icmp .ge 12, 3) := by decide +kernel
theorem dX1_at_13 : decode cX1_at 13 = .ok (.aload_n 0, 1) := by decide +kernel
theorem dX1_at_14 : decode cX1_at 14 = .ok (.getfield 9, 3) := by decide +kernel
theorem dX1_at_17 : decode cX1_at 17 = .ok (.iload_n 1, 1) := by decide +kernel
theorem dX1_at_18 : decode cX1_at 18 = .ok (.baload, 1) := by decide +kernel
theorem dX1_at_19 : decode cX1_at 19 = .ok (.goto 4, 3) := by decide +kernel
theorem dX1_at_22 : decode cX1_at 22 = .ok (.iconst 0, 1) := by decide +kernel
theorem dX1_at_23 : decode cX1_at 23 = .ok (.ireturn, 1) := by decide +kernel
abbrev rm_X1_at : Room := { frames := 0, cells := 0, slots := 0, locals := 0 }
noncomputable def fX1_at_b22  (h : z_T) : Option (Int32) :=
  some (0 : Int32)
noncomputable def fX1_at (o0 : Nat) (x1 : Int32) (h : z_T) : Option (Int32) :=
  y_br (x1 < 0)
    (fX1_at_b22 h)
    (y_gd (z_ok h o0 1) <|
    y_bi (z_R h o0 0) fun o3 =>
    y_gd (z_ok h o3 12) <|
    y_br ((nI (z_N h o3)) ≤ x1)
      (fX1_at_b22 h)
      (y_gd (z_ix x1 (z_N h o3)) <|
      some (z_I h o3 x1.toNatClampNeg)))
set_option maxHeartbeats 4000000 in
set_option maxRecDepth 100000 in
theorem mm_X1_at {G : z_Gt} (hSK : z_SK (z_S G)) (l : Launch) (ad : Nat → Nat) (o0 : Nat) (x1 : Int32) (h : z_T) {r0 : Int32} (hv : fX1_at o0 x1 h = some r0) : z_Mi G (z_S G) l yX1_at cX1_at 2 (.int) rm_X1_at 0 0 [.ref (ad o0), .int x1] ad h h r0 := by
  refine z_ofW hSK (by decide) (Nat.le_of_ble_eq_true rfl) ?_
  intro p e s m args below meth c ls hc hr hnm hB hl
  have hx := hc.1.1
  have hb := hc.1.2.1
  have hown := hc.1.2.2.2.1
  have hts := hc.1.2.2.2.2
  replace hc : z_C G (z_S G) ad (z_n h) p m c cX1_at 2 s args RX1 meth := hc
  replace hown : s.vm.findClass RX1 = some m.cls := hown
  replace hl : lv_has ls 2 [(0, .ref (ad o0)), (1, .int x1)] := hl
  show W p l e rm_X1_at s m args below meth c s.heap [] 0 0 (MQ below (z_Qi G ad h (z_n h) s.heap.size r0) args s 0 0 (z_A ad (z_n h) s.heap.size)) (F0 m 0 ls [])
  obtain ⟨rs, kt⟩ : ∃ rs : Int32, rs = r0 := ⟨_, rfl⟩
  generalize hn0 : z_n h = n0 at hc hB ⊢
  have b22 : ∀ (H : Heap) (locs : List Loc) (ls : Array Slot), z_B G ad n0 s h H locs → lv_has ls 2 [] → ∀ w, fX1_at_b22 h = some w → w = r0 → W p l e rm_X1_at s m args below meth c H locs 0 0 (MQ below (z_Qi G ad h n0 s.heap.size r0) args s 0 0 (z_A ad n0 s.heap.size)) (F0 m 22 ls []) := by
    intro H locs ls hB hl w hv kb
    refine lv_iconst (v := (0 : Int32)) hx hb dX1_at_22 (by decide) ?_
    replace hv := Option.some.inj hv
    subst hv
    rw [← kb]
    exact z_iret hc hB hr dX1_at_23
  rw [← kt] at hv
  refine lv_iload_n hx hb dX1_at_0 rfl (lv_at hl 1 rfl) ?_
  refine lv_if_lt (tgt := 22) hx hb dX1_at_1 (by decide) (fun c1 => ?_) (fun c1 => ?_)
  · replace hv := y_br_t hv c1
    exact b22 _ _ _ hB (lv_sub hl [] rfl) _ hv kt
  · replace hv := y_br_f hv c1
    refine lv_iload_n hx hb dX1_at_4 rfl (lv_at hl 1 rfl) ?_
    refine lv_aload_n hx hb dX1_at_5 rfl (lv_at hl 0 rfl) ?_
    obtain ⟨g2, hv⟩ := y_gd_e hv
    obtain ⟨o3, eo3, hv⟩ := y_bi_e hv
    refine z_getR hc hB 1 0 g2 eo3 (by decide) (by decide) rfl (z_l1 hc qfX1_9) dX1_at_6 ?_
    obtain ⟨g4, hv⟩ := y_gd_e hv
    refine z_alen hc hB 12 (by decide) (by decide) g4 dX1_at_9 ?_
    refine lv_icmp_ge (tgt := 22) hx hb dX1_at_10 (by decide) (fun c5 => ?_) (fun c5 => ?_)
    · replace hv := y_br_t hv c5
      exact b22 _ _ _ hB (lv_sub hl [] rfl) _ hv kt
    · replace hv := y_br_f hv c5
      refine lv_aload_n hx hb dX1_at_13 rfl (lv_at hl 0 rfl) ?_
      refine z_getR hc hB 1 0 g2 eo3 (by decide) (by decide) rfl (z_l1 hc qfX1_9) dX1_at_14 ?_
      refine lv_iload_n hx hb dX1_at_17 rfl (lv_at hl 1 rfl) ?_
      obtain ⟨i6, hv⟩ := y_gd_e hv
      refine z_bald hc hB g4 i6 dX1_at_18 ?_
      refine lv_goto (tgt := 23) hx hb dX1_at_19 (by decide) ?_
      replace hv := Option.some.inj hv
      subst hv
      rw [← kt]
      exact z_iret hc hB hr dX1_at_23
theorem dX6_isBlank_0 : decode cX6_isBlank 0 = .ok (.iload_n 0, 1) := by decide +kernel
theorem dX6_isBlank_1 : decode cX6_isBlank 1 = .ok (.bipush 32, 2) := by decide +kernel
theorem dX6_isBlank_3 : decode cX6_isBlank 3 = .ok (.if_icmp .eq 9, 3) := by decide +kernel
theorem dX6_isBlank_6 : decode cX6_isBlank 6 = .ok (.iload_n 0, 1) := by decide +kernel
theorem dX6_isBlank_7 : decode cX6_isBlank 7 = .ok (.bipush 10, 2) := by decide +kernel
theorem dX6_isBlank_9 : decode cX6_isBlank 9 = .ok (.if_icmp .ne 7, 3) := by decide +kernel
theorem dX6_isBlank_12 : decode cX6_isBlank 12 = .ok (.iconst 1, 1) := by decide +kernel
theorem dX6_isBlank_13 : decode cX6_isBlank 13 = .ok (.goto 4, 3) := by decide +kernel
theorem dX6_isBlank_16 : decode cX6_isBlank 16 = .ok (.iconst 0, 1) := by decide +kernel
theorem dX6_isBlank_17 : decode cX6_isBlank 17 = .ok (.ireturn, 1) := by decide +kernel
abbrev rm_X6_isBlank : Room := { frames := 0, cells := 0, slots := 0, locals := 0 }
noncomputable def fX6_isBlank_b12  : Option (Int32) :=
  some (1 : Int32)
noncomputable def fX6_isBlank (x0 : Int32) : Option (Int32) :=
  y_br (x0 = (32 : Int32))
    (fX6_isBlank_b12)
    (y_br (x0 = (10 : Int32))
      (fX6_isBlank_b12)
      (some (0 : Int32)))
set_option maxHeartbeats 4000000 in
set_option maxRecDepth 100000 in
theorem mm_X6_isBlank {G : z_Gt} (hSK : z_SK (z_S G)) (l : Launch) (ad : Nat → Nat) (x0 : Int32) (h : z_T) {r0 : Int32} (hv : fX6_isBlank x0 = some r0) : z_Mi G (z_S G) l yX6_isBlank cX6_isBlank 1 (.boolean) rm_X6_isBlank 0 0 [.int x0] ad h h r0 := by
  refine z_ofW hSK (by decide) (Nat.le_of_ble_eq_true rfl) ?_
  intro p e s m args below meth c ls hc hr hnm hB hl
  have hx := hc.1.1
  have hb := hc.1.2.1
  have hown := hc.1.2.2.2.1
  have hts := hc.1.2.2.2.2
  replace hc : z_C G (z_S G) ad (z_n h) p m c cX6_isBlank 1 s args RX6 meth := hc
  replace hown : s.vm.findClass RX6 = some m.cls := hown
  replace hl : lv_has ls 1 [(0, .int x0)] := hl
  show W p l e rm_X6_isBlank s m args below meth c s.heap [] 0 0 (MQ below (z_Qi G ad h (z_n h) s.heap.size r0) args s 0 0 (z_A ad (z_n h) s.heap.size)) (F0 m 0 ls [])
  obtain ⟨rs, kt⟩ : ∃ rs : Int32, rs = r0 := ⟨_, rfl⟩
  generalize hn0 : z_n h = n0 at hc hB ⊢
  have b12 : ∀ (H : Heap) (locs : List Loc) (ls : Array Slot), z_B G ad n0 s h H locs → lv_has ls 1 [] → ∀ w, fX6_isBlank_b12 = some w → w = r0 → W p l e rm_X6_isBlank s m args below meth c H locs 0 0 (MQ below (z_Qi G ad h n0 s.heap.size r0) args s 0 0 (z_A ad n0 s.heap.size)) (F0 m 12 ls []) := by
    intro H locs ls hB hl w hv kb
    refine lv_iconst (v := (1 : Int32)) hx hb dX6_isBlank_12 (by decide) ?_
    refine lv_goto (tgt := 17) hx hb dX6_isBlank_13 (by decide) ?_
    replace hv := Option.some.inj hv
    subst hv
    rw [← kb]
    exact z_zret hc hB hr rfl dX6_isBlank_17
  rw [← kt] at hv
  refine lv_iload_n hx hb dX6_isBlank_0 rfl (lv_at hl 0 rfl) ?_
  refine lv_bipush (v := (32 : Int32)) hx hb dX6_isBlank_1 (by decide) ?_
  refine lv_icmp_eq (tgt := 12) hx hb dX6_isBlank_3 (by decide) (fun c1 => ?_) (fun c1 => ?_)
  · replace hv := y_br_t hv c1
    exact b12 _ _ _ hB (lv_sub hl [] rfl) _ hv kt
  · replace hv := y_br_f hv c1
    refine lv_iload_n hx hb dX6_isBlank_6 rfl (lv_at hl 0 rfl) ?_
    refine lv_bipush (v := (10 : Int32)) hx hb dX6_isBlank_7 (by decide) ?_
    refine lv_icmp_ne (tgt := 16) hx hb dX6_isBlank_9 (by decide) (fun c2 => ?_) (fun c2 => ?_)
    · replace hv := y_br_f hv c2
      refine lv_iconst (v := (0 : Int32)) hx hb dX6_isBlank_16 (by decide) ?_
      replace hv := Option.some.inj hv
      subst hv
      rw [← kt]
      exact z_zret hc hB hr rfl dX6_isBlank_17
    · replace hv := y_br_t hv c2
      exact b12 _ _ _ hB (lv_sub hl [] rfl) _ hv kt
theorem qfX10_127 : Cond.fieldLink RX10 127 "DreamTests$Word" "ALL" "[LDreamTests$Word;" ∈ z_ws := List.mem_filter.mpr ⟨List.mem_append_right _ (List.mem_of_getElem? (i := 376) (by decide +kernel)), rfl⟩
theorem qfX10_5 : Cond.fieldLink RX10 5 "DreamTests$Word" "NAME" "LDreamTests$Word;" ∈ z_ws := List.mem_filter.mpr ⟨List.mem_append_right _ (List.mem_of_getElem? (i := 378) (by decide +kernel)), rfl⟩
theorem qfX10_113 : Cond.fieldLink RX10 113 "DreamTests$Word" "name" "J" ∈ z_ws := List.mem_filter.mpr ⟨List.mem_append_right _ (List.mem_of_getElem? (i := 1924) (by decide +kernel)), rfl⟩
theorem dX10_named_0 : decode cX10_named 0 = .ok (.iconst 0, 1) := by decide +kernel
theorem dX10_named_1 : decode cX10_named 1 = .ok (.istore_n 2, 1) := by decide +kernel
theorem dX10_named_2 : decode cX10_named 2 = .ok (.iload_n 2, 1) := by decide +kernel
theorem dX10_named_3 : decode cX10_named 3 = .ok (.getstatic 127, 3) := by decide +kernel
theorem dX10_named_6 : decode cX10_named 6 = .ok (.arraylength, 1) := by decide +kernel
theorem dX10_named_7 : decode cX10_named 7 = .ok (.if_icmp .ge 28, 3) := by decide +kernel
theorem dX10_named_10 : decode cX10_named 10 = .ok (.getstatic 127, 3) := by decide +kernel
theorem dX10_named_13 : decode cX10_named 13 = .ok (.iload_n 2, 1) := by decide +kernel
theorem dX10_named_14 : decode cX10_named 14 = .ok (.aaload, 1) := by decide +kernel
theorem dX10_named_15 : decode cX10_named 15 = .ok (.getfield 113, 3) := by decide +kernel
theorem dX10_named_18 : decode cX10_named 18 = .ok (.lload_n 0, 1) := by decide +kernel
theorem dX10_named_19 : decode cX10_named 19 = .ok (.lcmp, 1) := by decide +kernel
theorem dX10_named_20 : decode cX10_named 20 = .ok (.ifCond .ne 9, 3) := by decide +kernel
theorem dX10_named_23 : decode cX10_named 23 = .ok (.getstatic 127, 3) := by decide +kernel
theorem dX10_named_26 : decode cX10_named 26 = .ok (.iload_n 2, 1) := by decide +kernel
theorem dX10_named_27 : decode cX10_named 27 = .ok (.aaload, 1) := by decide +kernel
theorem dX10_named_28 : decode cX10_named 28 = .ok (.areturn, 1) := by decide +kernel
theorem dX10_named_29 : decode cX10_named 29 = .ok (.iinc 2 1, 3) := by decide +kernel
theorem dX10_named_32 : decode cX10_named 32 = .ok (.goto (-30), 3) := by decide +kernel
theorem dX10_named_35 : decode cX10_named 35 = .ok (.getstatic 5, 3) := by decide +kernel
theorem dX10_named_38 : decode cX10_named 38 = .ok (.areturn, 1) := by decide +kernel
abbrev rm_X10_named : Room := { frames := 0, cells := 0, slots := 0, locals := 0 }
noncomputable def fX10_named_b2_i (l0 : Int64) (h : z_T) (x2 : Int32) : Option ((Int32) ⊕ (Nat)) :=
  y_br ((23 : Int32) ≤ x2)
    (y_mp <|
    some 0)
    (y_gd (z_ix x2 23) <|
    y_gd (decide ((x2.toNatClampNeg) < 23)) <|
    y_br ((lg_cmp (z_wname (x2.toNatClampNeg)) l0) = 0)
      (y_mp <|
      y_gd (z_ix x2 23) <|
      some (x2.toNatClampNeg))
      (y_nm (x2 + 1) fun v6 =>
      some (.inl (v6))))
noncomputable def fX10_named_b2 (l0 : Int64) (x2 : Int32) (h : z_T) : Option (Nat) := y_lp (fun q : Int32 => fX10_named_b2_i l0 h q) (x2)
noncomputable def fX10_named (l0 : Int64) (h : z_T) : Option (Nat) :=
  fX10_named_b2 l0 (0 : Int32) h
set_option maxHeartbeats 4000000 in
set_option maxRecDepth 100000 in
theorem mm_X10_named {G : z_Gt} (hSK : z_SK (z_S G)) (l : Launch) (ad : Nat → Nat) (l0 : Int64) (h : z_T) {r0 : Nat} (hv : fX10_named l0 h = some r0) : z_Me G (z_S G) l yX10_named cX10_named 3 ((.object "DreamTests$Word")) rm_X10_named 0 0 [.long l0] ad h h r0 := by
  refine z_ofW hSK (by decide) (Nat.le_of_ble_eq_true rfl) ?_
  intro p e s m args below meth c ls hc hr hnm hB hl
  have hx := hc.1.1
  have hb := hc.1.2.1
  have hown := hc.1.2.2.2.1
  have hts := hc.1.2.2.2.2
  replace hc : z_C G (z_S G) ad (z_n h) p m c cX10_named 3 s args RX10 meth := hc
  replace hown : s.vm.findClass RX10 = some m.cls := hown
  replace hl : lv_has ls 3 [(0, .long l0)] := hl
  show W p l e rm_X10_named s m args below meth c s.heap [] 0 0 (MQ below (z_Qe G ad h (z_n h) s.heap.size r0) args s 0 0 (z_A ad (z_n h) s.heap.size)) (F0 m 0 ls [])
  obtain ⟨rs, kt⟩ : ∃ rs : Nat, rs = r0 := ⟨_, rfl⟩
  generalize hn0 : z_n h = n0 at hc hB ⊢
  obtain ⟨tW, hZW, hTW⟩ := hc.2.1.2.2.2.1.2.2.2.1
  have L2 : ∀ (nn2 : Nat) (x2 : Int32) (H : Heap) (locs : List Loc) (ls : Array Slot), z_B G ad n0 s h H locs → lv_has ls 3 [(0, .long l0), (2, .int x2)] → ∀ vv2, y_lpN (fun q : Int32 => fX10_named_b2_i l0 h q) nn2 (x2) = some vv2 → vv2 = r0 → W p l e rm_X10_named s m args below meth c H locs 0 0 (MQ below (z_Qe G ad h n0 s.heap.size r0) args s 0 0 (z_A ad n0 s.heap.size)) (F0 m 2 ls []) := by
    intro nn2
    induction nn2 with
    | zero => intro x2 H locs ls hB hl vv2 hv kv2; exact absurd hv (fun q => y_lpN_0 q)
    | succ nn2 ih2 =>
      intro x2 H locs ls hB hl vv2 hv kv2
      obtain ⟨w, hq, kw2⟩ := y_lpN_e hv
      clear hv
      have hv : fX10_named_b2_i l0 h x2 = some w := hq
      clear hq
      refine lv_iload_n hx hb dX10_named_2 rfl (lv_at hl 1 rfl) ?_
      refine z_gets hc hB hZW qfX10_127 dX10_named_3 ?_
      refine z_lenT hc hB (v := (23 : Int32)) (by decide) hTW dX10_named_6 ?_
      refine lv_icmp_ge (tgt := 35) hx hb dX10_named_7 (by decide) (fun c1 => ?_) (fun c1 => ?_)
      · replace hv := y_br_t hv c1
        obtain ⟨t2, hq, ew⟩ := y_mp_e hv
        clear hv; subst ew
        replace kw2 : t2 = _ := kw2
        subst kw2
        have hv := hq
        clear hq
        refine z_gets hc hB (hc.2.1.2.2.2.1.1 0 (by decide)) qfX10_5 dX10_named_35 ?_
        replace hv := Option.some.inj hv
        subst hv
        rw [← kv2]
        exact z_eret hc hB hr ⟨_, rfl⟩ dX10_named_38
      · replace hv := y_br_f hv c1
        refine z_gets hc hB hZW qfX10_127 dX10_named_10 ?_
        refine lv_iload_n hx hb dX10_named_13 rfl (lv_at hl 1 rfl) ?_
        obtain ⟨i3, hv⟩ := y_gd_e hv
        refine z_aldT hc hB rfl hTW i3 dX10_named_14 ?_
        obtain ⟨g4, hv⟩ := y_gd_e hv
        refine z_getO hc hB (hc.2.1.2.2.2.1.2.1 (x2.toNatClampNeg) (z_lt g4)).1 (z_l1 hc qfX10_113) dX10_named_15 ?_
        refine lv_lload_n hx hb dX10_named_18 rfl (lv_at hl 0 rfl) ?_
        refine W.lcmp hx hb dX10_named_19 ?_
        refine lv_if_ne (tgt := 29) hx hb dX10_named_20 (by decide) (fun c5 => ?_) (fun c5 => ?_)
        · replace hv := y_br_f hv c5
          obtain ⟨v6, ev6, hv⟩ := y_nm_e hv
          refine lv_iinc (v := v6) (lv' := [(2, .int v6), (0, .long l0)]) hx hb dX10_named_29 hl (k := 1) rfl (by rw [ev6]; rfl) (by decide) rfl (fun ls hl => ?_)
          refine lv_goto (tgt := 2) hx hb dX10_named_32 (by decide) ?_
          replace hv := Option.some.inj hv
          subst hv
          exact ih2 v6 _ _ _ hB (lv_sub hl [1, 0] rfl) _ kw2 kv2
        · replace hv := y_br_t hv c5
          obtain ⟨t7, hq, ew⟩ := y_mp_e hv
          clear hv; subst ew
          replace kw2 : t7 = _ := kw2
          subst kw2
          have hv := hq
          clear hq
          refine z_gets hc hB hZW qfX10_127 dX10_named_23 ?_
          refine lv_iload_n hx hb dX10_named_26 rfl (lv_at hl 1 rfl) ?_
          obtain ⟨i8, hv⟩ := y_gd_e hv
          refine z_aldT hc hB rfl hTW i8 dX10_named_27 ?_
          replace hv := Option.some.inj hv
          subst hv
          rw [← kv2]
          exact z_eret hc hB hr ⟨_, rfl⟩ dX10_named_28
  rw [← kt] at hv
  refine lv_iconst (v := (0 : Int32)) hx hb dX10_named_0 (by decide) ?_
  refine lv_istore_n (lv' := [(2, .int (0 : Int32)), (0, .long l0)]) hx hb dX10_named_1 rfl hl (by decide) rfl (fun ls hl => ?_)
  obtain ⟨n, hv⟩ := y_lp_e hv
  exact L2 n (0 : Int32) _ _ _ hB (lv_sub hl [1, 0] rfl) _ hv kt
theorem dX6_isDigit_0 : decode cX6_isDigit 0 = .ok (.iload_n 0, 1) := by decide +kernel
theorem dX6_isDigit_1 : decode cX6_isDigit 1 = .ok (.bipush 48, 2) := by decide +kernel
theorem dX6_isDigit_3 : decode cX6_isDigit 3 = .ok (.if_icmp .lt 13, 3) := by decide +kernel
theorem dX6_isDigit_6 : decode cX6_isDigit 6 = .ok (.iload_n 0, 1) := by decide +kernel
theorem dX6_isDigit_7 : decode cX6_isDigit 7 = .ok (.bipush 57, 2) := by decide +kernel
theorem dX6_isDigit_9 : decode cX6_isDigit 9 = .ok (.if_icmp .gt 7, 3) := by decide +kernel
theorem dX6_isDigit_12 : decode cX6_isDigit 12 = .ok (.iconst 1, 1) := by decide +kernel
theorem dX6_isDigit_13 : decode cX6_isDigit 13 = .ok (.goto 4, 3) := by decide +kernel
theorem dX6_isDigit_16 : decode cX6_isDigit 16 = .ok (.iconst 0, 1) := by decide +kernel
theorem dX6_isDigit_17 : decode cX6_isDigit 17 = .ok (.ireturn, 1) := by decide +kernel
abbrev rm_X6_isDigit : Room := { frames := 0, cells := 0, slots := 0, locals := 0 }
noncomputable def fX6_isDigit_b16  : Option (Int32) :=
  some (0 : Int32)
noncomputable def fX6_isDigit (x0 : Int32) : Option (Int32) :=
  y_br (x0 < (48 : Int32))
    (fX6_isDigit_b16)
    (y_br ((57 : Int32) < x0)
      (fX6_isDigit_b16)
      (some (1 : Int32)))
set_option maxHeartbeats 4000000 in
set_option maxRecDepth 100000 in
theorem mm_X6_isDigit {G : z_Gt} (hSK : z_SK (z_S G)) (l : Launch) (ad : Nat → Nat) (x0 : Int32) (h : z_T) {r0 : Int32} (hv : fX6_isDigit x0 = some r0) : z_Mi G (z_S G) l yX6_isDigit cX6_isDigit 1 (.boolean) rm_X6_isDigit 0 0 [.int x0] ad h h r0 := by
  refine z_ofW hSK (by decide) (Nat.le_of_ble_eq_true rfl) ?_
  intro p e s m args below meth c ls hc hr hnm hB hl
  have hx := hc.1.1
  have hb := hc.1.2.1
  have hown := hc.1.2.2.2.1
  have hts := hc.1.2.2.2.2
  replace hc : z_C G (z_S G) ad (z_n h) p m c cX6_isDigit 1 s args RX6 meth := hc
  replace hown : s.vm.findClass RX6 = some m.cls := hown
  replace hl : lv_has ls 1 [(0, .int x0)] := hl
  show W p l e rm_X6_isDigit s m args below meth c s.heap [] 0 0 (MQ below (z_Qi G ad h (z_n h) s.heap.size r0) args s 0 0 (z_A ad (z_n h) s.heap.size)) (F0 m 0 ls [])
  obtain ⟨rs, kt⟩ : ∃ rs : Int32, rs = r0 := ⟨_, rfl⟩
  generalize hn0 : z_n h = n0 at hc hB ⊢
  have b16 : ∀ (H : Heap) (locs : List Loc) (ls : Array Slot), z_B G ad n0 s h H locs → lv_has ls 1 [] → ∀ w, fX6_isDigit_b16 = some w → w = r0 → W p l e rm_X6_isDigit s m args below meth c H locs 0 0 (MQ below (z_Qi G ad h n0 s.heap.size r0) args s 0 0 (z_A ad n0 s.heap.size)) (F0 m 16 ls []) := by
    intro H locs ls hB hl w hv kb
    refine lv_iconst (v := (0 : Int32)) hx hb dX6_isDigit_16 (by decide) ?_
    replace hv := Option.some.inj hv
    subst hv
    rw [← kb]
    exact z_zret hc hB hr rfl dX6_isDigit_17
  rw [← kt] at hv
  refine lv_iload_n hx hb dX6_isDigit_0 rfl (lv_at hl 0 rfl) ?_
  refine lv_bipush (v := (48 : Int32)) hx hb dX6_isDigit_1 (by decide) ?_
  refine lv_icmp_lt (tgt := 16) hx hb dX6_isDigit_3 (by decide) (fun c1 => ?_) (fun c1 => ?_)
  · replace hv := y_br_t hv c1
    exact b16 _ _ _ hB (lv_sub hl [] rfl) _ hv kt
  · replace hv := y_br_f hv c1
    refine lv_iload_n hx hb dX6_isDigit_6 rfl (lv_at hl 0 rfl) ?_
    refine lv_bipush (v := (57 : Int32)) hx hb dX6_isDigit_7 (by decide) ?_
    refine lv_icmp_gt (tgt := 16) hx hb dX6_isDigit_9 (by decide) (fun c2 => ?_) (fun c2 => ?_)
    · replace hv := y_br_t hv c2
      exact b16 _ _ _ hB (lv_sub hl [] rfl) _ hv kt
    · replace hv := y_br_f hv c2
      refine lv_iconst (v := (1 : Int32)) hx hb dX6_isDigit_12 (by decide) ?_
      refine lv_goto (tgt := 17) hx hb dX6_isDigit_13 (by decide) ?_
      replace hv := Option.some.inj hv
      subst hv
      rw [← kt]
      exact z_zret hc hB hr rfl dX6_isDigit_17
theorem dX6_isLetter_0 : decode cX6_isLetter 0 = .ok (.iload_n 0, 1) := by decide +kernel
theorem dX6_isLetter_1 : decode cX6_isLetter 1 = .ok (.bipush 97, 2) := by decide +kernel
theorem dX6_isLetter_3 : decode cX6_isLetter 3 = .ok (.if_icmp .lt 13, 3) := by decide +kernel
theorem dX6_isLetter_6 : decode cX6_isLetter 6 = .ok (.iload_n 0, 1) := by decide +kernel
theorem dX6_isLetter_7 : decode cX6_isLetter 7 = .ok (.bipush 122, 2) := by decide +kernel
theorem dX6_isLetter_9 : decode cX6_isLetter 9 = .ok (.if_icmp .gt 7, 3) := by decide +kernel
theorem dX6_isLetter_12 : decode cX6_isLetter 12 = .ok (.iconst 1, 1) := by decide +kernel
theorem dX6_isLetter_13 : decode cX6_isLetter 13 = .ok (.goto 4, 3) := by decide +kernel
theorem dX6_isLetter_16 : decode cX6_isLetter 16 = .ok (.iconst 0, 1) := by decide +kernel
theorem dX6_isLetter_17 : decode cX6_isLetter 17 = .ok (.ireturn, 1) := by decide +kernel
abbrev rm_X6_isLetter : Room := { frames := 0, cells := 0, slots := 0, locals := 0 }
noncomputable def fX6_isLetter_b16  : Option (Int32) :=
  some (0 : Int32)
noncomputable def fX6_isLetter (x0 : Int32) : Option (Int32) :=
  y_br (x0 < (97 : Int32))
    (fX6_isLetter_b16)
    (y_br ((122 : Int32) < x0)
      (fX6_isLetter_b16)
      (some (1 : Int32)))
set_option maxHeartbeats 4000000 in
set_option maxRecDepth 100000 in
theorem mm_X6_isLetter {G : z_Gt} (hSK : z_SK (z_S G)) (l : Launch) (ad : Nat → Nat) (x0 : Int32) (h : z_T) {r0 : Int32} (hv : fX6_isLetter x0 = some r0) : z_Mi G (z_S G) l yX6_isLetter cX6_isLetter 1 (.boolean) rm_X6_isLetter 0 0 [.int x0] ad h h r0 := by
  refine z_ofW hSK (by decide) (Nat.le_of_ble_eq_true rfl) ?_
  intro p e s m args below meth c ls hc hr hnm hB hl
  have hx := hc.1.1
  have hb := hc.1.2.1
  have hown := hc.1.2.2.2.1
  have hts := hc.1.2.2.2.2
  replace hc : z_C G (z_S G) ad (z_n h) p m c cX6_isLetter 1 s args RX6 meth := hc
  replace hown : s.vm.findClass RX6 = some m.cls := hown
  replace hl : lv_has ls 1 [(0, .int x0)] := hl
  show W p l e rm_X6_isLetter s m args below meth c s.heap [] 0 0 (MQ below (z_Qi G ad h (z_n h) s.heap.size r0) args s 0 0 (z_A ad (z_n h) s.heap.size)) (F0 m 0 ls [])
  obtain ⟨rs, kt⟩ : ∃ rs : Int32, rs = r0 := ⟨_, rfl⟩
  generalize hn0 : z_n h = n0 at hc hB ⊢
  have b16 : ∀ (H : Heap) (locs : List Loc) (ls : Array Slot), z_B G ad n0 s h H locs → lv_has ls 1 [] → ∀ w, fX6_isLetter_b16 = some w → w = r0 → W p l e rm_X6_isLetter s m args below meth c H locs 0 0 (MQ below (z_Qi G ad h n0 s.heap.size r0) args s 0 0 (z_A ad n0 s.heap.size)) (F0 m 16 ls []) := by
    intro H locs ls hB hl w hv kb
    refine lv_iconst (v := (0 : Int32)) hx hb dX6_isLetter_16 (by decide) ?_
    replace hv := Option.some.inj hv
    subst hv
    rw [← kb]
    exact z_zret hc hB hr rfl dX6_isLetter_17
  rw [← kt] at hv
  refine lv_iload_n hx hb dX6_isLetter_0 rfl (lv_at hl 0 rfl) ?_
  refine lv_bipush (v := (97 : Int32)) hx hb dX6_isLetter_1 (by decide) ?_
  refine lv_icmp_lt (tgt := 16) hx hb dX6_isLetter_3 (by decide) (fun c1 => ?_) (fun c1 => ?_)
  · replace hv := y_br_t hv c1
    exact b16 _ _ _ hB (lv_sub hl [] rfl) _ hv kt
  · replace hv := y_br_f hv c1
    refine lv_iload_n hx hb dX6_isLetter_6 rfl (lv_at hl 0 rfl) ?_
    refine lv_bipush (v := (122 : Int32)) hx hb dX6_isLetter_7 (by decide) ?_
    refine lv_icmp_gt (tgt := 16) hx hb dX6_isLetter_9 (by decide) (fun c2 => ?_) (fun c2 => ?_)
    · replace hv := y_br_t hv c2
      exact b16 _ _ _ hB (lv_sub hl [] rfl) _ hv kt
    · replace hv := y_br_f hv c2
      refine lv_iconst (v := (1 : Int32)) hx hb dX6_isLetter_12 (by decide) ?_
      refine lv_goto (tgt := 17) hx hb dX6_isLetter_13 (by decide) ?_
      replace hv := Option.some.inj hv
      subst hv
      rw [← kt]
      exact z_zret hc hB hr rfl dX6_isLetter_17
theorem dX6_isSign_0 : decode cX6_isSign 0 = .ok (.iload_n 0, 1) := by decide +kernel
theorem dX6_isSign_1 : decode cX6_isSign 1 = .ok (.bipush 59, 2) := by decide +kernel
theorem dX6_isSign_3 : decode cX6_isSign 3 = .ok (.if_icmp .eq 33, 3) := by decide +kernel
theorem dX6_isSign_6 : decode cX6_isSign 6 = .ok (.iload_n 0, 1) := by decide +kernel
theorem dX6_isSign_7 : decode cX6_isSign 7 = .ok (.bipush 40, 2) := by decide +kernel
theorem dX6_isSign_9 : decode cX6_isSign 9 = .ok (.if_icmp .eq 27, 3) := by decide +kernel
theorem dX6_isSign_12 : decode cX6_isSign 12 = .ok (.iload_n 0, 1) := by decide +kernel
theorem dX6_isSign_13 : decode cX6_isSign 13 = .ok (.bipush 41, 2) := by decide +kernel
theorem dX6_isSign_15 : decode cX6_isSign 15 = .ok (.if_icmp .eq 21, 3) := by decide +kernel
theorem dX6_isSign_18 : decode cX6_isSign 18 = .ok (.iload_n 0, 1) := by decide +kernel
theorem dX6_isSign_19 : decode cX6_isSign 19 = .ok (.bipush 60, 2) := by decide +kernel
theorem dX6_isSign_21 : decode cX6_isSign 21 = .ok (.if_icmp .eq 15, 3) := by decide +kernel
theorem dX6_isSign_24 : decode cX6_isSign 24 = .ok (.iload_n 0, 1) := by decide +kernel
theorem dX6_isSign_25 : decode cX6_isSign 25 = .ok (.bipush 61, 2) := by decide +kernel
theorem dX6_isSign_27 : decode cX6_isSign 27 = .ok (.if_icmp .eq 9, 3) := by decide +kernel
theorem dX6_isSign_30 : decode cX6_isSign 30 = .ok (.iload_n 0, 1) := by decide +kernel
theorem dX6_isSign_31 : decode cX6_isSign 31 = .ok (.bipush 62, 2) := by decide +kernel
theorem dX6_isSign_33 : decode cX6_isSign 33 = .ok (.if_icmp .ne 7, 3) := by decide +kernel
theorem dX6_isSign_36 : decode cX6_isSign 36 = .ok (.iconst 1, 1) := by decide +kernel
theorem dX6_isSign_37 : decode cX6_isSign 37 = .ok (.goto 4, 3) := by decide +kernel
theorem dX6_isSign_40 : decode cX6_isSign 40 = .ok (.iconst 0, 1) := by decide +kernel
theorem dX6_isSign_41 : decode cX6_isSign 41 = .ok (.ireturn, 1) := by decide +kernel
abbrev rm_X6_isSign : Room := { frames := 0, cells := 0, slots := 0, locals := 0 }
noncomputable def fX6_isSign_b36  : Option (Int32) :=
  some (1 : Int32)
noncomputable def fX6_isSign (x0 : Int32) : Option (Int32) :=
  y_br (x0 = (59 : Int32))
    (fX6_isSign_b36)
    (y_br (x0 = (40 : Int32))
      (fX6_isSign_b36)
      (y_br (x0 = (41 : Int32))
        (fX6_isSign_b36)
        (y_br (x0 = (60 : Int32))
          (fX6_isSign_b36)
          (y_br (x0 = (61 : Int32))
            (fX6_isSign_b36)
            (y_br (x0 = (62 : Int32))
              (fX6_isSign_b36)
              (some (0 : Int32)))))))
set_option maxHeartbeats 4000000 in
set_option maxRecDepth 100000 in
theorem mm_X6_isSign {G : z_Gt} (hSK : z_SK (z_S G)) (l : Launch) (ad : Nat → Nat) (x0 : Int32) (h : z_T) {r0 : Int32} (hv : fX6_isSign x0 = some r0) : z_Mi G (z_S G) l yX6_isSign cX6_isSign 1 (.boolean) rm_X6_isSign 0 0 [.int x0] ad h h r0 := by
  refine z_ofW hSK (by decide) (Nat.le_of_ble_eq_true rfl) ?_
  intro p e s m args below meth c ls hc hr hnm hB hl
  have hx := hc.1.1
  have hb := hc.1.2.1
  have hown := hc.1.2.2.2.1
  have hts := hc.1.2.2.2.2
  replace hc : z_C G (z_S G) ad (z_n h) p m c cX6_isSign 1 s args RX6 meth := hc
  replace hown : s.vm.findClass RX6 = some m.cls := hown
  replace hl : lv_has ls 1 [(0, .int x0)] := hl
  show W p l e rm_X6_isSign s m args below meth c s.heap [] 0 0 (MQ below (z_Qi G ad h (z_n h) s.heap.size r0) args s 0 0 (z_A ad (z_n h) s.heap.size)) (F0 m 0 ls [])
  obtain ⟨rs, kt⟩ : ∃ rs : Int32, rs = r0 := ⟨_, rfl⟩
  generalize hn0 : z_n h = n0 at hc hB ⊢
  have b36 : ∀ (H : Heap) (locs : List Loc) (ls : Array Slot), z_B G ad n0 s h H locs → lv_has ls 1 [] → ∀ w, fX6_isSign_b36 = some w → w = r0 → W p l e rm_X6_isSign s m args below meth c H locs 0 0 (MQ below (z_Qi G ad h n0 s.heap.size r0) args s 0 0 (z_A ad n0 s.heap.size)) (F0 m 36 ls []) := by
    intro H locs ls hB hl w hv kb
    refine lv_iconst (v := (1 : Int32)) hx hb dX6_isSign_36 (by decide) ?_
    refine lv_goto (tgt := 41) hx hb dX6_isSign_37 (by decide) ?_
    replace hv := Option.some.inj hv
    subst hv
    rw [← kb]
    exact z_zret hc hB hr rfl dX6_isSign_41
  rw [← kt] at hv
  refine lv_iload_n hx hb dX6_isSign_0 rfl (lv_at hl 0 rfl) ?_
  refine lv_bipush (v := (59 : Int32)) hx hb dX6_isSign_1 (by decide) ?_
  refine lv_icmp_eq (tgt := 36) hx hb dX6_isSign_3 (by decide) (fun c1 => ?_) (fun c1 => ?_)
  · replace hv := y_br_t hv c1
    exact b36 _ _ _ hB (lv_sub hl [] rfl) _ hv kt
  · replace hv := y_br_f hv c1
    refine lv_iload_n hx hb dX6_isSign_6 rfl (lv_at hl 0 rfl) ?_
    refine lv_bipush (v := (40 : Int32)) hx hb dX6_isSign_7 (by decide) ?_
    refine lv_icmp_eq (tgt := 36) hx hb dX6_isSign_9 (by decide) (fun c2 => ?_) (fun c2 => ?_)
    · replace hv := y_br_t hv c2
      exact b36 _ _ _ hB (lv_sub hl [] rfl) _ hv kt
    · replace hv := y_br_f hv c2
      refine lv_iload_n hx hb dX6_isSign_12 rfl (lv_at hl 0 rfl) ?_
      refine lv_bipush (v := (41 : Int32)) hx hb dX6_isSign_13 (by decide) ?_
      refine lv_icmp_eq (tgt := 36) hx hb dX6_isSign_15 (by decide) (fun c3 => ?_) (fun c3 => ?_)
      · replace hv := y_br_t hv c3
        exact b36 _ _ _ hB (lv_sub hl [] rfl) _ hv kt
      · replace hv := y_br_f hv c3
        refine lv_iload_n hx hb dX6_isSign_18 rfl (lv_at hl 0 rfl) ?_
        refine lv_bipush (v := (60 : Int32)) hx hb dX6_isSign_19 (by decide) ?_
        refine lv_icmp_eq (tgt := 36) hx hb dX6_isSign_21 (by decide) (fun c4 => ?_) (fun c4 => ?_)
        · replace hv := y_br_t hv c4
          exact b36 _ _ _ hB (lv_sub hl [] rfl) _ hv kt
        · replace hv := y_br_f hv c4
          refine lv_iload_n hx hb dX6_isSign_24 rfl (lv_at hl 0 rfl) ?_
          refine lv_bipush (v := (61 : Int32)) hx hb dX6_isSign_25 (by decide) ?_
          refine lv_icmp_eq (tgt := 36) hx hb dX6_isSign_27 (by decide) (fun c5 => ?_) (fun c5 => ?_)
          · replace hv := y_br_t hv c5
            exact b36 _ _ _ hB (lv_sub hl [] rfl) _ hv kt
          · replace hv := y_br_f hv c5
            refine lv_iload_n hx hb dX6_isSign_30 rfl (lv_at hl 0 rfl) ?_
            refine lv_bipush (v := (62 : Int32)) hx hb dX6_isSign_31 (by decide) ?_
            refine lv_icmp_ne (tgt := 40) hx hb dX6_isSign_33 (by decide) (fun c6 => ?_) (fun c6 => ?_)
            · replace hv := y_br_f hv c6
              refine lv_iconst (v := (0 : Int32)) hx hb dX6_isSign_40 (by decide) ?_
              replace hv := Option.some.inj hv
              subst hv
              rw [← kt]
              exact z_zret hc hB hr rfl dX6_isSign_41
            · replace hv := y_br_t hv c6
              exact b36 _ _ _ hB (lv_sub hl [] rfl) _ hv kt
theorem dX6_withLetter_0 : decode cX6_withLetter 0 = .ok (.lload_n 0, 1) := by decide +kernel
theorem dX6_withLetter_1 : decode cX6_withLetter 1 = .ok (.iconst 5, 1) := by decide +kernel
theorem dX6_withLetter_2 : decode cX6_withLetter 2 = .ok (.lshl, 1) := by decide +kernel
theorem dX6_withLetter_3 : decode cX6_withLetter 3 = .ok (.iload_n 2, 1) := by decide +kernel
theorem dX6_withLetter_4 : decode cX6_withLetter 4 = .ok (.bipush 97, 2) := by decide +kernel
theorem dX6_withLetter_6 : decode cX6_withLetter 6 = .ok (.isub, 1) := by decide +kernel
theorem dX6_withLetter_7 : decode cX6_withLetter 7 = .ok (.iconst 1, 1) := by decide +kernel
theorem dX6_withLetter_8 : decode cX6_withLetter 8 = .ok (.iadd, 1) := by decide +kernel
theorem dX6_withLetter_9 : decode cX6_withLetter 9 = .ok (.i2l, 1) := by decide +kernel
theorem dX6_withLetter_10 : decode cX6_withLetter 10 = .ok (.lor, 1) := by decide +kernel
theorem dX6_withLetter_11 : decode cX6_withLetter 11 = .ok (.lreturn, 1) := by decide +kernel
abbrev rm_X6_withLetter : Room := { frames := 0, cells := 0, slots := 0, locals := 0 }
noncomputable def fX6_withLetter (l0 : Int64) (x2 : Int32) : Option (Int64) :=
  some ((l0 <<< (((5 : Int32)).toInt64 &&& 63)) ||| (((x2 - (97 : Int32)) + (1 : Int32))).toInt64)
set_option maxHeartbeats 4000000 in
set_option maxRecDepth 100000 in
theorem mm_X6_withLetter {G : z_Gt} (hSK : z_SK (z_S G)) (l : Launch) (ad : Nat → Nat) (l0 : Int64) (x2 : Int32) (h : z_T) {r0 : Int64} (hv : fX6_withLetter l0 x2 = some r0) : z_Ml G (z_S G) l yX6_withLetter cX6_withLetter 3 (.long) rm_X6_withLetter 0 0 [.long l0, .int x2] ad h h r0 := by
  refine z_ofW hSK (by decide) (Nat.le_of_ble_eq_true rfl) ?_
  intro p e s m args below meth c ls hc hr hnm hB hl
  have hx := hc.1.1
  have hb := hc.1.2.1
  have hown := hc.1.2.2.2.1
  have hts := hc.1.2.2.2.2
  replace hc : z_C G (z_S G) ad (z_n h) p m c cX6_withLetter 3 s args RX6 meth := hc
  replace hown : s.vm.findClass RX6 = some m.cls := hown
  replace hl : lv_has ls 3 [(0, .long l0), (2, .int x2)] := hl
  show W p l e rm_X6_withLetter s m args below meth c s.heap [] 0 0 (MQ below (z_Ql G ad h (z_n h) s.heap.size r0) args s 0 0 (z_A ad (z_n h) s.heap.size)) (F0 m 0 ls [])
  obtain ⟨rs, kt⟩ : ∃ rs : Int64, rs = r0 := ⟨_, rfl⟩
  generalize hn0 : z_n h = n0 at hc hB ⊢
  rw [← kt] at hv
  refine lv_lload_n hx hb dX6_withLetter_0 rfl (lv_at hl 0 rfl) ?_
  refine lv_iconst (v := (5 : Int32)) hx hb dX6_withLetter_1 (by decide) ?_
  refine lv_lshl hx hb dX6_withLetter_2 rfl ?_
  refine lv_iload_n hx hb dX6_withLetter_3 rfl (lv_at hl 1 rfl) ?_
  refine lv_bipush (v := (97 : Int32)) hx hb dX6_withLetter_4 (by decide) ?_
  refine lv_isub hx hb dX6_withLetter_6 ?_
  refine lv_iconst (v := (1 : Int32)) hx hb dX6_withLetter_7 (by decide) ?_
  refine lv_iadd hx hb dX6_withLetter_8 ?_
  refine lv_i2l hx hb dX6_withLetter_9 rfl ?_
  refine lv_lor hx hb dX6_withLetter_10 ?_
  replace hv := Option.some.inj hv
  subst hv
  rw [← kt]
  exact z_lret hc hB hr dX6_withLetter_11
theorem qfX6_60 : Cond.fieldLink RX6 60 "DreamTests$Reader" "kind" "I" ∈ z_ws := List.mem_filter.mpr ⟨List.mem_append_right _ (List.mem_of_getElem? (i := 113) (by decide +kernel)), rfl⟩
theorem qfX6_53 : Cond.fieldLink RX6 53 "DreamTests$Reader" "name" "J" ∈ z_ws := List.mem_filter.mpr ⟨List.mem_append_right _ (List.mem_of_getElem? (i := 116) (by decide +kernel)), rfl⟩
theorem qmX6_85 : Cond.methodLink RX6 85 yX10_named ∈ z_ws := List.mem_filter.mpr ⟨List.mem_append_right _ (List.mem_of_getElem? (i := 373) (by decide +kernel)), rfl⟩
theorem qn_RX10 : Cond.initialized RX10 ∈ z_ws := List.mem_filter.mpr ⟨List.mem_append_right _ (List.mem_of_getElem? (i := 6) (by decide +kernel)), rfl⟩
theorem qc_X10_named : Cond.code yX10_named cX10_named 3 (some (.object "DreamTests$Word")) ∈ z_ws := List.mem_filter.mpr ⟨List.mem_append_right _ (List.mem_of_getElem? (i := 375) (by decide +kernel)), rfl⟩
theorem qs_X10_named : Cond.static yX10_named ∈ z_ws := List.mem_filter.mpr ⟨List.mem_append_right _ (List.mem_of_getElem? (i := 374) (by decide +kernel)), rfl⟩
theorem md_X10_named : z_mdS yX10_named cX10_named 3 (some (.object "DreamTests$Word")) 1 := ⟨⟨qn_RX10, qc_X10_named, ⟨by decide +kernel, by decide +kernel, by decide +kernel⟩⟩, qs_X10_named⟩
theorem qfX6_15 : Cond.fieldLink RX6 15 "DreamTests$Reader" "word" "LDreamTests$Word;" ∈ z_ws := List.mem_filter.mpr ⟨List.mem_append_right _ (List.mem_of_getElem? (i := 118) (by decide +kernel)), rfl⟩
theorem qfX6_57 : Cond.fieldLink RX6 57 "DreamTests$Reader" "place" "I" ∈ z_ws := List.mem_filter.mpr ⟨List.mem_append_right _ (List.mem_of_getElem? (i := 109) (by decide +kernel)), rfl⟩
theorem qmX6_76 : Cond.methodLink RX6 76 Lib.Math.max.name ∈ z_ws := List.mem_filter.mpr ⟨List.mem_append_right _ (List.mem_of_getElem? (i := 367) (by decide +kernel)), rfl⟩
theorem qfX6_28 : Cond.fieldLink RX6 28 "DreamTests$Reader" "ahead" "I" ∈ z_ws := List.mem_filter.mpr ⟨List.mem_append_right _ (List.mem_of_getElem? (i := 108) (by decide +kernel)), rfl⟩
theorem qfX6_20 : Cond.fieldLink RX6 20 "DreamTests$Reader" "tape" "LDreamTests$Bytes;" ∈ z_ws := List.mem_filter.mpr ⟨List.mem_append_right _ (List.mem_of_getElem? (i := 106) (by decide +kernel)), rfl⟩
theorem qmX6_42 : Cond.methodLink RX6 42 yX1_at ∈ z_ws := List.mem_filter.mpr ⟨List.mem_append_right _ (List.mem_of_getElem? (i := 347) (by decide +kernel)), rfl⟩
theorem qn_RX1 : Cond.initialized RX1 ∈ z_ws := List.mem_filter.mpr ⟨List.mem_append_right _ (List.mem_of_getElem? (i := 3) (by decide +kernel)), rfl⟩
theorem qc_X1_at : Cond.code yX1_at cX1_at 2 (some .int) ∈ z_ws := List.mem_filter.mpr ⟨List.mem_append_right _ (List.mem_of_getElem? (i := 350) (by decide +kernel)), rfl⟩
theorem qi_X1_at : Cond.instanceMethod yX1_at ∈ z_ws := List.mem_filter.mpr ⟨List.mem_append_right _ (List.mem_of_getElem? (i := 348) (by decide +kernel)), rfl⟩
theorem qs_X1_at : Cond.selects RX1 yX1_at yX1_at ∈ z_ws := List.mem_filter.mpr ⟨List.mem_append_right _ (List.mem_of_getElem? (i := 349) (by decide +kernel)), rfl⟩
theorem md_X1_at : z_mdV yX1_at cX1_at 2 (some .int) 1 := ⟨⟨qn_RX1, qc_X1_at, ⟨by decide +kernel, by decide +kernel, by decide +kernel⟩⟩, qi_X1_at, qs_X1_at⟩
theorem qmX6_82 : Cond.methodLink RX6 82 yX6_isSign ∈ z_ws := List.mem_filter.mpr ⟨List.mem_append_right _ (List.mem_of_getElem? (i := 370) (by decide +kernel)), rfl⟩
theorem qn_RX6 : Cond.initialized RX6 ∈ z_ws := List.mem_filter.mpr ⟨List.mem_append_right _ (List.mem_of_getElem? (i := 4) (by decide +kernel)), rfl⟩
theorem qc_X6_isSign : Cond.code yX6_isSign cX6_isSign 1 (some .boolean) ∈ z_ws := List.mem_filter.mpr ⟨List.mem_append_right _ (List.mem_of_getElem? (i := 372) (by decide +kernel)), rfl⟩
theorem qs_X6_isSign : Cond.static yX6_isSign ∈ z_ws := List.mem_filter.mpr ⟨List.mem_append_right _ (List.mem_of_getElem? (i := 371) (by decide +kernel)), rfl⟩
theorem md_X6_isSign : z_mdS yX6_isSign cX6_isSign 1 (some .boolean) 1 := ⟨⟨qn_RX6, qc_X6_isSign, ⟨by decide +kernel, by decide +kernel, by decide +kernel⟩⟩, qs_X6_isSign⟩
theorem qmX6_66 : Cond.methodLink RX6 66 yX6_isLetter ∈ z_ws := List.mem_filter.mpr ⟨List.mem_append_right _ (List.mem_of_getElem? (i := 358) (by decide +kernel)), rfl⟩
theorem qc_X6_isLetter : Cond.code yX6_isLetter cX6_isLetter 1 (some .boolean) ∈ z_ws := List.mem_filter.mpr ⟨List.mem_append_right _ (List.mem_of_getElem? (i := 360) (by decide +kernel)), rfl⟩
theorem qs_X6_isLetter : Cond.static yX6_isLetter ∈ z_ws := List.mem_filter.mpr ⟨List.mem_append_right _ (List.mem_of_getElem? (i := 359) (by decide +kernel)), rfl⟩
theorem md_X6_isLetter : z_mdS yX6_isLetter cX6_isLetter 1 (some .boolean) 1 := ⟨⟨qn_RX6, qc_X6_isLetter, ⟨by decide +kernel, by decide +kernel, by decide +kernel⟩⟩, qs_X6_isLetter⟩
theorem qfX6_50 : Cond.fieldLink RX6 50 "DreamTests$Reader" "number" "I" ∈ z_ws := List.mem_filter.mpr ⟨List.mem_append_right _ (List.mem_of_getElem? (i := 115) (by decide +kernel)), rfl⟩
theorem qmX6_72 : Cond.methodLink RX6 72 yX6_withLetter ∈ z_ws := List.mem_filter.mpr ⟨List.mem_append_right _ (List.mem_of_getElem? (i := 364) (by decide +kernel)), rfl⟩
theorem qc_X6_withLetter : Cond.code yX6_withLetter cX6_withLetter 3 (some .long) ∈ z_ws := List.mem_filter.mpr ⟨List.mem_append_right _ (List.mem_of_getElem? (i := 366) (by decide +kernel)), rfl⟩
theorem qs_X6_withLetter : Cond.static yX6_withLetter ∈ z_ws := List.mem_filter.mpr ⟨List.mem_append_right _ (List.mem_of_getElem? (i := 365) (by decide +kernel)), rfl⟩
theorem md_X6_withLetter : z_mdS yX6_withLetter cX6_withLetter 3 (some .long) 2 := ⟨⟨qn_RX6, qc_X6_withLetter, ⟨by decide +kernel, by decide +kernel, by decide +kernel⟩⟩, qs_X6_withLetter⟩
theorem qfX6_37 : Cond.fieldLinkNest RX6 37 "DreamTests$Bytes" "size" "I" "DreamTests" ∈ z_nw := List.mem_filter.mpr ⟨List.mem_of_getElem? (i := 91) (by decide +kernel), rfl⟩
theorem qmX6_69 : Cond.methodLink RX6 69 yX6_isDigit ∈ z_ws := List.mem_filter.mpr ⟨List.mem_append_right _ (List.mem_of_getElem? (i := 361) (by decide +kernel)), rfl⟩
theorem qc_X6_isDigit : Cond.code yX6_isDigit cX6_isDigit 1 (some .boolean) ∈ z_ws := List.mem_filter.mpr ⟨List.mem_append_right _ (List.mem_of_getElem? (i := 363) (by decide +kernel)), rfl⟩
theorem qs_X6_isDigit : Cond.static yX6_isDigit ∈ z_ws := List.mem_filter.mpr ⟨List.mem_append_right _ (List.mem_of_getElem? (i := 362) (by decide +kernel)), rfl⟩
theorem md_X6_isDigit : z_mdS yX6_isDigit cX6_isDigit 1 (some .boolean) 1 := ⟨⟨qn_RX6, qc_X6_isDigit, ⟨by decide +kernel, by decide +kernel, by decide +kernel⟩⟩, qs_X6_isDigit⟩
theorem dX6_readToken_0 : decode cX6_readToken 0 = .ok (.iconst 0, 1) := by decide +kernel
theorem dX6_readToken_1 : decode cX6_readToken 1 = .ok (.istore_n 1, 1) := by decide +kernel
theorem dX6_readToken_2 : decode cX6_readToken 2 = .ok (.iconst 0, 1) := by decide +kernel
theorem dX6_readToken_3 : decode cX6_readToken 3 = .ok (.istore_n 2, 1) := by decide +kernel
theorem dX6_readToken_4 : decode cX6_readToken 4 = .ok (.aload_n 0, 1) := by decide +kernel
theorem dX6_readToken_5 : decode cX6_readToken 5 = .ok (.getfield 57, 3) := by decide +kernel
theorem dX6_readToken_8 : decode cX6_readToken 8 = .ok (.istore_n 3, 1) := by decide +kernel
theorem dX6_readToken_9 : decode cX6_readToken 9 = .ok (.iload_n 3, 1) := by decide +kernel
theorem dX6_readToken_10 : decode cX6_readToken 10 = .ok (.aload_n 0, 1) := by decide +kernel
theorem dX6_readToken_11 : decode cX6_readToken 11 = .ok (.getfield 20, 3) := by decide +kernel
theorem dX6_readToken_14 : decode cX6_readToken 14 = .ok (.getfield 37, 3) := by decide +kernel
theorem dX6_readToken_17 : decode cX6_readToken 17 = .ok (.if_icmp .ge 102, 3) := by decide +kernel
theorem dX6_readToken_20 : decode cX6_readToken 20 = .ok (.aload_n 0, 1) := by decide +kernel
theorem dX6_readToken_21 : decode cX6_readToken 21 = .ok (.getfield 20, 3) := by decide +kernel
theorem dX6_readToken_24 : decode cX6_readToken 24 = .ok (.iload_n 3, 1) := by decide +kernel
theorem dX6_readToken_25 : decode cX6_readToken 25 = .ok (.invokevirtual 42, 3) := by decide +kernel
theorem dX6_readToken_28 : decode cX6_readToken 28 = .ok (.invokestatic 66, 3) := by decide +kernel
theorem dX6_readToken_31 : decode cX6_readToken 31 = .ok (.ifCond .ne 17, 3) := by decide +kernel
theorem dX6_readToken_34 : decode cX6_readToken 34 = .ok (.aload_n 0, 1) := by decide +kernel
theorem dX6_readToken_35 : decode cX6_readToken 35 = .ok (.getfield 20, 3) := by decide +kernel
theorem dX6_readToken_38 : decode cX6_readToken 38 = .ok (.iload_n 3, 1) := by decide +kernel
theorem dX6_readToken_39 : decode cX6_readToken 39 = .ok (.invokevirtual 42, 3) := by decide +kernel
theorem dX6_readToken_42 : decode cX6_readToken 42 = .ok (.invokestatic 69, 3) := by decide +kernel
theorem dX6_readToken_45 : decode cX6_readToken 45 = .ok (.ifCond .eq 74, 3) := by decide +kernel
theorem dX6_readToken_48 : decode cX6_readToken 48 = .ok (.aload_n 0, 1) := by decide +kernel
theorem dX6_readToken_49 : decode cX6_readToken 49 = .ok (.getfield 20, 3) := by decide +kernel
theorem dX6_readToken_52 : decode cX6_readToken 52 = .ok (.iload_n 3, 1) := by decide +kernel
theorem dX6_readToken_53 : decode cX6_readToken 53 = .ok (.invokevirtual 42, 3) := by decide +kernel
theorem dX6_readToken_56 : decode cX6_readToken 56 = .ok (.invokestatic 66, 3) := by decide +kernel
theorem dX6_readToken_59 : decode cX6_readToken 59 = .ok (.ifCond .eq 28, 3) := by decide +kernel
theorem dX6_readToken_62 : decode cX6_readToken 62 = .ok (.iinc 1 1, 3) := by decide +kernel
theorem dX6_readToken_65 : decode cX6_readToken 65 = .ok (.aload_n 0, 1) := by decide +kernel
theorem dX6_readToken_66 : decode cX6_readToken 66 = .ok (.aload_n 0, 1) := by decide +kernel
theorem dX6_readToken_67 : decode cX6_readToken 67 = .ok (.getfield 53, 3) := by decide +kernel
theorem dX6_readToken_70 : decode cX6_readToken 70 = .ok (.aload_n 0, 1) := by decide +kernel
theorem dX6_readToken_71 : decode cX6_readToken 71 = .ok (.getfield 20, 3) := by decide +kernel
theorem dX6_readToken_74 : decode cX6_readToken 74 = .ok (.iload_n 3, 1) := by decide +kernel
theorem dX6_readToken_75 : decode cX6_readToken 75 = .ok (.invokevirtual 42, 3) := by decide +kernel
theorem dX6_readToken_78 : decode cX6_readToken 78 = .ok (.invokestatic 72, 3) := by decide +kernel
theorem dX6_readToken_81 : decode cX6_readToken 81 = .ok (.putfield 53, 3) := by decide +kernel
theorem dX6_readToken_84 : decode cX6_readToken 84 = .ok (.goto 29, 3) := by decide +kernel
theorem dX6_readToken_87 : decode cX6_readToken 87 = .ok (.iinc 2 1, 3) := by decide +kernel
theorem dX6_readToken_90 : decode cX6_readToken 90 = .ok (.aload_n 0, 1) := by decide +kernel
theorem dX6_readToken_91 : decode cX6_readToken 91 = .ok (.bipush 10, 2) := by decide +kernel
theorem dX6_readToken_93 : decode cX6_readToken 93 = .ok (.aload_n 0, 1) := by decide +kernel
theorem dX6_readToken_94 : decode cX6_readToken 94 = .ok (.getfield 50, 3) := by decide +kernel
theorem dX6_readToken_97 : decode cX6_readToken 97 = .ok (.imul, 1) := by decide +kernel
theorem dX6_readToken_98 : decode cX6_readToken 98 = .ok (.aload_n 0, 1) := by decide +kernel
theorem dX6_readToken_99 : decode cX6_readToken 99 = .ok (.getfield 20, 3) := by decide +kernel
theorem dX6_readToken_102 : decode cX6_readToken 102 = .ok (.iload_n 3, 1) := by decide +kernel
theorem dX6_readToken_103 : decode cX6_readToken 103 = .ok (.invokevirtual 42, 3) := by decide +kernel
theorem dX6_readToken_106 : decode cX6_readToken 106 = .ok (.iadd, 1) := by decide +kernel
theorem dX6_readToken_107 : decode cX6_readToken 107 = .ok (.bipush 48, 2) := by decide +kernel
theorem dX6_readToken_109 : decode cX6_readToken 109 = .ok (.isub, 1) := by decide +kernel
theorem dX6_readToken_110 : decode cX6_readToken 110 = .ok (.putfield 50, 3) := by decide +kernel
theorem dX6_readToken_113 : decode cX6_readToken 113 = .ok (.iinc 3 1, 3) := by decide +kernel
theorem dX6_readToken_116 : decode cX6_readToken 116 = .ok (.goto (-107), 3) := by decide +kernel
theorem dX6_readToken_119 : decode cX6_readToken 119 = .ok (.aload_n 0, 1) := by decide +kernel
theorem dX6_readToken_120 : decode cX6_readToken 120 = .ok (.iload_n 3, 1) := by decide +kernel
theorem dX6_readToken_121 : decode cX6_readToken 121 = .ok (.aload_n 0, 1) := by decide +kernel
theorem dX6_readToken_122 : decode cX6_readToken 122 = .ok (.getfield 57, 3) := by decide +kernel
theorem dX6_readToken_125 : decode cX6_readToken 125 = .ok (.iconst 1, 1) := by decide +kernel
theorem dX6_readToken_126 : decode cX6_readToken 126 = .ok (.iadd, 1) := by decide +kernel
theorem dX6_readToken_127 : decode cX6_readToken 127 = .ok (.invokestatic 76, 3) := by decide +kernel
theorem dX6_readToken_130 : decode cX6_readToken 130 = .ok (.putfield 28, 3) := by decide +kernel
theorem dX6_readToken_133 : decode cX6_readToken 133 = .ok (.iload_n 1, 1) := by decide +kernel
theorem dX6_readToken_134 : decode cX6_readToken 134 = .ok (.ifCond .ne 46, 3) := by decide +kernel
theorem dX6_readToken_137 : decode cX6_readToken 137 = .ok (.iload_n 2, 1) := by decide +kernel
theorem dX6_readToken_138 : decode cX6_readToken 138 = .ok (.ifCond .ne 42, 3) := by decide +kernel
theorem dX6_readToken_141 : decode cX6_readToken 141 = .ok (.aload_n 0, 1) := by decide +kernel
theorem dX6_readToken_142 : decode cX6_readToken 142 = .ok (.aload_n 0, 1) := by decide +kernel
theorem dX6_readToken_143 : decode cX6_readToken 143 = .ok (.getfield 20, 3) := by decide +kernel
theorem dX6_readToken_146 : decode cX6_readToken 146 = .ok (.aload_n 0, 1) := by decide +kernel
theorem dX6_readToken_147 : decode cX6_readToken 147 = .ok (.getfield 57, 3) := by decide +kernel
theorem dX6_readToken_150 : decode cX6_readToken 150 = .ok (.invokevirtual 42, 3) := by decide +kernel
theorem dX6_readToken_153 : decode cX6_readToken 153 = .ok (.invokestatic 82, 3) := by decide +kernel
theorem dX6_readToken_156 : decode cX6_readToken 156 = .ok (.ifCond .eq 17, 3) := by decide +kernel
theorem dX6_readToken_159 : decode cX6_readToken 159 = .ok (.aload_n 0, 1) := by decide +kernel
theorem dX6_readToken_160 : decode cX6_readToken 160 = .ok (.getfield 20, 3) := by decide +kernel
theorem dX6_readToken_163 : decode cX6_readToken 163 = .ok (.aload_n 0, 1) := by decide +kernel
theorem dX6_readToken_164 : decode cX6_readToken 164 = .ok (.getfield 57, 3) := by decide +kernel
theorem dX6_readToken_167 : decode cX6_readToken 167 = .ok (.invokevirtual 42, 3) := by decide +kernel
theorem dX6_readToken_170 : decode cX6_readToken 170 = .ok (.goto 4, 3) := by decide +kernel
theorem dX6_readToken_173 : decode cX6_readToken 173 = .ok (.iconst 1, 1) := by decide +kernel
theorem dX6_readToken_174 : decode cX6_readToken 174 = .ok (.putfield 60, 3) := by decide +kernel
theorem dX6_readToken_177 : decode cX6_readToken 177 = .ok (.goto 50, 3) := by decide +kernel
theorem dX6_readToken_180 : decode cX6_readToken 180 = .ok (.iload_n 2, 1) := by decide +kernel
theorem dX6_readToken_181 : decode cX6_readToken 181 = .ok (.ifCond .ne 28, 3) := by decide +kernel
theorem dX6_readToken_184 : decode cX6_readToken 184 = .ok (.iload_n 1, 1) := by decide +kernel
theorem dX6_readToken_185 : decode cX6_readToken 185 = .ok (.bipush 7, 2) := by decide +kernel
theorem dX6_readToken_187 : decode cX6_readToken 187 = .ok (.if_icmp .gt 22, 3) := by decide +kernel
theorem dX6_readToken_190 : decode cX6_readToken 190 = .ok (.aload_n 0, 1) := by decide +kernel
theorem dX6_readToken_191 : decode cX6_readToken 191 = .ok (.iconst 2, 1) := by decide +kernel
theorem dX6_readToken_192 : decode cX6_readToken 192 = .ok (.putfield 60, 3) := by decide +kernel
theorem dX6_readToken_195 : decode cX6_readToken 195 = .ok (.aload_n 0, 1) := by decide +kernel
theorem dX6_readToken_196 : decode cX6_readToken 196 = .ok (.aload_n 0, 1) := by decide +kernel
theorem dX6_readToken_197 : decode cX6_readToken 197 = .ok (.getfield 53, 3) := by decide +kernel
theorem dX6_readToken_200 : decode cX6_readToken 200 = .ok (.invokestatic 85, 3) := by decide +kernel
theorem dX6_readToken_203 : decode cX6_readToken 203 = .ok (.putfield 15, 3) := by decide +kernel
theorem dX6_readToken_206 : decode cX6_readToken 206 = .ok (.goto 21, 3) := by decide +kernel
theorem dX6_readToken_209 : decode cX6_readToken 209 = .ok (.aload_n 0, 1) := by decide +kernel
theorem dX6_readToken_210 : decode cX6_readToken 210 = .ok (.iload_n 1, 1) := by decide +kernel
theorem dX6_readToken_211 : decode cX6_readToken 211 = .ok (.ifCond .ne 12, 3) := by decide +kernel
theorem dX6_readToken_214 : decode cX6_readToken 214 = .ok (.iload_n 2, 1) := by decide +kernel
theorem dX6_readToken_215 : decode cX6_readToken 215 = .ok (.iconst 2, 1) := by decide +kernel
theorem dX6_readToken_216 : decode cX6_readToken 216 = .ok (.if_icmp .gt 7, 3) := by decide +kernel
theorem dX6_readToken_219 : decode cX6_readToken 219 = .ok (.iconst 3, 1) := by decide +kernel
theorem dX6_readToken_220 : decode cX6_readToken 220 = .ok (.goto 4, 3) := by decide +kernel
theorem dX6_readToken_223 : decode cX6_readToken 223 = .ok (.iconst 1, 1) := by decide +kernel
theorem dX6_readToken_224 : decode cX6_readToken 224 = .ok (.putfield 60, 3) := by decide +kernel
theorem dX6_readToken_227 : decode cX6_readToken 227 = .ok (.return_, 1) := by decide +kernel
abbrev rm_X6_readToken : Room := { frames := 1, cells := 0, slots := 0, locals := 25 }
noncomputable def fX6_readToken_b174 (s0 : Nat) (s1 : Int32) (h : z_T) : Option (z_T) :=
  y_gd (z_ok h s0 6) <|
  y_nm (z_sI h s0 4 s1) fun h2 =>
  some h2
noncomputable def fX6_readToken_b224 (s0 : Nat) (s1 : Int32) (h : z_T) : Option (z_T) :=
  y_gd (z_ok h s0 6) <|
  y_nm (z_sI h s0 4 s1) fun h4 =>
  some h4
noncomputable def fX6_readToken_b223 (s0 : Nat) (h : z_T) : Option (z_T) :=
  fX6_readToken_b224 s0 (1 : Int32) h
noncomputable def fX6_readToken_b209 (o0 : Nat) (x1 : Int32) (x2 : Int32) (h : z_T) : Option (z_T) :=
  y_br (x1 = 0)
    (y_br ((2 : Int32) < x2)
      (fX6_readToken_b223 o0 h)
      (fX6_readToken_b224 o0 (3 : Int32) h))
    (fX6_readToken_b223 o0 h)
noncomputable def fX6_readToken_b180 (o0 : Nat) (x1 : Int32) (x2 : Int32) (h : z_T) : Option (z_T) :=
  y_br (x2 = 0)
    (y_br ((7 : Int32) < x1)
      (fX6_readToken_b209 o0 x1 x2 h)
      (y_gd (z_ok h o0 6) <|
      y_nm (z_sI h o0 4 (2 : Int32)) fun h10 =>
      y_bi (fX10_named (z_L h10 o0 6) h10) fun r14 =>
      y_nm (z_sR h10 o0 7 (some r14)) fun h16 =>
      some h16))
    (fX6_readToken_b209 o0 x1 x2 h)
noncomputable def fX6_readToken_b119 (o0 : Nat) (x1 : Int32) (x2 : Int32) (x3 : Int32) (h : z_T) : Option (z_T) :=
  y_gd (z_ok h o0 6) <|
  y_nm (z_sI h o0 2 (if x3 < ((z_I h o0 3) + (1 : Int32)) then ((z_I h o0 3) + (1 : Int32)) else x3)) fun h18 =>
  y_br (x1 = 0)
    (y_br (x2 = 0)
      (y_bi (z_R h18 o0 0) fun o21 =>
      y_gd (z_ok h18 o21 1) <|
      y_bi (fX1_at o21 (z_I h18 o0 3) h18) fun r23 =>
      y_bi (fX6_isSign r23) fun r29 =>
      y_br (r29 = 0)
        (fX6_readToken_b174 o0 (1 : Int32) h18)
        (y_bi (fX1_at o21 (z_I h18 o0 3) h18) fun r35 =>
        fX6_readToken_b174 o0 r35 h18))
      (fX6_readToken_b180 o0 x1 x2 h18))
    (fX6_readToken_b180 o0 x1 x2 h18)
noncomputable def fX6_readToken_b113 (o0 : Nat) (x1 : Int32) (x2 : Int32) (x3 : Int32) (h : z_T) : Option ((Int32 × Int32 × Int32 × z_T) ⊕ (z_T)) :=
  y_nm (x3 + 1) fun v39 =>
  some (.inl (x1, x2, v39, h))
noncomputable def fX6_readToken_b48 (o0 : Nat) (x1 : Int32) (x2 : Int32) (x3 : Int32) (h : z_T) : Option ((Int32 × Int32 × Int32 × z_T) ⊕ (z_T)) :=
  y_gd (z_ok h o0 6) <|
  y_bi (z_R h o0 0) fun o41 =>
  y_gd (z_ok h o41 1) <|
  y_bi (fX1_at o41 x3 h) fun r43 =>
  y_bi (fX6_isLetter r43) fun r49 =>
  y_br (r49 = 0)
    (y_nm (x2 + 1) fun v54 =>
    y_bi (fX1_at o41 x3 h) fun r56 =>
    y_nm (z_sI h o0 5 ((((10 : Int32) * (z_I h o0 5)) + r56) - (48 : Int32))) fun h60 =>
    fX6_readToken_b113 o0 x1 v54 x3 h60)
    (y_nm (x1 + 1) fun v61 =>
    y_bi (fX1_at o41 x3 h) fun r63 =>
    y_bi (fX6_withLetter (z_L h o0 6) r63) fun r69 =>
    y_nm (z_sL h o0 6 r69) fun h72 =>
    fX6_readToken_b113 o0 v61 x2 x3 h72)
noncomputable def fX6_readToken_b9_i (o0 : Nat) (x1 : Int32) (x2 : Int32) (x3 : Int32) (h : z_T) : Option ((Int32 × Int32 × Int32 × z_T) ⊕ (z_T)) :=
  y_gd (z_ok h o0 6) <|
  y_bi (z_R h o0 0) fun o74 =>
  y_gd (z_ok h o74 1) <|
  y_br ((z_I h o74 1) ≤ x3)
    (y_mp <|
    fX6_readToken_b119 o0 x1 x2 x3 h)
    (y_bi (fX1_at o74 x3 h) fun r79 =>
    y_bi (fX6_isLetter r79) fun r84 =>
    y_br (r84 = 0)
      (y_bi (fX1_at o74 x3 h) fun r90 =>
      y_bi (fX6_isDigit r90) fun r95 =>
      y_br (r95 = 0)
        (y_mp <|
        fX6_readToken_b119 o0 x1 x2 x3 h)
        (fX6_readToken_b48 o0 x1 x2 x3 h))
      (fX6_readToken_b48 o0 x1 x2 x3 h))
noncomputable def fX6_readToken_b9 (o0 : Nat) (x1 : Int32) (x2 : Int32) (x3 : Int32) (h : z_T) : Option (z_T) := y_lp (fun q : Int32 × Int32 × Int32 × z_T => fX6_readToken_b9_i o0 q.1 q.2.1 q.2.2.1 q.2.2.2) (x1, x2, x3, h)
noncomputable def fX6_readToken (o0 : Nat) (h : z_T) : Option (z_T) :=
  y_gd (z_ok h o0 6) <|
  y_nm ((z_I h o0 3)) fun v102 =>
  fX6_readToken_b9 o0 (0 : Int32) (0 : Int32) v102 h
set_option maxHeartbeats 4000000 in
set_option maxRecDepth 100000 in
theorem mm_X6_readToken {G : z_Gt} (hSK : z_SK (z_S G)) (l : Launch) (ad : Nat → Nat) (o0 : Nat) (h : z_T) {h9 : z_T} (hv : fX6_readToken o0 h = some h9) : z_Mv G (z_S G) l yX6_readToken cX6_readToken 4 rm_X6_readToken 0 0 [.ref (ad o0)] ad h h9 := by
  refine z_ofW hSK (by decide) (Nat.le_of_ble_eq_true rfl) ?_
  intro p e s m args below meth c ls hc hr hnm hB hl
  have hx := hc.1.1
  have hb := hc.1.2.1
  have hown := hc.1.2.2.2.1
  have hts := hc.1.2.2.2.2
  replace hc : z_C G (z_S G) ad (z_n h) p m c cX6_readToken 4 s args RX6 meth := hc
  replace hown : s.vm.findClass RX6 = some m.cls := hown
  replace hl : lv_has ls 4 [(0, .ref (ad o0))] := hl
  show W p l e rm_X6_readToken s m args below meth c s.heap [] 0 0 (MQ below (z_Qv G ad h9 (z_n h) s.heap.size) args s 0 0 (z_A ad (z_n h) s.heap.size)) (F0 m 0 ls [])
  obtain ⟨rs, kt⟩ : ∃ rs : z_T, rs = h9 := ⟨_, rfl⟩
  generalize hn0 : z_n h = n0 at hc hB ⊢
  have b174 : ∀ (s0 : Nat) (s1 : Int32) (h : z_T) (H : Heap) (locs : List Loc) (ls : Array Slot), z_B G ad n0 s h H locs → lv_has ls 4 [] → ∀ w, fX6_readToken_b174 s0 s1 h = some w → w = h9 → W p l e rm_X6_readToken s m args below meth c H locs 0 0 (MQ below (z_Qv G ad h9 n0 s.heap.size) args s 0 0 (z_A ad n0 s.heap.size)) (F0 m 174 ls [.int s1, .ref (ad s0)]) := by
    intro s0 s1 h H locs ls hB hl w hv kb
    obtain ⟨g1, hv⟩ := y_gd_e hv
    obtain ⟨h2, eh2, hv⟩ := y_nm_e hv
    refine y_putI hc hB 6 4 eh2 g1 (z_l1 hc qfX6_60) dX6_readToken_174 (by decide) (by decide) rfl rfl rfl rfl (fun H locs hB => ?_)
    refine lv_goto (tgt := 227) hx hb dX6_readToken_177 (by decide) ?_
    replace hv := Option.some.inj hv
    subst hv
    rw [← kb]
    exact z_vret hc hB hr dX6_readToken_227
  have b224 : ∀ (s0 : Nat) (s1 : Int32) (h : z_T) (H : Heap) (locs : List Loc) (ls : Array Slot), z_B G ad n0 s h H locs → lv_has ls 4 [] → ∀ w, fX6_readToken_b224 s0 s1 h = some w → w = h9 → W p l e rm_X6_readToken s m args below meth c H locs 0 0 (MQ below (z_Qv G ad h9 n0 s.heap.size) args s 0 0 (z_A ad n0 s.heap.size)) (F0 m 224 ls [.int s1, .ref (ad s0)]) := by
    intro s0 s1 h H locs ls hB hl w hv kb
    obtain ⟨g3, hv⟩ := y_gd_e hv
    obtain ⟨h4, eh4, hv⟩ := y_nm_e hv
    refine y_putI hc hB 6 4 eh4 g3 (z_l1 hc qfX6_60) dX6_readToken_224 (by decide) (by decide) rfl rfl rfl rfl (fun H locs hB => ?_)
    replace hv := Option.some.inj hv
    subst hv
    rw [← kb]
    exact z_vret hc hB hr dX6_readToken_227
  have b223 : ∀ (s0 : Nat) (h : z_T) (H : Heap) (locs : List Loc) (ls : Array Slot), z_B G ad n0 s h H locs → lv_has ls 4 [] → ∀ w, fX6_readToken_b223 s0 h = some w → w = h9 → W p l e rm_X6_readToken s m args below meth c H locs 0 0 (MQ below (z_Qv G ad h9 n0 s.heap.size) args s 0 0 (z_A ad n0 s.heap.size)) (F0 m 223 ls [.ref (ad s0)]) := by
    intro s0 h H locs ls hB hl w hv kb
    refine lv_iconst (v := (1 : Int32)) hx hb dX6_readToken_223 (by decide) ?_
    exact b224 s0 (1 : Int32) h _ _ _ hB (lv_sub hl [] rfl) _ hv kb
  have b209 : ∀ (x1 : Int32) (x2 : Int32) (h : z_T) (H : Heap) (locs : List Loc) (ls : Array Slot), z_B G ad n0 s h H locs → lv_has ls 4 [(0, .ref (ad o0)), (1, .int x1), (2, .int x2)] → ∀ w, fX6_readToken_b209 o0 x1 x2 h = some w → w = h9 → W p l e rm_X6_readToken s m args below meth c H locs 0 0 (MQ below (z_Qv G ad h9 n0 s.heap.size) args s 0 0 (z_A ad n0 s.heap.size)) (F0 m 209 ls []) := by
    intro x1 x2 h H locs ls hB hl w hv kb
    refine lv_aload_n hx hb dX6_readToken_209 rfl (lv_at hl 0 rfl) ?_
    refine lv_iload_n hx hb dX6_readToken_210 rfl (lv_at hl 1 rfl) ?_
    refine lv_if_ne (tgt := 223) hx hb dX6_readToken_211 (by decide) (fun c5 => ?_) (fun c5 => ?_)
    · replace hv := y_br_f hv c5
      exact b223 o0 h _ _ _ hB (lv_sub hl [] rfl) _ hv kb
    · replace hv := y_br_t hv c5
      refine lv_iload_n hx hb dX6_readToken_214 rfl (lv_at hl 2 rfl) ?_
      refine lv_iconst (v := (2 : Int32)) hx hb dX6_readToken_215 (by decide) ?_
      refine lv_icmp_gt (tgt := 223) hx hb dX6_readToken_216 (by decide) (fun c6 => ?_) (fun c6 => ?_)
      · replace hv := y_br_t hv c6
        exact b223 o0 h _ _ _ hB (lv_sub hl [] rfl) _ hv kb
      · replace hv := y_br_f hv c6
        refine lv_iconst (v := (3 : Int32)) hx hb dX6_readToken_219 (by decide) ?_
        refine lv_goto (tgt := 224) hx hb dX6_readToken_220 (by decide) ?_
        exact b224 o0 (3 : Int32) h _ _ _ hB (lv_sub hl [] rfl) _ hv kb
  have b180 : ∀ (x1 : Int32) (x2 : Int32) (h : z_T) (H : Heap) (locs : List Loc) (ls : Array Slot), z_B G ad n0 s h H locs → lv_has ls 4 [(0, .ref (ad o0)), (1, .int x1), (2, .int x2)] → ∀ w, fX6_readToken_b180 o0 x1 x2 h = some w → w = h9 → W p l e rm_X6_readToken s m args below meth c H locs 0 0 (MQ below (z_Qv G ad h9 n0 s.heap.size) args s 0 0 (z_A ad n0 s.heap.size)) (F0 m 180 ls []) := by
    intro x1 x2 h H locs ls hB hl w hv kb
    refine lv_iload_n hx hb dX6_readToken_180 rfl (lv_at hl 2 rfl) ?_
    refine lv_if_ne (tgt := 209) hx hb dX6_readToken_181 (by decide) (fun c7 => ?_) (fun c7 => ?_)
    · replace hv := y_br_f hv c7
      exact b209 x1 x2 h _ _ _ hB (lv_sub hl [0, 1, 2] rfl) _ hv kb
    · replace hv := y_br_t hv c7
      refine lv_iload_n hx hb dX6_readToken_184 rfl (lv_at hl 1 rfl) ?_
      refine lv_bipush (v := (7 : Int32)) hx hb dX6_readToken_185 (by decide) ?_
      refine lv_icmp_gt (tgt := 209) hx hb dX6_readToken_187 (by decide) (fun c8 => ?_) (fun c8 => ?_)
      · replace hv := y_br_t hv c8
        exact b209 x1 x2 h _ _ _ hB (lv_sub hl [0, 1, 2] rfl) _ hv kb
      · replace hv := y_br_f hv c8
        refine lv_aload_n hx hb dX6_readToken_190 rfl (lv_at hl 0 rfl) ?_
        refine lv_iconst (v := (2 : Int32)) hx hb dX6_readToken_191 (by decide) ?_
        obtain ⟨g9, hv⟩ := y_gd_e hv
        obtain ⟨h10, eh10, hv⟩ := y_nm_e hv
        refine y_putI hc hB 6 4 eh10 g9 (z_l1 hc qfX6_60) dX6_readToken_192 (by decide) (by decide) rfl rfl rfl rfl (fun H locs hB => ?_)
        refine lv_aload_n hx hb dX6_readToken_195 rfl (lv_at hl 0 rfl) ?_
        refine lv_aload_n hx hb dX6_readToken_196 rfl (lv_at hl 0 rfl) ?_
        refine z_getL hc hB 6 6 (by rw [eh10]; exact g9) (by decide) (by decide) rfl (z_l1 hc qfX6_53) dX6_readToken_197 ?_
        obtain ⟨r14, c11, hv⟩ := y_bi_e hv
        refine z_thE hc hB (z_runS (Qc := fun sz => z_Qe G ad h10 (z_n h10) sz r14) hc hB (mm_X10_named hSK l ad (z_L h10 o0 6) h10 c11) md_X10_named qmX6_85 rfl rfl ⟨Nat.le_of_ble_eq_true rfl, Nat.le_of_ble_eq_true rfl⟩ rfl hl.1 rfl (Nat.le_of_ble_eq_true rfl) dX6_readToken_200 ⟨Nat.le_of_ble_eq_true rfl, Nat.le_of_ble_eq_true rfl⟩) (fun H locs hB => ?_)
        obtain ⟨h16, eh16, hv⟩ := y_nm_e hv
        refine z_putX hc hB 6 7 eh16 (by rw [eh10]; exact g9) (z_l1 hc qfX6_15) dX6_readToken_203 (by decide) (by decide) rfl rfl (fun _ => rfl) (fun _ => rfl) (fun H locs hB => ?_)
        refine lv_goto (tgt := 227) hx hb dX6_readToken_206 (by decide) ?_
        replace hv := Option.some.inj hv
        subst hv
        rw [← kb]
        exact z_vret hc hB hr dX6_readToken_227
  have b119 : ∀ (x1 : Int32) (x2 : Int32) (x3 : Int32) (h : z_T) (H : Heap) (locs : List Loc) (ls : Array Slot), z_B G ad n0 s h H locs → lv_has ls 4 [(0, .ref (ad o0)), (1, .int x1), (2, .int x2), (3, .int x3)] → ∀ w, fX6_readToken_b119 o0 x1 x2 x3 h = some w → w = h9 → W p l e rm_X6_readToken s m args below meth c H locs 0 0 (MQ below (z_Qv G ad h9 n0 s.heap.size) args s 0 0 (z_A ad n0 s.heap.size)) (F0 m 119 ls []) := by
    intro x1 x2 x3 h H locs ls hB hl w hv kb
    refine lv_aload_n hx hb dX6_readToken_119 rfl (lv_at hl 0 rfl) ?_
    refine lv_iload_n hx hb dX6_readToken_120 rfl (lv_at hl 3 rfl) ?_
    refine lv_aload_n hx hb dX6_readToken_121 rfl (lv_at hl 0 rfl) ?_
    obtain ⟨g17, hv⟩ := y_gd_e hv
    refine z_getI hc hB 6 3 g17 (by decide) (by decide) rfl (z_l1 hc qfX6_57) dX6_readToken_122 ?_
    refine lv_iconst (v := (1 : Int32)) hx hb dX6_readToken_125 (by decide) ?_
    refine lv_iadd hx hb dX6_readToken_126 ?_
    refine va_mmax hx hb (hc.1.2.2.1.trans hl.1.symm) hown (hts _ qmX6_76) (hts _ q_max_st) (hts _ q_mathIni) (hts _ q_max_cd) (Nat.le_of_ble_eq_true rfl) (Nat.le_of_ble_eq_true rfl) (Nat.le_of_ble_eq_true rfl) (Nat.le_of_ble_eq_true rfl) dX6_readToken_127 ?_
    obtain ⟨h18, eh18, hv⟩ := y_nm_e hv
    refine y_putI hc hB 6 2 eh18 g17 (z_l1 hc qfX6_28) dX6_readToken_130 (by decide) (by decide) rfl rfl rfl rfl (fun H locs hB => ?_)
    refine lv_iload_n hx hb dX6_readToken_133 rfl (lv_at hl 1 rfl) ?_
    refine lv_if_ne (tgt := 180) hx hb dX6_readToken_134 (by decide) (fun c19 => ?_) (fun c19 => ?_)
    · replace hv := y_br_f hv c19
      exact b180 x1 x2 h18 _ _ _ hB (lv_sub hl [0, 1, 2] rfl) _ hv kb
    · replace hv := y_br_t hv c19
      refine lv_iload_n hx hb dX6_readToken_137 rfl (lv_at hl 2 rfl) ?_
      refine lv_if_ne (tgt := 180) hx hb dX6_readToken_138 (by decide) (fun c20 => ?_) (fun c20 => ?_)
      · replace hv := y_br_f hv c20
        exact b180 x1 x2 h18 _ _ _ hB (lv_sub hl [0, 1, 2] rfl) _ hv kb
      · replace hv := y_br_t hv c20
        refine lv_aload_n hx hb dX6_readToken_141 rfl (lv_at hl 0 rfl) ?_
        refine lv_aload_n hx hb dX6_readToken_142 rfl (lv_at hl 0 rfl) ?_
        obtain ⟨o21, eo21, hv⟩ := y_bi_e hv
        refine z_getR hc hB 6 0 (by rw [eh18]; exact g17) eo21 (by decide) (by decide) rfl (z_l1 hc qfX6_20) dX6_readToken_143 ?_
        refine lv_aload_n hx hb dX6_readToken_146 rfl (lv_at hl 0 rfl) ?_
        refine z_getI hc hB 6 3 (by rw [eh18]; exact g17) (by decide) (by decide) rfl (z_l1 hc qfX6_57) dX6_readToken_147 ?_
        obtain ⟨g27, hv⟩ := y_gd_e hv
        obtain ⟨r23, c22, hv⟩ := y_bi_e hv
        refine z_thI hc hB (z_runV hc hB 1 (mm_X1_at hSK l ad o21 (z_I h18 o0 3) h18 c22) md_X1_at qmX6_42 g27 (by decide) rfl rfl rfl ⟨Nat.le_of_ble_eq_true rfl, Nat.le_of_ble_eq_true rfl⟩ rfl hl.1 rfl (Nat.le_of_ble_eq_true rfl) dX6_readToken_150 ⟨Nat.le_of_ble_eq_true rfl, Nat.le_of_ble_eq_true rfl⟩) (fun H locs hB => ?_)
        obtain ⟨r29, c28, hv⟩ := y_bi_e hv
        refine z_thI hc hB (z_runS hc hB (mm_X6_isSign hSK l ad r23 h18 c28) md_X6_isSign qmX6_82 rfl rfl ⟨Nat.le_of_ble_eq_true rfl, Nat.le_of_ble_eq_true rfl⟩ rfl hl.1 rfl (Nat.le_of_ble_eq_true rfl) dX6_readToken_153 ⟨Nat.le_of_ble_eq_true rfl, Nat.le_of_ble_eq_true rfl⟩) (fun H locs hB => ?_)
        refine lv_if_eq (tgt := 173) hx hb dX6_readToken_156 (by decide) (fun c33 => ?_) (fun c33 => ?_)
        · replace hv := y_br_t hv c33
          refine lv_iconst (v := (1 : Int32)) hx hb dX6_readToken_173 (by decide) ?_
          exact b174 o0 (1 : Int32) h18 _ _ _ hB (lv_sub hl [] rfl) _ hv kb
        · replace hv := y_br_f hv c33
          refine lv_aload_n hx hb dX6_readToken_159 rfl (lv_at hl 0 rfl) ?_
          refine z_getR hc hB 6 0 (by rw [eh18]; exact g17) eo21 (by decide) (by decide) rfl (z_l1 hc qfX6_20) dX6_readToken_160 ?_
          refine lv_aload_n hx hb dX6_readToken_163 rfl (lv_at hl 0 rfl) ?_
          refine z_getI hc hB 6 3 (by rw [eh18]; exact g17) (by decide) (by decide) rfl (z_l1 hc qfX6_57) dX6_readToken_164 ?_
          obtain ⟨r35, c34, hv⟩ := y_bi_e hv
          refine z_thI hc hB (z_runV hc hB 1 (mm_X1_at hSK l ad o21 (z_I h18 o0 3) h18 c34) md_X1_at qmX6_42 g27 (by decide) rfl rfl rfl ⟨Nat.le_of_ble_eq_true rfl, Nat.le_of_ble_eq_true rfl⟩ rfl hl.1 rfl (Nat.le_of_ble_eq_true rfl) dX6_readToken_167 ⟨Nat.le_of_ble_eq_true rfl, Nat.le_of_ble_eq_true rfl⟩) (fun H locs hB => ?_)
          refine lv_goto (tgt := 174) hx hb dX6_readToken_170 (by decide) ?_
          exact b174 o0 r35 h18 _ _ _ hB (lv_sub hl [] rfl) _ hv kb
  have L9 : ∀ (nn9 : Nat) (x1 : Int32) (x2 : Int32) (x3 : Int32) (h : z_T) (H : Heap) (locs : List Loc) (ls : Array Slot), z_B G ad n0 s h H locs → lv_has ls 4 [(0, .ref (ad o0)), (1, .int x1), (2, .int x2), (3, .int x3)] → ∀ vv9, y_lpN (fun q : Int32 × Int32 × Int32 × z_T => fX6_readToken_b9_i o0 q.1 q.2.1 q.2.2.1 q.2.2.2) nn9 (x1, x2, x3, h) = some vv9 → vv9 = h9 → W p l e rm_X6_readToken s m args below meth c H locs 0 0 (MQ below (z_Qv G ad h9 n0 s.heap.size) args s 0 0 (z_A ad n0 s.heap.size)) (F0 m 9 ls []) := by
    intro nn9
    induction nn9 with
    | zero => intro x1 x2 x3 h H locs ls hB hl vv9 hv kv9; exact absurd hv (fun q => y_lpN_0 q)
    | succ nn9 ih9 =>
      intro x1 x2 x3 h H locs ls hB hl vv9 hv kv9
      obtain ⟨w, hq, kw9⟩ := y_lpN_e hv
      clear hv
      have hv : fX6_readToken_b9_i o0 x1 x2 x3 h = some w := hq
      clear hq
      have b113 : ∀ (x1 : Int32) (x2 : Int32) (x3 : Int32) (h : z_T) (H : Heap) (locs : List Loc) (ls : Array Slot), z_B G ad n0 s h H locs → lv_has ls 4 [(0, .ref (ad o0)), (1, .int x1), (2, .int x2), (3, .int x3)] → ∀ w, fX6_readToken_b113 o0 x1 x2 x3 h = some w → y_lq (fun q : Int32 × Int32 × Int32 × z_T => fX6_readToken_b9_i o0 q.1 q.2.1 q.2.2.1 q.2.2.2) nn9 vv9 w → W p l e rm_X6_readToken s m args below meth c H locs 0 0 (MQ below (z_Qv G ad h9 n0 s.heap.size) args s 0 0 (z_A ad n0 s.heap.size)) (F0 m 113 ls []) := by
        intro x1 x2 x3 h H locs ls hB hl w hv kw9
        obtain ⟨v39, ev39, hv⟩ := y_nm_e hv
        refine lv_iinc (v := v39) (lv' := [(3, .int v39), (0, .ref (ad o0)), (1, .int x1), (2, .int x2)]) hx hb dX6_readToken_113 hl (k := 3) rfl (by rw [ev39]; rfl) (by decide) rfl (fun ls hl => ?_)
        refine lv_goto (tgt := 9) hx hb dX6_readToken_116 (by decide) ?_
        replace hv := Option.some.inj hv
        subst hv
        exact ih9 x1 x2 v39 h _ _ _ hB (lv_sub hl [1, 2, 3, 0] rfl) _ kw9 kv9
      have b48 : ∀ (x1 : Int32) (x2 : Int32) (x3 : Int32) (h : z_T) (H : Heap) (locs : List Loc) (ls : Array Slot), z_B G ad n0 s h H locs → lv_has ls 4 [(0, .ref (ad o0)), (1, .int x1), (2, .int x2), (3, .int x3)] → ∀ w, fX6_readToken_b48 o0 x1 x2 x3 h = some w → y_lq (fun q : Int32 × Int32 × Int32 × z_T => fX6_readToken_b9_i o0 q.1 q.2.1 q.2.2.1 q.2.2.2) nn9 vv9 w → W p l e rm_X6_readToken s m args below meth c H locs 0 0 (MQ below (z_Qv G ad h9 n0 s.heap.size) args s 0 0 (z_A ad n0 s.heap.size)) (F0 m 48 ls []) := by
        intro x1 x2 x3 h H locs ls hB hl w hv kw9
        refine lv_aload_n hx hb dX6_readToken_48 rfl (lv_at hl 0 rfl) ?_
        obtain ⟨g40, hv⟩ := y_gd_e hv
        obtain ⟨o41, eo41, hv⟩ := y_bi_e hv
        refine z_getR hc hB 6 0 g40 eo41 (by decide) (by decide) rfl (z_l1 hc qfX6_20) dX6_readToken_49 ?_
        refine lv_iload_n hx hb dX6_readToken_52 rfl (lv_at hl 3 rfl) ?_
        obtain ⟨g47, hv⟩ := y_gd_e hv
        obtain ⟨r43, c42, hv⟩ := y_bi_e hv
        refine z_thI hc hB (z_runV hc hB 1 (mm_X1_at hSK l ad o41 x3 h c42) md_X1_at qmX6_42 g47 (by decide) rfl rfl rfl ⟨Nat.le_of_ble_eq_true rfl, Nat.le_of_ble_eq_true rfl⟩ rfl hl.1 rfl (Nat.le_of_ble_eq_true rfl) dX6_readToken_53 ⟨Nat.le_of_ble_eq_true rfl, Nat.le_of_ble_eq_true rfl⟩) (fun H locs hB => ?_)
        obtain ⟨r49, c48, hv⟩ := y_bi_e hv
        refine z_thI hc hB (z_runS hc hB (mm_X6_isLetter hSK l ad r43 h c48) md_X6_isLetter qmX6_66 rfl rfl ⟨Nat.le_of_ble_eq_true rfl, Nat.le_of_ble_eq_true rfl⟩ rfl hl.1 rfl (Nat.le_of_ble_eq_true rfl) dX6_readToken_56 ⟨Nat.le_of_ble_eq_true rfl, Nat.le_of_ble_eq_true rfl⟩) (fun H locs hB => ?_)
        refine lv_if_eq (tgt := 87) hx hb dX6_readToken_59 (by decide) (fun c53 => ?_) (fun c53 => ?_)
        · replace hv := y_br_t hv c53
          obtain ⟨v54, ev54, hv⟩ := y_nm_e hv
          refine lv_iinc (v := v54) (lv' := [(2, .int v54), (0, .ref (ad o0)), (1, .int x1), (3, .int x3)]) hx hb dX6_readToken_87 hl (k := 2) rfl (by rw [ev54]; rfl) (by decide) rfl (fun ls hl => ?_)
          refine lv_aload_n hx hb dX6_readToken_90 rfl (lv_at hl 1 rfl) ?_
          refine lv_bipush (v := (10 : Int32)) hx hb dX6_readToken_91 (by decide) ?_
          refine lv_aload_n hx hb dX6_readToken_93 rfl (lv_at hl 1 rfl) ?_
          refine z_getI hc hB 6 5 g40 (by decide) (by decide) rfl (z_l1 hc qfX6_50) dX6_readToken_94 ?_
          refine lv_imul hx hb dX6_readToken_97 ?_
          refine lv_aload_n hx hb dX6_readToken_98 rfl (lv_at hl 1 rfl) ?_
          refine z_getR hc hB 6 0 g40 eo41 (by decide) (by decide) rfl (z_l1 hc qfX6_20) dX6_readToken_99 ?_
          refine lv_iload_n hx hb dX6_readToken_102 rfl (lv_at hl 3 rfl) ?_
          obtain ⟨r56, c55, hv⟩ := y_bi_e hv
          refine z_thI hc hB (z_runV hc hB 1 (mm_X1_at hSK l ad o41 x3 h c55) md_X1_at qmX6_42 g47 (by decide) rfl rfl rfl ⟨Nat.le_of_ble_eq_true rfl, Nat.le_of_ble_eq_true rfl⟩ rfl hl.1 rfl (Nat.le_of_ble_eq_true rfl) dX6_readToken_103 ⟨Nat.le_of_ble_eq_true rfl, Nat.le_of_ble_eq_true rfl⟩) (fun H locs hB => ?_)
          refine lv_iadd hx hb dX6_readToken_106 ?_
          refine lv_bipush (v := (48 : Int32)) hx hb dX6_readToken_107 (by decide) ?_
          refine lv_isub hx hb dX6_readToken_109 ?_
          obtain ⟨h60, eh60, hv⟩ := y_nm_e hv
          refine y_putI hc hB 6 5 eh60 g40 (z_l1 hc qfX6_50) dX6_readToken_110 (by decide) (by decide) rfl rfl rfl rfl (fun H locs hB => ?_)
          exact b113 x1 v54 x3 h60 _ _ _ hB (lv_sub hl [1, 2, 0, 3] rfl) _ hv kw9
        · replace hv := y_br_f hv c53
          obtain ⟨v61, ev61, hv⟩ := y_nm_e hv
          refine lv_iinc (v := v61) (lv' := [(1, .int v61), (0, .ref (ad o0)), (2, .int x2), (3, .int x3)]) hx hb dX6_readToken_62 hl (k := 1) rfl (by rw [ev61]; rfl) (by decide) rfl (fun ls hl => ?_)
          refine lv_aload_n hx hb dX6_readToken_65 rfl (lv_at hl 1 rfl) ?_
          refine lv_aload_n hx hb dX6_readToken_66 rfl (lv_at hl 1 rfl) ?_
          refine z_getL hc hB 6 6 g40 (by decide) (by decide) rfl (z_l1 hc qfX6_53) dX6_readToken_67 ?_
          refine lv_aload_n hx hb dX6_readToken_70 rfl (lv_at hl 1 rfl) ?_
          refine z_getR hc hB 6 0 g40 eo41 (by decide) (by decide) rfl (z_l1 hc qfX6_20) dX6_readToken_71 ?_
          refine lv_iload_n hx hb dX6_readToken_74 rfl (lv_at hl 3 rfl) ?_
          obtain ⟨r63, c62, hv⟩ := y_bi_e hv
          refine z_thI hc hB (z_runV hc hB 1 (mm_X1_at hSK l ad o41 x3 h c62) md_X1_at qmX6_42 g47 (by decide) rfl rfl rfl ⟨Nat.le_of_ble_eq_true rfl, Nat.le_of_ble_eq_true rfl⟩ rfl hl.1 rfl (Nat.le_of_ble_eq_true rfl) dX6_readToken_75 ⟨Nat.le_of_ble_eq_true rfl, Nat.le_of_ble_eq_true rfl⟩) (fun H locs hB => ?_)
          obtain ⟨r69, c67, hv⟩ := y_bi_e hv
          refine z_thL hc hB (z_runS hc hB (mm_X6_withLetter hSK l ad (z_L h o0 6) r63 h c67) md_X6_withLetter qmX6_72 rfl rfl ⟨Nat.le_of_ble_eq_true rfl, Nat.le_of_ble_eq_true rfl⟩ rfl hl.1 rfl (Nat.le_of_ble_eq_true rfl) dX6_readToken_78 ⟨Nat.le_of_ble_eq_true rfl, Nat.le_of_ble_eq_true rfl⟩) (fun H locs hB => ?_)
          obtain ⟨h72, eh72, hv⟩ := y_nm_e hv
          refine y_putL hc hB 6 6 eh72 g40 (z_l1 hc qfX6_53) dX6_readToken_81 (by decide) (by decide) rfl rfl rfl rfl (fun H locs hB => ?_)
          refine lv_goto (tgt := 113) hx hb dX6_readToken_84 (by decide) ?_
          exact b113 v61 x2 x3 h72 _ _ _ hB (lv_sub hl [1, 0, 2, 3] rfl) _ hv kw9
      refine lv_iload_n hx hb dX6_readToken_9 rfl (lv_at hl 3 rfl) ?_
      refine lv_aload_n hx hb dX6_readToken_10 rfl (lv_at hl 0 rfl) ?_
      obtain ⟨g73, hv⟩ := y_gd_e hv
      obtain ⟨o74, eo74, hv⟩ := y_bi_e hv
      refine z_getR hc hB 6 0 g73 eo74 (by decide) (by decide) rfl (z_l1 hc qfX6_20) dX6_readToken_11 ?_
      obtain ⟨g75, hv⟩ := y_gd_e hv
      refine z_getI hc hB 1 1 g75 (by decide) (by decide) rfl (z_l2 hc qfX6_37) dX6_readToken_14 ?_
      refine lv_icmp_ge (tgt := 119) hx hb dX6_readToken_17 (by decide) (fun c76 => ?_) (fun c76 => ?_)
      · replace hv := y_br_t hv c76
        obtain ⟨t77, hq, ew⟩ := y_mp_e hv
        clear hv; subst ew
        replace kw9 : t77 = _ := kw9
        subst kw9
        have hv := hq
        clear hq
        exact b119 x1 x2 x3 h _ _ _ hB (lv_sub hl [0, 1, 2, 3] rfl) _ hv kv9
      · replace hv := y_br_f hv c76
        refine lv_aload_n hx hb dX6_readToken_20 rfl (lv_at hl 0 rfl) ?_
        refine z_getR hc hB 6 0 g73 eo74 (by decide) (by decide) rfl (z_l1 hc qfX6_20) dX6_readToken_21 ?_
        refine lv_iload_n hx hb dX6_readToken_24 rfl (lv_at hl 3 rfl) ?_
        obtain ⟨r79, c78, hv⟩ := y_bi_e hv
        refine z_thI hc hB (z_runV hc hB 1 (mm_X1_at hSK l ad o74 x3 h c78) md_X1_at qmX6_42 g75 (by decide) rfl rfl rfl ⟨Nat.le_of_ble_eq_true rfl, Nat.le_of_ble_eq_true rfl⟩ rfl hl.1 rfl (Nat.le_of_ble_eq_true rfl) dX6_readToken_25 ⟨Nat.le_of_ble_eq_true rfl, Nat.le_of_ble_eq_true rfl⟩) (fun H locs hB => ?_)
        obtain ⟨r84, c83, hv⟩ := y_bi_e hv
        refine z_thI hc hB (z_runS hc hB (mm_X6_isLetter hSK l ad r79 h c83) md_X6_isLetter qmX6_66 rfl rfl ⟨Nat.le_of_ble_eq_true rfl, Nat.le_of_ble_eq_true rfl⟩ rfl hl.1 rfl (Nat.le_of_ble_eq_true rfl) dX6_readToken_28 ⟨Nat.le_of_ble_eq_true rfl, Nat.le_of_ble_eq_true rfl⟩) (fun H locs hB => ?_)
        refine lv_if_ne (tgt := 48) hx hb dX6_readToken_31 (by decide) (fun c88 => ?_) (fun c88 => ?_)
        · replace hv := y_br_f hv c88
          exact b48 x1 x2 x3 h _ _ _ hB (lv_sub hl [0, 1, 2, 3] rfl) _ hv kw9
        · replace hv := y_br_t hv c88
          refine lv_aload_n hx hb dX6_readToken_34 rfl (lv_at hl 0 rfl) ?_
          refine z_getR hc hB 6 0 g73 eo74 (by decide) (by decide) rfl (z_l1 hc qfX6_20) dX6_readToken_35 ?_
          refine lv_iload_n hx hb dX6_readToken_38 rfl (lv_at hl 3 rfl) ?_
          obtain ⟨r90, c89, hv⟩ := y_bi_e hv
          refine z_thI hc hB (z_runV hc hB 1 (mm_X1_at hSK l ad o74 x3 h c89) md_X1_at qmX6_42 g75 (by decide) rfl rfl rfl ⟨Nat.le_of_ble_eq_true rfl, Nat.le_of_ble_eq_true rfl⟩ rfl hl.1 rfl (Nat.le_of_ble_eq_true rfl) dX6_readToken_39 ⟨Nat.le_of_ble_eq_true rfl, Nat.le_of_ble_eq_true rfl⟩) (fun H locs hB => ?_)
          obtain ⟨r95, c94, hv⟩ := y_bi_e hv
          refine z_thI hc hB (z_runS hc hB (mm_X6_isDigit hSK l ad r90 h c94) md_X6_isDigit qmX6_69 rfl rfl ⟨Nat.le_of_ble_eq_true rfl, Nat.le_of_ble_eq_true rfl⟩ rfl hl.1 rfl (Nat.le_of_ble_eq_true rfl) dX6_readToken_42 ⟨Nat.le_of_ble_eq_true rfl, Nat.le_of_ble_eq_true rfl⟩) (fun H locs hB => ?_)
          refine lv_if_eq (tgt := 119) hx hb dX6_readToken_45 (by decide) (fun c99 => ?_) (fun c99 => ?_)
          · replace hv := y_br_t hv c99
            obtain ⟨t100, hq, ew⟩ := y_mp_e hv
            clear hv; subst ew
            replace kw9 : t100 = _ := kw9
            subst kw9
            have hv := hq
            clear hq
            exact b119 x1 x2 x3 h _ _ _ hB (lv_sub hl [0, 1, 2, 3] rfl) _ hv kv9
          · replace hv := y_br_f hv c99
            exact b48 x1 x2 x3 h _ _ _ hB (lv_sub hl [0, 1, 2, 3] rfl) _ hv kw9
  rw [← kt] at hv
  refine lv_iconst (v := (0 : Int32)) hx hb dX6_readToken_0 (by decide) ?_
  refine lv_istore_n (lv' := [(1, .int (0 : Int32)), (0, .ref (ad o0))]) hx hb dX6_readToken_1 rfl hl (by decide) rfl (fun ls hl => ?_)
  refine lv_iconst (v := (0 : Int32)) hx hb dX6_readToken_2 (by decide) ?_
  refine lv_istore_n (lv' := [(2, .int (0 : Int32)), (1, .int (0 : Int32)), (0, .ref (ad o0))]) hx hb dX6_readToken_3 rfl hl (by decide) rfl (fun ls hl => ?_)
  refine lv_aload_n hx hb dX6_readToken_4 rfl (lv_at hl 2 rfl) ?_
  obtain ⟨g101, hv⟩ := y_gd_e hv
  refine z_getI hc hB 6 3 g101 (by decide) (by decide) rfl (z_l1 hc qfX6_57) dX6_readToken_5 ?_
  obtain ⟨v102, ev102, hv⟩ := y_nm_e hv
  rw [← ev102]
  refine lv_istore_n (lv' := [(3, .int v102), (2, .int (0 : Int32)), (1, .int (0 : Int32)), (0, .ref (ad o0))]) hx hb dX6_readToken_8 rfl hl (by decide) rfl (fun ls hl => ?_)
  obtain ⟨n, hv⟩ := y_lp_e hv
  exact L9 n (0 : Int32) (0 : Int32) v102 h _ _ _ hB (lv_sub hl [3, 2, 1, 0] rfl) _ hv kt
theorem qmX6_63 : Cond.methodLink RX6 63 yX6_readToken ∈ z_ws := List.mem_filter.mpr ⟨List.mem_append_right _ (List.mem_of_getElem? (i := 354) (by decide +kernel)), rfl⟩
theorem qc_X6_readToken : Cond.code yX6_readToken cX6_readToken 4 none ∈ z_ws := List.mem_filter.mpr ⟨List.mem_append_right _ (List.mem_of_getElem? (i := 357) (by decide +kernel)), rfl⟩
theorem qi_X6_readToken : Cond.instanceMethod yX6_readToken ∈ z_ws := List.mem_filter.mpr ⟨List.mem_append_right _ (List.mem_of_getElem? (i := 356) (by decide +kernel)), rfl⟩
theorem qs_X6_readToken : Cond.selects RX6 yX6_readToken yX6_readToken ∈ z_ws := List.mem_filter.mpr ⟨List.mem_append_left _ (List.mem_of_getElem? (i := 0) (by decide +kernel)), rfl⟩
theorem md_X6_readToken : z_mdV yX6_readToken cX6_readToken 4 none 0 := ⟨⟨qn_RX6, qc_X6_readToken, ⟨by decide +kernel, by decide +kernel, by decide +kernel⟩⟩, qi_X6_readToken, qs_X6_readToken⟩
theorem qfX6_9 : Cond.fieldLink RX6 9 "DreamTests$Word" "NAME" "LDreamTests$Word;" ∈ z_ws := List.mem_filter.mpr ⟨List.mem_append_right _ (List.mem_of_getElem? (i := 104) (by decide +kernel)), rfl⟩
theorem qfX6_24 : Cond.fieldLink RX6 24 "DreamTests$Reader" "most" "I" ∈ z_ws := List.mem_filter.mpr ⟨List.mem_append_right _ (List.mem_of_getElem? (i := 107) (by decide +kernel)), rfl⟩
theorem qmX6_46 : Cond.methodLink RX6 46 yX6_isBlank ∈ z_ws := List.mem_filter.mpr ⟨List.mem_append_right _ (List.mem_of_getElem? (i := 351) (by decide +kernel)), rfl⟩
theorem qc_X6_isBlank : Cond.code yX6_isBlank cX6_isBlank 1 (some .boolean) ∈ z_ws := List.mem_filter.mpr ⟨List.mem_append_right _ (List.mem_of_getElem? (i := 353) (by decide +kernel)), rfl⟩
theorem qs_X6_isBlank : Cond.static yX6_isBlank ∈ z_ws := List.mem_filter.mpr ⟨List.mem_append_right _ (List.mem_of_getElem? (i := 352) (by decide +kernel)), rfl⟩
theorem md_X6_isBlank : z_mdS yX6_isBlank cX6_isBlank 1 (some .boolean) 1 := ⟨⟨qn_RX6, qc_X6_isBlank, ⟨by decide +kernel, by decide +kernel, by decide +kernel⟩⟩, qs_X6_isBlank⟩
theorem dX6_advance_0 : decode cX6_advance 0 = .ok (.aload_n 0, 1) := by decide +kernel
theorem dX6_advance_1 : decode cX6_advance 1 = .ok (.getfield 28, 3) := by decide +kernel
theorem dX6_advance_4 : decode cX6_advance 4 = .ok (.istore_n 1, 1) := by decide +kernel
theorem dX6_advance_5 : decode cX6_advance 5 = .ok (.iload_n 1, 1) := by decide +kernel
theorem dX6_advance_6 : decode cX6_advance 6 = .ok (.aload_n 0, 1) := by decide +kernel
theorem dX6_advance_7 : decode cX6_advance 7 = .ok (.getfield 20, 3) := by decide +kernel
theorem dX6_advance_10 : decode cX6_advance 10 = .ok (.getfield 37, 3) := by decide +kernel
theorem dX6_advance_13 : decode cX6_advance 13 = .ok (.if_icmp .ge 23, 3) := by decide +kernel
theorem dX6_advance_16 : decode cX6_advance 16 = .ok (.aload_n 0, 1) := by decide +kernel
theorem dX6_advance_17 : decode cX6_advance 17 = .ok (.getfield 20, 3) := by decide +kernel
theorem dX6_advance_20 : decode cX6_advance 20 = .ok (.iload_n 1, 1) := by decide +kernel
theorem dX6_advance_21 : decode cX6_advance 21 = .ok (.invokevirtual 42, 3) := by decide +kernel
theorem dX6_advance_24 : decode cX6_advance 24 = .ok (.invokestatic 46, 3) := by decide +kernel
theorem dX6_advance_27 : decode cX6_advance 27 = .ok (.ifCond .eq 9, 3) := by decide +kernel
theorem dX6_advance_30 : decode cX6_advance 30 = .ok (.iinc 1 1, 3) := by decide +kernel
theorem dX6_advance_33 : decode cX6_advance 33 = .ok (.goto (-28), 3) := by decide +kernel
theorem dX6_advance_36 : decode cX6_advance 36 = .ok (.aload_n 0, 1) := by decide +kernel
theorem dX6_advance_37 : decode cX6_advance 37 = .ok (.iconst 0, 1) := by decide +kernel
theorem dX6_advance_38 : decode cX6_advance 38 = .ok (.putfield 50, 3) := by decide +kernel
theorem dX6_advance_41 : decode cX6_advance 41 = .ok (.aload_n 0, 1) := by decide +kernel
theorem dX6_advance_42 : decode cX6_advance 42 = .ok (.lconst 0, 1) := by decide +kernel
theorem dX6_advance_43 : decode cX6_advance 43 = .ok (.putfield 53, 3) := by decide +kernel
theorem dX6_advance_46 : decode cX6_advance 46 = .ok (.aload_n 0, 1) := by decide +kernel
theorem dX6_advance_47 : decode cX6_advance 47 = .ok (.getstatic 9, 3) := by decide +kernel
theorem dX6_advance_50 : decode cX6_advance 50 = .ok (.putfield 15, 3) := by decide +kernel
theorem dX6_advance_53 : decode cX6_advance 53 = .ok (.aload_n 0, 1) := by decide +kernel
theorem dX6_advance_54 : decode cX6_advance 54 = .ok (.getfield 20, 3) := by decide +kernel
theorem dX6_advance_57 : decode cX6_advance 57 = .ok (.getfield 37, 3) := by decide +kernel
theorem dX6_advance_60 : decode cX6_advance 60 = .ok (.aload_n 0, 1) := by decide +kernel
theorem dX6_advance_61 : decode cX6_advance 61 = .ok (.getfield 24, 3) := by decide +kernel
theorem dX6_advance_64 : decode cX6_advance 64 = .ok (.if_icmp .le 27, 3) := by decide +kernel
theorem dX6_advance_67 : decode cX6_advance 67 = .ok (.iload_n 1, 1) := by decide +kernel
theorem dX6_advance_68 : decode cX6_advance 68 = .ok (.aload_n 0, 1) := by decide +kernel
theorem dX6_advance_69 : decode cX6_advance 69 = .ok (.getfield 24, 3) := by decide +kernel
theorem dX6_advance_72 : decode cX6_advance 72 = .ok (.if_icmp .lt 19, 3) := by decide +kernel
theorem dX6_advance_75 : decode cX6_advance 75 = .ok (.aload_n 0, 1) := by decide +kernel
theorem dX6_advance_76 : decode cX6_advance 76 = .ok (.aload_n 0, 1) := by decide +kernel
theorem dX6_advance_77 : decode cX6_advance 77 = .ok (.getfield 24, 3) := by decide +kernel
theorem dX6_advance_80 : decode cX6_advance 80 = .ok (.putfield 57, 3) := by decide +kernel
theorem dX6_advance_83 : decode cX6_advance 83 = .ok (.aload_n 0, 1) := by decide +kernel
theorem dX6_advance_84 : decode cX6_advance 84 = .ok (.iconst 1, 1) := by decide +kernel
theorem dX6_advance_85 : decode cX6_advance 85 = .ok (.putfield 60, 3) := by decide +kernel
theorem dX6_advance_88 : decode cX6_advance 88 = .ok (.goto 42, 3) := by decide +kernel
theorem dX6_advance_91 : decode cX6_advance 91 = .ok (.iload_n 1, 1) := by decide +kernel
theorem dX6_advance_92 : decode cX6_advance 92 = .ok (.aload_n 0, 1) := by decide +kernel
theorem dX6_advance_93 : decode cX6_advance 93 = .ok (.getfield 20, 3) := by decide +kernel
theorem dX6_advance_96 : decode cX6_advance 96 = .ok (.getfield 37, 3) := by decide +kernel
theorem dX6_advance_99 : decode cX6_advance 99 = .ok (.if_icmp .lt 22, 3) := by decide +kernel
theorem dX6_advance_102 : decode cX6_advance 102 = .ok (.aload_n 0, 1) := by decide +kernel
theorem dX6_advance_103 : decode cX6_advance 103 = .ok (.aload_n 0, 1) := by decide +kernel
theorem dX6_advance_104 : decode cX6_advance 104 = .ok (.getfield 20, 3) := by decide +kernel
theorem dX6_advance_107 : decode cX6_advance 107 = .ok (.getfield 37, 3) := by decide +kernel
theorem dX6_advance_110 : decode cX6_advance 110 = .ok (.putfield 57, 3) := by decide +kernel
theorem dX6_advance_113 : decode cX6_advance 113 = .ok (.aload_n 0, 1) := by decide +kernel
theorem dX6_advance_114 : decode cX6_advance 114 = .ok (.iconst 0, 1) := by decide +kernel
theorem dX6_advance_115 : decode cX6_advance 115 = .ok (.putfield 60, 3) := by decide +kernel
theorem dX6_advance_118 : decode cX6_advance 118 = .ok (.goto 12, 3) := by decide +kernel
theorem dX6_advance_121 : decode cX6_advance 121 = .ok (.aload_n 0, 1) := by decide +kernel
theorem dX6_advance_122 : decode cX6_advance 122 = .ok (.iload_n 1, 1) := by decide +kernel
theorem dX6_advance_123 : decode cX6_advance 123 = .ok (.putfield 57, 3) := by decide +kernel
theorem dX6_advance_126 : decode cX6_advance 126 = .ok (.aload_n 0, 1) := by decide +kernel
theorem dX6_advance_127 : decode cX6_advance 127 = .ok (.invokevirtual 63, 3) := by decide +kernel
theorem dX6_advance_130 : decode cX6_advance 130 = .ok (.return_, 1) := by decide +kernel
abbrev rm_X6_advance : Room := { frames := 2, cells := 0, slots := 0, locals := 48 }
noncomputable def fX6_advance_b91 (o0 : Nat) (x1 : Int32) (h : z_T) : Option (z_T) :=
  y_gd (z_ok h o0 6) <|
  y_bi (z_R h o0 0) fun o2 =>
  y_gd (z_ok h o2 1) <|
  y_br (x1 < (z_I h o2 1))
    (y_nm (z_sI h o0 3 x1) fun h5 =>
    y_bi (fX6_readToken o0 h5) fun h7 =>
    some h7)
    (y_nm (z_sI h o0 3 (z_I h o2 1)) fun h8 =>
    y_nm (z_sI h8 o0 4 (0 : Int32)) fun h9 =>
    some h9)
noncomputable def fX6_advance_b36 (o0 : Nat) (x1 : Int32) (h : z_T) : Option (z_T) :=
  y_gd (z_ok h o0 6) <|
  y_nm (z_sI h o0 5 (0 : Int32)) fun h11 =>
  y_nm (z_sL h11 o0 6 (0 : Int64)) fun h12 =>
  y_nm (z_sR h12 o0 7 (some 0)) fun h13 =>
  y_bi (z_R h13 o0 0) fun o14 =>
  y_gd (z_ok h13 o14 1) <|
  y_br ((z_I h13 o14 1) ≤ (z_I h13 o0 1))
    (fX6_advance_b91 o0 x1 h13)
    (y_br (x1 < (z_I h13 o0 1))
      (fX6_advance_b91 o0 x1 h13)
      (y_nm (z_sI h13 o0 3 (z_I h13 o0 1)) fun h18 =>
      y_nm (z_sI h18 o0 4 (1 : Int32)) fun h19 =>
      some h19))
noncomputable def fX6_advance_b5_i (o0 : Nat) (h : z_T) (x1 : Int32) : Option ((Int32) ⊕ (z_T)) :=
  y_gd (z_ok h o0 6) <|
  y_bi (z_R h o0 0) fun o21 =>
  y_gd (z_ok h o21 1) <|
  y_br ((z_I h o21 1) ≤ x1)
    (y_mp <|
    fX6_advance_b36 o0 x1 h)
    (y_bi (fX1_at o21 x1 h) fun r26 =>
    y_bi (fX6_isBlank r26) fun r31 =>
    y_br (r31 = 0)
      (y_mp <|
      fX6_advance_b36 o0 x1 h)
      (y_nm (x1 + 1) fun v37 =>
      some (.inl (v37))))
noncomputable def fX6_advance_b5 (o0 : Nat) (x1 : Int32) (h : z_T) : Option (z_T) := y_lp (fun q : Int32 => fX6_advance_b5_i o0 h q) (x1)
noncomputable def fX6_advance (o0 : Nat) (h : z_T) : Option (z_T) :=
  y_gd (z_ok h o0 6) <|
  y_nm ((z_I h o0 2)) fun v39 =>
  fX6_advance_b5 o0 v39 h
set_option maxHeartbeats 4000000 in
set_option maxRecDepth 100000 in
theorem mm_X6_advance {G : z_Gt} (hSK : z_SK (z_S G)) (l : Launch) (ad : Nat → Nat) (o0 : Nat) (h : z_T) {h9 : z_T} (hv : fX6_advance o0 h = some h9) : z_Mv G (z_S G) l yX6_advance cX6_advance 2 rm_X6_advance 0 0 [.ref (ad o0)] ad h h9 := by
  refine z_ofW hSK (by decide) (Nat.le_of_ble_eq_true rfl) ?_
  intro p e s m args below meth c ls hc hr hnm hB hl
  have hx := hc.1.1
  have hb := hc.1.2.1
  have hown := hc.1.2.2.2.1
  have hts := hc.1.2.2.2.2
  replace hc : z_C G (z_S G) ad (z_n h) p m c cX6_advance 2 s args RX6 meth := hc
  replace hown : s.vm.findClass RX6 = some m.cls := hown
  replace hl : lv_has ls 2 [(0, .ref (ad o0))] := hl
  show W p l e rm_X6_advance s m args below meth c s.heap [] 0 0 (MQ below (z_Qv G ad h9 (z_n h) s.heap.size) args s 0 0 (z_A ad (z_n h) s.heap.size)) (F0 m 0 ls [])
  obtain ⟨rs, kt⟩ : ∃ rs : z_T, rs = h9 := ⟨_, rfl⟩
  generalize hn0 : z_n h = n0 at hc hB ⊢
  have b91 : ∀ (x1 : Int32) (h : z_T) (H : Heap) (locs : List Loc) (ls : Array Slot), z_B G ad n0 s h H locs → lv_has ls 2 [(0, .ref (ad o0)), (1, .int x1)] → ∀ w, fX6_advance_b91 o0 x1 h = some w → w = h9 → W p l e rm_X6_advance s m args below meth c H locs 0 0 (MQ below (z_Qv G ad h9 n0 s.heap.size) args s 0 0 (z_A ad n0 s.heap.size)) (F0 m 91 ls []) := by
    intro x1 h H locs ls hB hl w hv kb
    refine lv_iload_n hx hb dX6_advance_91 rfl (lv_at hl 1 rfl) ?_
    refine lv_aload_n hx hb dX6_advance_92 rfl (lv_at hl 0 rfl) ?_
    obtain ⟨g1, hv⟩ := y_gd_e hv
    obtain ⟨o2, eo2, hv⟩ := y_bi_e hv
    refine z_getR hc hB 6 0 g1 eo2 (by decide) (by decide) rfl (z_l1 hc qfX6_20) dX6_advance_93 ?_
    obtain ⟨g3, hv⟩ := y_gd_e hv
    refine z_getI hc hB 1 1 g3 (by decide) (by decide) rfl (z_l2 hc qfX6_37) dX6_advance_96 ?_
    refine lv_icmp_lt (tgt := 121) hx hb dX6_advance_99 (by decide) (fun c4 => ?_) (fun c4 => ?_)
    · replace hv := y_br_t hv c4
      refine lv_aload_n hx hb dX6_advance_121 rfl (lv_at hl 0 rfl) ?_
      refine lv_iload_n hx hb dX6_advance_122 rfl (lv_at hl 1 rfl) ?_
      obtain ⟨h5, eh5, hv⟩ := y_nm_e hv
      refine y_putI hc hB 6 3 eh5 g1 (z_l1 hc qfX6_57) dX6_advance_123 (by decide) (by decide) rfl rfl rfl rfl (fun H locs hB => ?_)
      refine lv_aload_n hx hb dX6_advance_126 rfl (lv_at hl 0 rfl) ?_
      obtain ⟨h7, c6, hv⟩ := y_bi_e hv
      refine z_thV hc hB (z_runV hc hB 6 (mm_X6_readToken hSK l ad o0 h5 c6) md_X6_readToken qmX6_63 (by rw [eh5]; exact g1) (by decide) rfl rfl rfl ⟨Nat.le_of_ble_eq_true rfl, Nat.le_of_ble_eq_true rfl⟩ rfl hl.1 rfl (Nat.le_of_ble_eq_true rfl) dX6_advance_127 ⟨Nat.le_of_ble_eq_true rfl, Nat.le_of_ble_eq_true rfl⟩) (fun H locs hB => ?_)
      replace hv := Option.some.inj hv
      subst hv
      rw [← kb]
      exact z_vret hc hB hr dX6_advance_130
    · replace hv := y_br_f hv c4
      refine lv_aload_n hx hb dX6_advance_102 rfl (lv_at hl 0 rfl) ?_
      refine lv_aload_n hx hb dX6_advance_103 rfl (lv_at hl 0 rfl) ?_
      refine z_getR hc hB 6 0 g1 eo2 (by decide) (by decide) rfl (z_l1 hc qfX6_20) dX6_advance_104 ?_
      refine z_getI hc hB 1 1 g3 (by decide) (by decide) rfl (z_l2 hc qfX6_37) dX6_advance_107 ?_
      obtain ⟨h8, eh8, hv⟩ := y_nm_e hv
      refine y_putI hc hB 6 3 eh8 g1 (z_l1 hc qfX6_57) dX6_advance_110 (by decide) (by decide) rfl rfl rfl rfl (fun H locs hB => ?_)
      refine lv_aload_n hx hb dX6_advance_113 rfl (lv_at hl 0 rfl) ?_
      refine lv_iconst (v := (0 : Int32)) hx hb dX6_advance_114 (by decide) ?_
      obtain ⟨h9, eh9, hv⟩ := y_nm_e hv
      refine y_putI hc hB 6 4 eh9 (by rw [eh8]; exact g1) (z_l1 hc qfX6_60) dX6_advance_115 (by decide) (by decide) rfl rfl rfl rfl (fun H locs hB => ?_)
      refine lv_goto (tgt := 130) hx hb dX6_advance_118 (by decide) ?_
      replace hv := Option.some.inj hv
      subst hv
      rw [← kb]
      exact z_vret hc hB hr dX6_advance_130
  have b36 : ∀ (x1 : Int32) (h : z_T) (H : Heap) (locs : List Loc) (ls : Array Slot), z_B G ad n0 s h H locs → lv_has ls 2 [(0, .ref (ad o0)), (1, .int x1)] → ∀ w, fX6_advance_b36 o0 x1 h = some w → w = h9 → W p l e rm_X6_advance s m args below meth c H locs 0 0 (MQ below (z_Qv G ad h9 n0 s.heap.size) args s 0 0 (z_A ad n0 s.heap.size)) (F0 m 36 ls []) := by
    intro x1 h H locs ls hB hl w hv kb
    refine lv_aload_n hx hb dX6_advance_36 rfl (lv_at hl 0 rfl) ?_
    refine lv_iconst (v := (0 : Int32)) hx hb dX6_advance_37 (by decide) ?_
    obtain ⟨g10, hv⟩ := y_gd_e hv
    obtain ⟨h11, eh11, hv⟩ := y_nm_e hv
    refine y_putI hc hB 6 5 eh11 g10 (z_l1 hc qfX6_50) dX6_advance_38 (by decide) (by decide) rfl rfl rfl rfl (fun H locs hB => ?_)
    refine lv_aload_n hx hb dX6_advance_41 rfl (lv_at hl 0 rfl) ?_
    refine lv_lconst (v := (0 : Int64)) hx hb dX6_advance_42 (by decide) ?_
    obtain ⟨h12, eh12, hv⟩ := y_nm_e hv
    refine y_putL hc hB 6 6 eh12 (by rw [eh11]; exact g10) (z_l1 hc qfX6_53) dX6_advance_43 (by decide) (by decide) rfl rfl rfl rfl (fun H locs hB => ?_)
    refine lv_aload_n hx hb dX6_advance_46 rfl (lv_at hl 0 rfl) ?_
    refine z_gets hc hB (hc.2.1.2.2.2.1.1 0 (by decide)) qfX6_9 dX6_advance_47 ?_
    obtain ⟨h13, eh13, hv⟩ := y_nm_e hv
    refine z_putX hc hB 6 7 eh13 (by rw [eh12, eh11]; exact g10) (z_l1 hc qfX6_15) dX6_advance_50 (by decide) (by decide) rfl rfl (fun _ => rfl) (fun _ => rfl) (fun H locs hB => ?_)
    refine lv_aload_n hx hb dX6_advance_53 rfl (lv_at hl 0 rfl) ?_
    obtain ⟨o14, eo14, hv⟩ := y_bi_e hv
    refine z_getR hc hB 6 0 (by rw [eh13, eh12, eh11]; exact g10) eo14 (by decide) (by decide) rfl (z_l1 hc qfX6_20) dX6_advance_54 ?_
    obtain ⟨g15, hv⟩ := y_gd_e hv
    refine z_getI hc hB 1 1 g15 (by decide) (by decide) rfl (z_l2 hc qfX6_37) dX6_advance_57 ?_
    refine lv_aload_n hx hb dX6_advance_60 rfl (lv_at hl 0 rfl) ?_
    refine z_getI hc hB 6 1 (by rw [eh13, eh12, eh11]; exact g10) (by decide) (by decide) rfl (z_l1 hc qfX6_24) dX6_advance_61 ?_
    refine lv_icmp_le (tgt := 91) hx hb dX6_advance_64 (by decide) (fun c16 => ?_) (fun c16 => ?_)
    · replace hv := y_br_t hv c16
      exact b91 x1 h13 _ _ _ hB (lv_sub hl [0, 1] rfl) _ hv kb
    · replace hv := y_br_f hv c16
      refine lv_iload_n hx hb dX6_advance_67 rfl (lv_at hl 1 rfl) ?_
      refine lv_aload_n hx hb dX6_advance_68 rfl (lv_at hl 0 rfl) ?_
      refine z_getI hc hB 6 1 (by rw [eh13, eh12, eh11]; exact g10) (by decide) (by decide) rfl (z_l1 hc qfX6_24) dX6_advance_69 ?_
      refine lv_icmp_lt (tgt := 91) hx hb dX6_advance_72 (by decide) (fun c17 => ?_) (fun c17 => ?_)
      · replace hv := y_br_t hv c17
        exact b91 x1 h13 _ _ _ hB (lv_sub hl [0, 1] rfl) _ hv kb
      · replace hv := y_br_f hv c17
        refine lv_aload_n hx hb dX6_advance_75 rfl (lv_at hl 0 rfl) ?_
        refine lv_aload_n hx hb dX6_advance_76 rfl (lv_at hl 0 rfl) ?_
        refine z_getI hc hB 6 1 (by rw [eh13, eh12, eh11]; exact g10) (by decide) (by decide) rfl (z_l1 hc qfX6_24) dX6_advance_77 ?_
        obtain ⟨h18, eh18, hv⟩ := y_nm_e hv
        refine y_putI hc hB 6 3 eh18 (by rw [eh13, eh12, eh11]; exact g10) (z_l1 hc qfX6_57) dX6_advance_80 (by decide) (by decide) rfl rfl rfl rfl (fun H locs hB => ?_)
        refine lv_aload_n hx hb dX6_advance_83 rfl (lv_at hl 0 rfl) ?_
        refine lv_iconst (v := (1 : Int32)) hx hb dX6_advance_84 (by decide) ?_
        obtain ⟨h19, eh19, hv⟩ := y_nm_e hv
        refine y_putI hc hB 6 4 eh19 (by rw [eh18, eh13, eh12, eh11]; exact g10) (z_l1 hc qfX6_60) dX6_advance_85 (by decide) (by decide) rfl rfl rfl rfl (fun H locs hB => ?_)
        refine lv_goto (tgt := 130) hx hb dX6_advance_88 (by decide) ?_
        replace hv := Option.some.inj hv
        subst hv
        rw [← kb]
        exact z_vret hc hB hr dX6_advance_130
  have L5 : ∀ (h : z_T) (nn5 : Nat) (x1 : Int32) (H : Heap) (locs : List Loc) (ls : Array Slot), z_B G ad n0 s h H locs → lv_has ls 2 [(0, .ref (ad o0)), (1, .int x1)] → ∀ vv5, y_lpN (fun q : Int32 => fX6_advance_b5_i o0 h q) nn5 (x1) = some vv5 → vv5 = h9 → W p l e rm_X6_advance s m args below meth c H locs 0 0 (MQ below (z_Qv G ad h9 n0 s.heap.size) args s 0 0 (z_A ad n0 s.heap.size)) (F0 m 5 ls []) := by
    intro h nn5
    induction nn5 with
    | zero => intro x1 H locs ls hB hl vv5 hv kv5; exact absurd hv (fun q => y_lpN_0 q)
    | succ nn5 ih5 =>
      intro x1 H locs ls hB hl vv5 hv kv5
      obtain ⟨w, hq, kw5⟩ := y_lpN_e hv
      clear hv
      have hv : fX6_advance_b5_i o0 h x1 = some w := hq
      clear hq
      refine lv_iload_n hx hb dX6_advance_5 rfl (lv_at hl 1 rfl) ?_
      refine lv_aload_n hx hb dX6_advance_6 rfl (lv_at hl 0 rfl) ?_
      obtain ⟨g20, hv⟩ := y_gd_e hv
      obtain ⟨o21, eo21, hv⟩ := y_bi_e hv
      refine z_getR hc hB 6 0 g20 eo21 (by decide) (by decide) rfl (z_l1 hc qfX6_20) dX6_advance_7 ?_
      obtain ⟨g22, hv⟩ := y_gd_e hv
      refine z_getI hc hB 1 1 g22 (by decide) (by decide) rfl (z_l2 hc qfX6_37) dX6_advance_10 ?_
      refine lv_icmp_ge (tgt := 36) hx hb dX6_advance_13 (by decide) (fun c23 => ?_) (fun c23 => ?_)
      · replace hv := y_br_t hv c23
        obtain ⟨t24, hq, ew⟩ := y_mp_e hv
        clear hv; subst ew
        replace kw5 : t24 = _ := kw5
        subst kw5
        have hv := hq
        clear hq
        exact b36 x1 h _ _ _ hB (lv_sub hl [0, 1] rfl) _ hv kv5
      · replace hv := y_br_f hv c23
        refine lv_aload_n hx hb dX6_advance_16 rfl (lv_at hl 0 rfl) ?_
        refine z_getR hc hB 6 0 g20 eo21 (by decide) (by decide) rfl (z_l1 hc qfX6_20) dX6_advance_17 ?_
        refine lv_iload_n hx hb dX6_advance_20 rfl (lv_at hl 1 rfl) ?_
        obtain ⟨r26, c25, hv⟩ := y_bi_e hv
        refine z_thI hc hB (z_runV hc hB 1 (mm_X1_at hSK l ad o21 x1 h c25) md_X1_at qmX6_42 g22 (by decide) rfl rfl rfl ⟨Nat.le_of_ble_eq_true rfl, Nat.le_of_ble_eq_true rfl⟩ rfl hl.1 rfl (Nat.le_of_ble_eq_true rfl) dX6_advance_21 ⟨Nat.le_of_ble_eq_true rfl, Nat.le_of_ble_eq_true rfl⟩) (fun H locs hB => ?_)
        obtain ⟨r31, c30, hv⟩ := y_bi_e hv
        refine z_thI hc hB (z_runS hc hB (mm_X6_isBlank hSK l ad r26 h c30) md_X6_isBlank qmX6_46 rfl rfl ⟨Nat.le_of_ble_eq_true rfl, Nat.le_of_ble_eq_true rfl⟩ rfl hl.1 rfl (Nat.le_of_ble_eq_true rfl) dX6_advance_24 ⟨Nat.le_of_ble_eq_true rfl, Nat.le_of_ble_eq_true rfl⟩) (fun H locs hB => ?_)
        refine lv_if_eq (tgt := 36) hx hb dX6_advance_27 (by decide) (fun c35 => ?_) (fun c35 => ?_)
        · replace hv := y_br_t hv c35
          obtain ⟨t36, hq, ew⟩ := y_mp_e hv
          clear hv; subst ew
          replace kw5 : t36 = _ := kw5
          subst kw5
          have hv := hq
          clear hq
          exact b36 x1 h _ _ _ hB (lv_sub hl [0, 1] rfl) _ hv kv5
        · replace hv := y_br_f hv c35
          obtain ⟨v37, ev37, hv⟩ := y_nm_e hv
          refine lv_iinc (v := v37) (lv' := [(1, .int v37), (0, .ref (ad o0))]) hx hb dX6_advance_30 hl (k := 1) rfl (by rw [ev37]; rfl) (by decide) rfl (fun ls hl => ?_)
          refine lv_goto (tgt := 5) hx hb dX6_advance_33 (by decide) ?_
          replace hv := Option.some.inj hv
          subst hv
          exact ih5 v37 _ _ _ hB (lv_sub hl [1, 0] rfl) _ kw5 kv5
  rw [← kt] at hv
  refine lv_aload_n hx hb dX6_advance_0 rfl (lv_at hl 0 rfl) ?_
  obtain ⟨g38, hv⟩ := y_gd_e hv
  refine z_getI hc hB 6 2 g38 (by decide) (by decide) rfl (z_l1 hc qfX6_28) dX6_advance_1 ?_
  obtain ⟨v39, ev39, hv⟩ := y_nm_e hv
  rw [← ev39]
  refine lv_istore_n (lv' := [(1, .int v39), (0, .ref (ad o0))]) hx hb dX6_advance_4 rfl hl (by decide) rfl (fun ls hl => ?_)
  obtain ⟨n, hv⟩ := y_lp_e hv
  exact L5 h n v39 _ _ _ hB (lv_sub hl [1, 0] rfl) _ hv kt
theorem qfX6_31 : Cond.fieldLink RX6 31 "DreamTests$Reader" "fault" "I" ∈ z_ws := List.mem_filter.mpr ⟨List.mem_append_right _ (List.mem_of_getElem? (i := 121) (by decide +kernel)), rfl⟩
theorem dX6_fail_0 : decode cX6_fail 0 = .ok (.aload_n 0, 1) := by decide +kernel
theorem dX6_fail_1 : decode cX6_fail 1 = .ok (.iload_n 1, 1) := by decide +kernel
theorem dX6_fail_2 : decode cX6_fail 2 = .ok (.putfield 31, 3) := by decide +kernel
theorem dX6_fail_5 : decode cX6_fail 5 = .ok (.iconst 0, 1) := by decide +kernel
theorem dX6_fail_6 : decode cX6_fail 6 = .ok (.ireturn, 1) := by decide +kernel
abbrev rm_X6_fail : Room := { frames := 0, cells := 0, slots := 0, locals := 0 }
noncomputable def fX6_fail (o0 : Nat) (x1 : Int32) (h : z_T) : Option (Int32 × z_T) :=
  y_gd (z_ok h o0 6) <|
  y_nm (z_sI h o0 8 x1) fun h2 =>
  some ((0 : Int32), h2)
set_option maxHeartbeats 4000000 in
set_option maxRecDepth 100000 in
theorem mm_X6_fail {G : z_Gt} (hSK : z_SK (z_S G)) (l : Launch) (ad : Nat → Nat) (o0 : Nat) (x1 : Int32) (h : z_T) {r0 : Int32} {h9 : z_T} (hv : fX6_fail o0 x1 h = some (r0, h9)) : z_Mi G (z_S G) l yX6_fail cX6_fail 2 (.boolean) rm_X6_fail 0 0 [.ref (ad o0), .int x1] ad h h9 r0 := by
  refine z_ofW hSK (by decide) (Nat.le_of_ble_eq_true rfl) ?_
  intro p e s m args below meth c ls hc hr hnm hB hl
  have hx := hc.1.1
  have hb := hc.1.2.1
  have hown := hc.1.2.2.2.1
  have hts := hc.1.2.2.2.2
  replace hc : z_C G (z_S G) ad (z_n h) p m c cX6_fail 2 s args RX6 meth := hc
  replace hown : s.vm.findClass RX6 = some m.cls := hown
  replace hl : lv_has ls 2 [(0, .ref (ad o0)), (1, .int x1)] := hl
  show W p l e rm_X6_fail s m args below meth c s.heap [] 0 0 (MQ below (z_Qi G ad h9 (z_n h) s.heap.size r0) args s 0 0 (z_A ad (z_n h) s.heap.size)) (F0 m 0 ls [])
  obtain ⟨rs, kt⟩ : ∃ rs : Int32 × z_T, rs = (r0, h9) := ⟨_, rfl⟩
  generalize hn0 : z_n h = n0 at hc hB ⊢
  rw [← kt] at hv
  refine lv_aload_n hx hb dX6_fail_0 rfl (lv_at hl 0 rfl) ?_
  refine lv_iload_n hx hb dX6_fail_1 rfl (lv_at hl 1 rfl) ?_
  obtain ⟨g1, hv⟩ := y_gd_e hv
  obtain ⟨h2, eh2, hv⟩ := y_nm_e hv
  refine y_putI hc hB 6 8 eh2 g1 (z_l1 hc qfX6_31) dX6_fail_2 (by decide) (by decide) rfl rfl rfl rfl (fun H locs hB => ?_)
  refine lv_iconst (v := (0 : Int32)) hx hb dX6_fail_5 (by decide) ?_
  replace hv := Option.some.inj hv
  subst hv
  obtain ⟨e1, e2⟩ := y_pr kt
  rw [← e1, ← e2]
  exact z_zret hc hB hr rfl dX6_fail_6
theorem qfX0_79 : Cond.fieldLink RX0 79 "DreamTests$Book" "tests" "I" ∈ z_ws := List.mem_filter.mpr ⟨List.mem_append_right _ (List.mem_of_getElem? (i := 43) (by decide +kernel)), rfl⟩
theorem dX0_testNamed_0 : decode cX0_testNamed 0 = .ok (.iconst 0, 1) := by decide +kernel
theorem dX0_testNamed_1 : decode cX0_testNamed 1 = .ok (.istore_n 3, 1) := by decide +kernel
theorem dX0_testNamed_2 : decode cX0_testNamed 2 = .ok (.iload_n 3, 1) := by decide +kernel
theorem dX0_testNamed_3 : decode cX0_testNamed 3 = .ok (.aload_n 0, 1) := by decide +kernel
theorem dX0_testNamed_4 : decode cX0_testNamed 4 = .ok (.getfield 79, 3) := by decide +kernel
theorem dX0_testNamed_7 : decode cX0_testNamed 7 = .ok (.if_icmp .ge 28, 3) := by decide +kernel
theorem dX0_testNamed_10 : decode cX0_testNamed 10 = .ok (.iload_n 3, 1) := by decide +kernel
theorem dX0_testNamed_11 : decode cX0_testNamed 11 = .ok (.bipush 8, 2) := by decide +kernel
theorem dX0_testNamed_13 : decode cX0_testNamed 13 = .ok (.if_icmp .ge 22, 3) := by decide +kernel
theorem dX0_testNamed_16 : decode cX0_testNamed 16 = .ok (.aload_n 0, 1) := by decide +kernel
theorem dX0_testNamed_17 : decode cX0_testNamed 17 = .ok (.getfield 15, 3) := by decide +kernel
theorem dX0_testNamed_20 : decode cX0_testNamed 20 = .ok (.iload_n 3, 1) := by decide +kernel
theorem dX0_testNamed_21 : decode cX0_testNamed 21 = .ok (.laload, 1) := by decide +kernel
theorem dX0_testNamed_22 : decode cX0_testNamed 22 = .ok (.lload_n 1, 1) := by decide +kernel
theorem dX0_testNamed_23 : decode cX0_testNamed 23 = .ok (.lcmp, 1) := by decide +kernel
theorem dX0_testNamed_24 : decode cX0_testNamed 24 = .ok (.ifCond .ne 5, 3) := by decide +kernel
theorem dX0_testNamed_27 : decode cX0_testNamed 27 = .ok (.iload_n 3, 1) := by decide +kernel
theorem dX0_testNamed_28 : decode cX0_testNamed 28 = .ok (.ireturn, 1) := by decide +kernel
theorem dX0_testNamed_29 : decode cX0_testNamed 29 = .ok (.iinc 3 1, 3) := by decide +kernel
theorem dX0_testNamed_32 : decode cX0_testNamed 32 = .ok (.goto (-30), 3) := by decide +kernel
theorem dX0_testNamed_35 : decode cX0_testNamed 35 = .ok (.iconst (-1), 1) := by decide +kernel
theorem dX0_testNamed_36 : decode cX0_testNamed 36 = .ok (.ireturn, 1) := by decide +kernel
abbrev rm_X0_testNamed : Room := { frames := 0, cells := 0, slots := 0, locals := 0 }
noncomputable def fX0_testNamed_b2_i (o0 : Nat) (l1 : Int64) (h : z_T) (x3 : Int32) : Option ((Int32) ⊕ (Int32)) :=
  y_gd (z_ok h o0 0) <|
  y_br ((z_I h o0 1) ≤ x3)
    (y_mp <|
    some (-1 : Int32))
    (y_br ((8 : Int32) ≤ x3)
      (y_mp <|
      some (-1 : Int32))
      (y_bi (z_R h o0 5) fun o6 =>
      y_gd (z_ok h o6 14) <|
      y_gd (z_ix x3 (z_N h o6)) <|
      y_br ((lg_cmp (z_L h o6 x3.toNatClampNeg) l1) = 0)
        (y_mp <|
        some x3)
        (y_nm (x3 + 1) fun v10 =>
        some (.inl (v10)))))
noncomputable def fX0_testNamed_b2 (o0 : Nat) (l1 : Int64) (x3 : Int32) (h : z_T) : Option (Int32) := y_lp (fun q : Int32 => fX0_testNamed_b2_i o0 l1 h q) (x3)
noncomputable def fX0_testNamed (o0 : Nat) (l1 : Int64) (h : z_T) : Option (Int32) :=
  fX0_testNamed_b2 o0 l1 (0 : Int32) h
set_option maxHeartbeats 4000000 in
set_option maxRecDepth 100000 in
theorem mm_X0_testNamed {G : z_Gt} (hSK : z_SK (z_S G)) (l : Launch) (ad : Nat → Nat) (o0 : Nat) (l1 : Int64) (h : z_T) {r0 : Int32} (hv : fX0_testNamed o0 l1 h = some r0) : z_Mi G (z_S G) l yX0_testNamed cX0_testNamed 4 (.int) rm_X0_testNamed 0 0 [.ref (ad o0), .long l1] ad h h r0 := by
  refine z_ofW hSK (by decide) (Nat.le_of_ble_eq_true rfl) ?_
  intro p e s m args below meth c ls hc hr hnm hB hl
  have hx := hc.1.1
  have hb := hc.1.2.1
  have hown := hc.1.2.2.2.1
  have hts := hc.1.2.2.2.2
  replace hc : z_C G (z_S G) ad (z_n h) p m c cX0_testNamed 4 s args RX0 meth := hc
  replace hown : s.vm.findClass RX0 = some m.cls := hown
  replace hl : lv_has ls 4 [(0, .ref (ad o0)), (1, .long l1)] := hl
  show W p l e rm_X0_testNamed s m args below meth c s.heap [] 0 0 (MQ below (z_Qi G ad h (z_n h) s.heap.size r0) args s 0 0 (z_A ad (z_n h) s.heap.size)) (F0 m 0 ls [])
  obtain ⟨rs, kt⟩ : ∃ rs : Int32, rs = r0 := ⟨_, rfl⟩
  generalize hn0 : z_n h = n0 at hc hB ⊢
  have L2 : ∀ (nn2 : Nat) (x3 : Int32) (H : Heap) (locs : List Loc) (ls : Array Slot), z_B G ad n0 s h H locs → lv_has ls 4 [(0, .ref (ad o0)), (1, .long l1), (3, .int x3)] → ∀ vv2, y_lpN (fun q : Int32 => fX0_testNamed_b2_i o0 l1 h q) nn2 (x3) = some vv2 → vv2 = r0 → W p l e rm_X0_testNamed s m args below meth c H locs 0 0 (MQ below (z_Qi G ad h n0 s.heap.size r0) args s 0 0 (z_A ad n0 s.heap.size)) (F0 m 2 ls []) := by
    intro nn2
    induction nn2 with
    | zero => intro x3 H locs ls hB hl vv2 hv kv2; exact absurd hv (fun q => y_lpN_0 q)
    | succ nn2 ih2 =>
      intro x3 H locs ls hB hl vv2 hv kv2
      obtain ⟨w, hq, kw2⟩ := y_lpN_e hv
      clear hv
      have hv : fX0_testNamed_b2_i o0 l1 h x3 = some w := hq
      clear hq
      refine lv_iload_n hx hb dX0_testNamed_2 rfl (lv_at hl 2 rfl) ?_
      refine lv_aload_n hx hb dX0_testNamed_3 rfl (lv_at hl 0 rfl) ?_
      obtain ⟨g1, hv⟩ := y_gd_e hv
      refine z_getI hc hB 0 1 g1 (by decide) (by decide) rfl (z_l1 hc qfX0_79) dX0_testNamed_4 ?_
      refine lv_icmp_ge (tgt := 35) hx hb dX0_testNamed_7 (by decide) (fun c2 => ?_) (fun c2 => ?_)
      · replace hv := y_br_t hv c2
        obtain ⟨t3, hq, ew⟩ := y_mp_e hv
        clear hv; subst ew
        replace kw2 : t3 = _ := kw2
        subst kw2
        have hv := hq
        clear hq
        refine lv_iconst (v := (-1 : Int32)) hx hb dX0_testNamed_35 (by decide) ?_
        replace hv := Option.some.inj hv
        subst hv
        rw [← kv2]
        exact z_iret hc hB hr dX0_testNamed_36
      · replace hv := y_br_f hv c2
        refine lv_iload_n hx hb dX0_testNamed_10 rfl (lv_at hl 2 rfl) ?_
        refine lv_bipush (v := (8 : Int32)) hx hb dX0_testNamed_11 (by decide) ?_
        refine lv_icmp_ge (tgt := 35) hx hb dX0_testNamed_13 (by decide) (fun c4 => ?_) (fun c4 => ?_)
        · replace hv := y_br_t hv c4
          obtain ⟨t5, hq, ew⟩ := y_mp_e hv
          clear hv; subst ew
          replace kw2 : t5 = _ := kw2
          subst kw2
          have hv := hq
          clear hq
          refine lv_iconst (v := (-1 : Int32)) hx hb dX0_testNamed_35 (by decide) ?_
          replace hv := Option.some.inj hv
          subst hv
          rw [← kv2]
          exact z_iret hc hB hr dX0_testNamed_36
        · replace hv := y_br_f hv c4
          refine lv_aload_n hx hb dX0_testNamed_16 rfl (lv_at hl 0 rfl) ?_
          obtain ⟨o6, eo6, hv⟩ := y_bi_e hv
          refine z_getR hc hB 0 5 g1 eo6 (by decide) (by decide) rfl (z_l1 hc qfX0_15) dX0_testNamed_17 ?_
          refine lv_iload_n hx hb dX0_testNamed_20 rfl (lv_at hl 2 rfl) ?_
          obtain ⟨g7, hv⟩ := y_gd_e hv
          obtain ⟨i8, hv⟩ := y_gd_e hv
          refine z_lald hc hB g7 i8 dX0_testNamed_21 ?_
          refine lv_lload_n hx hb dX0_testNamed_22 rfl (lv_at hl 1 rfl) ?_
          refine W.lcmp hx hb dX0_testNamed_23 ?_
          refine lv_if_ne (tgt := 29) hx hb dX0_testNamed_24 (by decide) (fun c9 => ?_) (fun c9 => ?_)
          · replace hv := y_br_f hv c9
            obtain ⟨v10, ev10, hv⟩ := y_nm_e hv
            refine lv_iinc (v := v10) (lv' := [(3, .int v10), (0, .ref (ad o0)), (1, .long l1)]) hx hb dX0_testNamed_29 hl (k := 2) rfl (by rw [ev10]; rfl) (by decide) rfl (fun ls hl => ?_)
            refine lv_goto (tgt := 2) hx hb dX0_testNamed_32 (by decide) ?_
            replace hv := Option.some.inj hv
            subst hv
            exact ih2 v10 _ _ _ hB (lv_sub hl [1, 2, 0] rfl) _ kw2 kv2
          · replace hv := y_br_t hv c9
            obtain ⟨t11, hq, ew⟩ := y_mp_e hv
            clear hv; subst ew
            replace kw2 : t11 = _ := kw2
            subst kw2
            have hv := hq
            clear hq
            refine lv_iload_n hx hb dX0_testNamed_27 rfl (lv_at hl 2 rfl) ?_
            replace hv := Option.some.inj hv
            subst hv
            rw [← kv2]
            exact z_iret hc hB hr dX0_testNamed_28
  rw [← kt] at hv
  refine lv_iconst (v := (0 : Int32)) hx hb dX0_testNamed_0 (by decide) ?_
  refine lv_istore_n (lv' := [(3, .int (0 : Int32)), (0, .ref (ad o0)), (1, .long l1)]) hx hb dX0_testNamed_1 rfl hl (by decide) rfl (fun ls hl => ?_)
  obtain ⟨n, hv⟩ := y_lp_e hv
  exact L2 n (0 : Int32) _ _ _ hB (lv_sub hl [1, 2, 0] rfl) _ hv kt
theorem dX6_isAt_0 : decode cX6_isAt 0 = .ok (.aload_n 0, 1) := by decide +kernel
theorem dX6_isAt_1 : decode cX6_isAt 1 = .ok (.getfield 60, 3) := by decide +kernel
theorem dX6_isAt_4 : decode cX6_isAt 4 = .ok (.iconst 2, 1) := by decide +kernel
theorem dX6_isAt_5 : decode cX6_isAt 5 = .ok (.if_icmp .ne 15, 3) := by decide +kernel
theorem dX6_isAt_8 : decode cX6_isAt 8 = .ok (.aload_n 0, 1) := by decide +kernel
theorem dX6_isAt_9 : decode cX6_isAt 9 = .ok (.getfield 15, 3) := by decide +kernel
theorem dX6_isAt_12 : decode cX6_isAt 12 = .ok (.aload_n 1, 1) := by decide +kernel
theorem dX6_isAt_13 : decode cX6_isAt 13 = .ok (.if_acmp .ne 7, 3) := by decide +kernel
theorem dX6_isAt_16 : decode cX6_isAt 16 = .ok (.iconst 1, 1) := by decide +kernel
theorem dX6_isAt_17 : decode cX6_isAt 17 = .ok (.goto 4, 3) := by decide +kernel
theorem dX6_isAt_20 : decode cX6_isAt 20 = .ok (.iconst 0, 1) := by decide +kernel
theorem dX6_isAt_21 : decode cX6_isAt 21 = .ok (.ireturn, 1) := by decide +kernel
abbrev rm_X6_isAt : Room := { frames := 0, cells := 0, slots := 0, locals := 0 }
noncomputable def fX6_isAt_b20  (h : z_T) : Option (Int32) :=
  some (0 : Int32)
noncomputable def fX6_isAt (o0 : Nat) (e1 : Nat) (h : z_T) : Option (Int32) :=
  y_gd (z_ok h o0 6) <|
  y_br ((z_I h o0 4) = (2 : Int32))
    (y_bi (z_R h o0 7) fun o3 =>
    y_gd (decide (o3 < 23)) <|
    y_gd (decide (e1 < 23)) <|
    y_br (o3 = e1)
      (some (1 : Int32))
      (fX6_isAt_b20 h))
    (fX6_isAt_b20 h)
set_option maxHeartbeats 4000000 in
set_option maxRecDepth 100000 in
theorem mm_X6_isAt {G : z_Gt} (hSK : z_SK (z_S G)) (l : Launch) (ad : Nat → Nat) (o0 : Nat) (e1 : Nat) (h : z_T) {r0 : Int32} (hv : fX6_isAt o0 e1 h = some r0) : z_Mi G (z_S G) l yX6_isAt cX6_isAt 2 (.boolean) rm_X6_isAt 0 0 [.ref (ad o0), .ref (G.2.2.2.1 e1)] ad h h r0 := by
  refine z_ofW hSK (by decide) (Nat.le_of_ble_eq_true rfl) ?_
  intro p e s m args below meth c ls hc hr hnm hB hl
  have hx := hc.1.1
  have hb := hc.1.2.1
  have hown := hc.1.2.2.2.1
  have hts := hc.1.2.2.2.2
  replace hc : z_C G (z_S G) ad (z_n h) p m c cX6_isAt 2 s args RX6 meth := hc
  replace hown : s.vm.findClass RX6 = some m.cls := hown
  replace hl : lv_has ls 2 [(0, .ref (ad o0)), (1, .ref (G.2.2.2.1 e1))] := hl
  show W p l e rm_X6_isAt s m args below meth c s.heap [] 0 0 (MQ below (z_Qi G ad h (z_n h) s.heap.size r0) args s 0 0 (z_A ad (z_n h) s.heap.size)) (F0 m 0 ls [])
  obtain ⟨rs, kt⟩ : ∃ rs : Int32, rs = r0 := ⟨_, rfl⟩
  generalize hn0 : z_n h = n0 at hc hB ⊢
  have b20 : ∀ (H : Heap) (locs : List Loc) (ls : Array Slot), z_B G ad n0 s h H locs → lv_has ls 2 [] → ∀ w, fX6_isAt_b20 h = some w → w = r0 → W p l e rm_X6_isAt s m args below meth c H locs 0 0 (MQ below (z_Qi G ad h n0 s.heap.size r0) args s 0 0 (z_A ad n0 s.heap.size)) (F0 m 20 ls []) := by
    intro H locs ls hB hl w hv kb
    refine lv_iconst (v := (0 : Int32)) hx hb dX6_isAt_20 (by decide) ?_
    replace hv := Option.some.inj hv
    subst hv
    rw [← kb]
    exact z_zret hc hB hr rfl dX6_isAt_21
  rw [← kt] at hv
  refine lv_aload_n hx hb dX6_isAt_0 rfl (lv_at hl 0 rfl) ?_
  obtain ⟨g1, hv⟩ := y_gd_e hv
  refine z_getI hc hB 6 4 g1 (by decide) (by decide) rfl (z_l1 hc qfX6_60) dX6_isAt_1 ?_
  refine lv_iconst (v := (2 : Int32)) hx hb dX6_isAt_4 (by decide) ?_
  refine lv_icmp_ne (tgt := 20) hx hb dX6_isAt_5 (by decide) (fun c2 => ?_) (fun c2 => ?_)
  · replace hv := y_br_f hv c2
    exact b20 _ _ _ hB (lv_sub hl [] rfl) _ hv kt
  · replace hv := y_br_t hv c2
    refine lv_aload_n hx hb dX6_isAt_8 rfl (lv_at hl 0 rfl) ?_
    obtain ⟨o3, eo3, hv⟩ := y_bi_e hv
    refine z_getE hc hB 6 7 g1 eo3 (by decide) (by decide) rfl (z_l1 hc qfX6_15) dX6_isAt_9 ?_
    refine lv_aload_n hx hb dX6_isAt_12 rfl (lv_at hl 1 rfl) ?_
    obtain ⟨g4, hv⟩ := y_gd_e hv
    obtain ⟨g5, hv⟩ := y_gd_e hv
    refine z_acmpN (tgt := 20) hc (z_lt g4) (z_lt g5) dX6_isAt_13 (by decide) (fun c6 => ?_) (fun c6 => ?_)
    · replace hv := y_br_f hv c6
      exact b20 _ _ _ hB (lv_sub hl [] rfl) _ hv kt
    · replace hv := y_br_t hv c6
      refine lv_iconst (v := (1 : Int32)) hx hb dX6_isAt_16 (by decide) ?_
      refine lv_goto (tgt := 21) hx hb dX6_isAt_17 (by decide) ?_
      replace hv := Option.some.inj hv
      subst hv
      rw [← kt]
      exact z_zret hc hB hr rfl dX6_isAt_21
theorem qmX6_89 : Cond.methodLink RX6 89 yX6_isAt ∈ z_ws := List.mem_filter.mpr ⟨List.mem_append_right _ (List.mem_of_getElem? (i := 410) (by decide +kernel)), rfl⟩
theorem qc_X6_isAt : Cond.code yX6_isAt cX6_isAt 2 (some .boolean) ∈ z_ws := List.mem_filter.mpr ⟨List.mem_append_right _ (List.mem_of_getElem? (i := 392) (by decide +kernel)), rfl⟩
theorem qi_X6_isAt : Cond.instanceMethod yX6_isAt ∈ z_ws := List.mem_filter.mpr ⟨List.mem_append_right _ (List.mem_of_getElem? (i := 390) (by decide +kernel)), rfl⟩
theorem qs_X6_isAt : Cond.selects RX6 yX6_isAt yX6_isAt ∈ z_ws := List.mem_filter.mpr ⟨List.mem_append_right _ (List.mem_of_getElem? (i := 391) (by decide +kernel)), rfl⟩
theorem md_X6_isAt : z_mdV yX6_isAt cX6_isAt 2 (some .boolean) 1 := ⟨⟨qn_RX6, qc_X6_isAt, ⟨by decide +kernel, by decide +kernel, by decide +kernel⟩⟩, qi_X6_isAt, qs_X6_isAt⟩
theorem dX6_isName_0 : decode cX6_isName 0 = .ok (.aload_n 0, 1) := by decide +kernel
theorem dX6_isName_1 : decode cX6_isName 1 = .ok (.getstatic 9, 3) := by decide +kernel
theorem dX6_isName_4 : decode cX6_isName 4 = .ok (.invokevirtual 89, 3) := by decide +kernel
theorem dX6_isName_7 : decode cX6_isName 7 = .ok (.ireturn, 1) := by decide +kernel
abbrev rm_X6_isName : Room := { frames := 1, cells := 0, slots := 0, locals := 21 }
noncomputable def fX6_isName (o0 : Nat) (h : z_T) : Option (Int32) :=
  y_gd (z_ok h o0 6) <|
  y_bi (fX6_isAt o0 0 h) fun r2 =>
  y_gd (y_b r2) <|
  some r2
set_option maxHeartbeats 4000000 in
set_option maxRecDepth 100000 in
theorem mm_X6_isName {G : z_Gt} (hSK : z_SK (z_S G)) (l : Launch) (ad : Nat → Nat) (o0 : Nat) (h : z_T) {r0 : Int32} (hv : fX6_isName o0 h = some r0) : z_Mi G (z_S G) l yX6_isName cX6_isName 1 (.boolean) rm_X6_isName 0 0 [.ref (ad o0)] ad h h r0 := by
  refine z_ofW hSK (by decide) (Nat.le_of_ble_eq_true rfl) ?_
  intro p e s m args below meth c ls hc hr hnm hB hl
  have hx := hc.1.1
  have hb := hc.1.2.1
  have hown := hc.1.2.2.2.1
  have hts := hc.1.2.2.2.2
  replace hc : z_C G (z_S G) ad (z_n h) p m c cX6_isName 1 s args RX6 meth := hc
  replace hown : s.vm.findClass RX6 = some m.cls := hown
  replace hl : lv_has ls 1 [(0, .ref (ad o0))] := hl
  show W p l e rm_X6_isName s m args below meth c s.heap [] 0 0 (MQ below (z_Qi G ad h (z_n h) s.heap.size r0) args s 0 0 (z_A ad (z_n h) s.heap.size)) (F0 m 0 ls [])
  obtain ⟨rs, kt⟩ : ∃ rs : Int32, rs = r0 := ⟨_, rfl⟩
  generalize hn0 : z_n h = n0 at hc hB ⊢
  rw [← kt] at hv
  refine lv_aload_n hx hb dX6_isName_0 rfl (lv_at hl 0 rfl) ?_
  refine z_gets hc hB (hc.2.1.2.2.2.1.1 0 (by decide)) qfX6_9 dX6_isName_1 ?_
  obtain ⟨g6, hv⟩ := y_gd_e hv
  obtain ⟨r2, c1, hv⟩ := y_bi_e hv
  refine z_thI hc hB (z_runV hc hB 6 (mm_X6_isAt hSK l ad o0 0 h c1) md_X6_isAt qmX6_89 g6 (by decide) rfl rfl rfl ⟨Nat.le_of_ble_eq_true rfl, Nat.le_of_ble_eq_true rfl⟩ rfl hl.1 rfl (Nat.le_of_ble_eq_true rfl) dX6_isName_4 ⟨Nat.le_of_ble_eq_true rfl, Nat.le_of_ble_eq_true rfl⟩) (fun H locs hB => ?_)
  obtain ⟨y7, hv⟩ := y_gd_e hv
  replace hv := Option.some.inj hv
  subst hv
  rw [← kt]
  exact z_zret hc hB hr (y_b_n y7) dX6_isName_7
theorem qmX6_96 : Cond.methodLink RX6 96 yX0_testNamed ∈ z_ws := List.mem_filter.mpr ⟨List.mem_append_right _ (List.mem_of_getElem? (i := 438) (by decide +kernel)), rfl⟩
theorem qn_RX0 : Cond.initialized RX0 ∈ z_ws := List.mem_filter.mpr ⟨List.mem_append_right _ (List.mem_of_getElem? (i := 2) (by decide +kernel)), rfl⟩
theorem qc_X0_testNamed : Cond.code yX0_testNamed cX0_testNamed 4 (some .int) ∈ z_ws := List.mem_filter.mpr ⟨List.mem_append_right _ (List.mem_of_getElem? (i := 414) (by decide +kernel)), rfl⟩
theorem qi_X0_testNamed : Cond.instanceMethod yX0_testNamed ∈ z_ws := List.mem_filter.mpr ⟨List.mem_append_right _ (List.mem_of_getElem? (i := 412) (by decide +kernel)), rfl⟩
theorem qs_X0_testNamed : Cond.selects RX0 yX0_testNamed yX0_testNamed ∈ z_ws := List.mem_filter.mpr ⟨List.mem_append_right _ (List.mem_of_getElem? (i := 413) (by decide +kernel)), rfl⟩
theorem md_X0_testNamed : z_mdV yX0_testNamed cX0_testNamed 4 (some .int) 1 := ⟨⟨qn_RX0, qc_X0_testNamed, ⟨by decide +kernel, by decide +kernel, by decide +kernel⟩⟩, qi_X0_testNamed, qs_X0_testNamed⟩
theorem qmX6_102 : Cond.methodLink RX6 102 yX6_isName ∈ z_ws := List.mem_filter.mpr ⟨List.mem_append_right _ (List.mem_of_getElem? (i := 439) (by decide +kernel)), rfl⟩
theorem qc_X6_isName : Cond.code yX6_isName cX6_isName 1 (some .boolean) ∈ z_ws := List.mem_filter.mpr ⟨List.mem_append_right _ (List.mem_of_getElem? (i := 409) (by decide +kernel)), rfl⟩
theorem qi_X6_isName : Cond.instanceMethod yX6_isName ∈ z_ws := List.mem_filter.mpr ⟨List.mem_append_right _ (List.mem_of_getElem? (i := 407) (by decide +kernel)), rfl⟩
theorem qs_X6_isName : Cond.selects RX6 yX6_isName yX6_isName ∈ z_ws := List.mem_filter.mpr ⟨List.mem_append_right _ (List.mem_of_getElem? (i := 408) (by decide +kernel)), rfl⟩
theorem md_X6_isName : z_mdV yX6_isName cX6_isName 1 (some .boolean) 0 := ⟨⟨qn_RX6, qc_X6_isName, ⟨by decide +kernel, by decide +kernel, by decide +kernel⟩⟩, qi_X6_isName, qs_X6_isName⟩
theorem qmX6_93 : Cond.methodLink RX6 93 yX6_fail ∈ z_ws := List.mem_filter.mpr ⟨List.mem_append_right _ (List.mem_of_getElem? (i := 423) (by decide +kernel)), rfl⟩
theorem qc_X6_fail : Cond.code yX6_fail cX6_fail 2 (some .boolean) ∈ z_ws := List.mem_filter.mpr ⟨List.mem_append_right _ (List.mem_of_getElem? (i := 400) (by decide +kernel)), rfl⟩
theorem qi_X6_fail : Cond.instanceMethod yX6_fail ∈ z_ws := List.mem_filter.mpr ⟨List.mem_append_right _ (List.mem_of_getElem? (i := 398) (by decide +kernel)), rfl⟩
theorem qs_X6_fail : Cond.selects RX6 yX6_fail yX6_fail ∈ z_ws := List.mem_filter.mpr ⟨List.mem_append_right _ (List.mem_of_getElem? (i := 399) (by decide +kernel)), rfl⟩
theorem md_X6_fail : z_mdV yX6_fail cX6_fail 2 (some .boolean) 1 := ⟨⟨qn_RX6, qc_X6_fail, ⟨by decide +kernel, by decide +kernel, by decide +kernel⟩⟩, qi_X6_fail, qs_X6_fail⟩
theorem dX6_testHere_0 : decode cX6_testHere 0 = .ok (.aload_n 1, 1) := by decide +kernel
theorem dX6_testHere_1 : decode cX6_testHere 1 = .ok (.aload_n 0, 1) := by decide +kernel
theorem dX6_testHere_2 : decode cX6_testHere 2 = .ok (.getfield 53, 3) := by decide +kernel
theorem dX6_testHere_5 : decode cX6_testHere 5 = .ok (.invokevirtual 96, 3) := by decide +kernel
theorem dX6_testHere_8 : decode cX6_testHere 8 = .ok (.istore_n 2, 1) := by decide +kernel
theorem dX6_testHere_9 : decode cX6_testHere 9 = .ok (.aload_n 0, 1) := by decide +kernel
theorem dX6_testHere_10 : decode cX6_testHere 10 = .ok (.invokevirtual 102, 3) := by decide +kernel
theorem dX6_testHere_13 : decode cX6_testHere 13 = .ok (.ifCond .ne 11, 3) := by decide +kernel
theorem dX6_testHere_16 : decode cX6_testHere 16 = .ok (.aload_n 0, 1) := by decide +kernel
theorem dX6_testHere_17 : decode cX6_testHere 17 = .ok (.iconst 1, 1) := by decide +kernel
theorem dX6_testHere_18 : decode cX6_testHere 18 = .ok (.invokevirtual 93, 3) := by decide +kernel
theorem dX6_testHere_21 : decode cX6_testHere 21 = .ok (.pop, 1) := by decide +kernel
theorem dX6_testHere_22 : decode cX6_testHere 22 = .ok (.iconst (-1), 1) := by decide +kernel
theorem dX6_testHere_23 : decode cX6_testHere 23 = .ok (.ireturn, 1) := by decide +kernel
theorem dX6_testHere_24 : decode cX6_testHere 24 = .ok (.iload_n 2, 1) := by decide +kernel
theorem dX6_testHere_25 : decode cX6_testHere 25 = .ok (.iconst (-1), 1) := by decide +kernel
theorem dX6_testHere_26 : decode cX6_testHere 26 = .ok (.if_icmp .ne 9, 3) := by decide +kernel
theorem dX6_testHere_29 : decode cX6_testHere 29 = .ok (.aload_n 0, 1) := by decide +kernel
theorem dX6_testHere_30 : decode cX6_testHere 30 = .ok (.iconst 3, 1) := by decide +kernel
theorem dX6_testHere_31 : decode cX6_testHere 31 = .ok (.invokevirtual 93, 3) := by decide +kernel
theorem dX6_testHere_34 : decode cX6_testHere 34 = .ok (.pop, 1) := by decide +kernel
theorem dX6_testHere_35 : decode cX6_testHere 35 = .ok (.iload_n 2, 1) := by decide +kernel
theorem dX6_testHere_36 : decode cX6_testHere 36 = .ok (.ireturn, 1) := by decide +kernel
abbrev rm_X6_testHere : Room := { frames := 2, cells := 0, slots := 0, locals := 41 }
noncomputable def fX6_testHere (o0 : Nat) (o1 : Nat) (h : z_T) : Option (Int32 × z_T) :=
  y_gd (z_ok h o0 6) <|
  y_gd (z_ok h o1 0) <|
  y_bi (fX0_testNamed o1 (z_L h o0 6) h) fun r3 =>
  y_bi (fX6_isName o0 h) fun r9 =>
  y_br (r9 = 0)
    (y_bi (fX6_fail o0 (1 : Int32) h) fun ⟨r22, h26⟩ =>
    some ((-1 : Int32), h26))
    (y_br (r3 = (-1 : Int32))
      (y_bi (fX6_fail o0 (3 : Int32) h) fun ⟨r16, h20⟩ =>
      some (r3, h20))
      (some (r3, h)))
set_option maxHeartbeats 4000000 in
set_option maxRecDepth 100000 in
theorem mm_X6_testHere {G : z_Gt} (hSK : z_SK (z_S G)) (l : Launch) (ad : Nat → Nat) (o0 : Nat) (o1 : Nat) (h : z_T) {r0 : Int32} {h9 : z_T} (hv : fX6_testHere o0 o1 h = some (r0, h9)) : z_Mi G (z_S G) l yX6_testHere cX6_testHere 3 (.int) rm_X6_testHere 0 0 [.ref (ad o0), .ref (ad o1)] ad h h9 r0 := by
  refine z_ofW hSK (by decide) (Nat.le_of_ble_eq_true rfl) ?_
  intro p e s m args below meth c ls hc hr hnm hB hl
  have hx := hc.1.1
  have hb := hc.1.2.1
  have hown := hc.1.2.2.2.1
  have hts := hc.1.2.2.2.2
  replace hc : z_C G (z_S G) ad (z_n h) p m c cX6_testHere 3 s args RX6 meth := hc
  replace hown : s.vm.findClass RX6 = some m.cls := hown
  replace hl : lv_has ls 3 [(0, .ref (ad o0)), (1, .ref (ad o1))] := hl
  show W p l e rm_X6_testHere s m args below meth c s.heap [] 0 0 (MQ below (z_Qi G ad h9 (z_n h) s.heap.size r0) args s 0 0 (z_A ad (z_n h) s.heap.size)) (F0 m 0 ls [])
  obtain ⟨rs, kt⟩ : ∃ rs : Int32 × z_T, rs = (r0, h9) := ⟨_, rfl⟩
  generalize hn0 : z_n h = n0 at hc hB ⊢
  rw [← kt] at hv
  refine lv_aload_n hx hb dX6_testHere_0 rfl (lv_at hl 1 rfl) ?_
  refine lv_aload_n hx hb dX6_testHere_1 rfl (lv_at hl 0 rfl) ?_
  obtain ⟨g1, hv⟩ := y_gd_e hv
  refine z_getL hc hB 6 6 g1 (by decide) (by decide) rfl (z_l1 hc qfX6_53) dX6_testHere_2 ?_
  obtain ⟨g7, hv⟩ := y_gd_e hv
  obtain ⟨r3, c2, hv⟩ := y_bi_e hv
  refine z_thI hc hB (z_runV hc hB 0 (mm_X0_testNamed hSK l ad o1 (z_L h o0 6) h c2) md_X0_testNamed qmX6_96 g7 (by decide) rfl rfl rfl ⟨Nat.le_of_ble_eq_true rfl, Nat.le_of_ble_eq_true rfl⟩ rfl hl.1 rfl (Nat.le_of_ble_eq_true rfl) dX6_testHere_5 ⟨Nat.le_of_ble_eq_true rfl, Nat.le_of_ble_eq_true rfl⟩) (fun H locs hB => ?_)
  refine lv_istore_n (lv' := [(2, .int r3), (0, .ref (ad o0)), (1, .ref (ad o1))]) hx hb dX6_testHere_8 rfl hl (by decide) rfl (fun ls hl => ?_)
  refine lv_aload_n hx hb dX6_testHere_9 rfl (lv_at hl 1 rfl) ?_
  obtain ⟨r9, c8, hv⟩ := y_bi_e hv
  refine z_thI hc hB (z_runV hc hB 6 (mm_X6_isName hSK l ad o0 h c8) md_X6_isName qmX6_102 g1 (by decide) rfl rfl rfl ⟨Nat.le_of_ble_eq_true rfl, Nat.le_of_ble_eq_true rfl⟩ rfl hl.1 rfl (Nat.le_of_ble_eq_true rfl) dX6_testHere_10 ⟨Nat.le_of_ble_eq_true rfl, Nat.le_of_ble_eq_true rfl⟩) (fun H locs hB => ?_)
  refine lv_if_ne (tgt := 24) hx hb dX6_testHere_13 (by decide) (fun c13 => ?_) (fun c13 => ?_)
  · replace hv := y_br_f hv c13
    refine lv_iload_n hx hb dX6_testHere_24 rfl (lv_at hl 0 rfl) ?_
    refine lv_iconst (v := (-1 : Int32)) hx hb dX6_testHere_25 (by decide) ?_
    refine lv_icmp_ne (tgt := 35) hx hb dX6_testHere_26 (by decide) (fun c14 => ?_) (fun c14 => ?_)
    · replace hv := y_br_f hv c14
      refine lv_iload_n hx hb dX6_testHere_35 rfl (lv_at hl 0 rfl) ?_
      replace hv := Option.some.inj hv
      subst hv
      obtain ⟨e1, e2⟩ := y_pr kt
      rw [← e1, ← e2]
      exact z_iret hc hB hr dX6_testHere_36
    · replace hv := y_br_t hv c14
      refine lv_aload_n hx hb dX6_testHere_29 rfl (lv_at hl 1 rfl) ?_
      refine lv_iconst (v := (3 : Int32)) hx hb dX6_testHere_30 (by decide) ?_
      obtain ⟨⟨r16, h20⟩, c15, hv⟩ := y_bi_e hv
      refine z_thI hc hB (z_runV hc hB 6 (mm_X6_fail hSK l ad o0 (3 : Int32) h c15) md_X6_fail qmX6_93 g1 (by decide) rfl rfl rfl ⟨Nat.le_of_ble_eq_true rfl, Nat.le_of_ble_eq_true rfl⟩ rfl hl.1 rfl (Nat.le_of_ble_eq_true rfl) dX6_testHere_31 ⟨Nat.le_of_ble_eq_true rfl, Nat.le_of_ble_eq_true rfl⟩) (fun H locs hB => ?_)
      refine lv_pop hx hb dX6_testHere_34 rfl ?_
      refine lv_iload_n hx hb dX6_testHere_35 rfl (lv_at hl 0 rfl) ?_
      replace hv := Option.some.inj hv
      subst hv
      obtain ⟨e1, e2⟩ := y_pr kt
      rw [← e1, ← e2]
      exact z_iret hc hB hr dX6_testHere_36
  · replace hv := y_br_t hv c13
    refine lv_aload_n hx hb dX6_testHere_16 rfl (lv_at hl 1 rfl) ?_
    refine lv_iconst (v := (1 : Int32)) hx hb dX6_testHere_17 (by decide) ?_
    obtain ⟨⟨r22, h26⟩, c21, hv⟩ := y_bi_e hv
    refine z_thI hc hB (z_runV hc hB 6 (mm_X6_fail hSK l ad o0 (1 : Int32) h c21) md_X6_fail qmX6_93 g1 (by decide) rfl rfl rfl ⟨Nat.le_of_ble_eq_true rfl, Nat.le_of_ble_eq_true rfl⟩ rfl hl.1 rfl (Nat.le_of_ble_eq_true rfl) dX6_testHere_18 ⟨Nat.le_of_ble_eq_true rfl, Nat.le_of_ble_eq_true rfl⟩) (fun H locs hB => ?_)
    refine lv_pop hx hb dX6_testHere_21 rfl ?_
    refine lv_iconst (v := (-1 : Int32)) hx hb dX6_testHere_22 (by decide) ?_
    replace hv := Option.some.inj hv
    subst hv
    obtain ⟨e1, e2⟩ := y_pr kt
    rw [← e1, ← e2]
    exact z_iret hc hB hr dX6_testHere_23
theorem qfX0_36 : Cond.fieldLinkNest RX0 36 "DreamTests$Reader" "kind" "I" "DreamTests" ∈ z_nw := List.mem_filter.mpr ⟨List.mem_of_getElem? (i := 111) (by decide +kernel), rfl⟩
theorem qmX0_106 : Cond.methodLink RX0 106 yX6_testHere ∈ z_ws := List.mem_filter.mpr ⟨List.mem_append_right _ (List.mem_of_getElem? (i := 434) (by decide +kernel)), rfl⟩
theorem qc_X6_testHere : Cond.code yX6_testHere cX6_testHere 3 (some .int) ∈ z_ws := List.mem_filter.mpr ⟨List.mem_append_right _ (List.mem_of_getElem? (i := 437) (by decide +kernel)), rfl⟩
theorem qi_X6_testHere : Cond.instanceMethod yX6_testHere ∈ z_ws := List.mem_filter.mpr ⟨List.mem_append_right _ (List.mem_of_getElem? (i := 435) (by decide +kernel)), rfl⟩
theorem qs_X6_testHere : Cond.selects RX6 yX6_testHere yX6_testHere ∈ z_ws := List.mem_filter.mpr ⟨List.mem_append_right _ (List.mem_of_getElem? (i := 436) (by decide +kernel)), rfl⟩
theorem md_X6_testHere : z_mdV yX6_testHere cX6_testHere 3 (some .int) 1 := ⟨⟨qn_RX6, qc_X6_testHere, ⟨by decide +kernel, by decide +kernel, by decide +kernel⟩⟩, qi_X6_testHere, qs_X6_testHere⟩
theorem qmX0_85 : Cond.methodLink RX0 85 yX6_advance ∈ z_ws := List.mem_filter.mpr ⟨List.mem_append_right _ (List.mem_of_getElem? (i := 401) (by decide +kernel)), rfl⟩
theorem qc_X6_advance : Cond.code yX6_advance cX6_advance 2 none ∈ z_ws := List.mem_filter.mpr ⟨List.mem_append_right _ (List.mem_of_getElem? (i := 346) (by decide +kernel)), rfl⟩
theorem qi_X6_advance : Cond.instanceMethod yX6_advance ∈ z_ws := List.mem_filter.mpr ⟨List.mem_append_right _ (List.mem_of_getElem? (i := 344) (by decide +kernel)), rfl⟩
theorem qs_X6_advance : Cond.selects RX6 yX6_advance yX6_advance ∈ z_ws := List.mem_filter.mpr ⟨List.mem_append_right _ (List.mem_of_getElem? (i := 345) (by decide +kernel)), rfl⟩
theorem md_X6_advance : z_mdV yX6_advance cX6_advance 2 none 0 := ⟨⟨qn_RX6, qc_X6_advance, ⟨by decide +kernel, by decide +kernel, by decide +kernel⟩⟩, qi_X6_advance, qs_X6_advance⟩
theorem qmX0_82 : Cond.methodLink RX0 82 yX6_fail ∈ z_ws := List.mem_filter.mpr ⟨List.mem_append_right _ (List.mem_of_getElem? (i := 397) (by decide +kernel)), rfl⟩
theorem dX0_readKept_0 : decode cX0_readKept 0 = .ok (.iconst 0, 1) := by decide +kernel
theorem dX0_readKept_1 : decode cX0_readKept 1 = .ok (.istore_n 2, 1) := by decide +kernel
theorem dX0_readKept_2 : decode cX0_readKept 2 = .ok (.iconst 0, 1) := by decide +kernel
theorem dX0_readKept_3 : decode cX0_readKept 3 = .ok (.istore_n 3, 1) := by decide +kernel
theorem dX0_readKept_4 : decode cX0_readKept 4 = .ok (.iload_n 3, 1) := by decide +kernel
theorem dX0_readKept_5 : decode cX0_readKept 5 = .ok (.bipush 8, 2) := by decide +kernel
theorem dX0_readKept_7 : decode cX0_readKept 7 = .ok (.if_icmp .gt 60, 3) := by decide +kernel
theorem dX0_readKept_10 : decode cX0_readKept 10 = .ok (.aload_n 1, 1) := by decide +kernel
theorem dX0_readKept_11 : decode cX0_readKept 11 = .ok (.getfield 36, 3) := by decide +kernel
theorem dX0_readKept_14 : decode cX0_readKept 14 = .ok (.iconst 2, 1) := by decide +kernel
theorem dX0_readKept_15 : decode cX0_readKept 15 = .ok (.if_icmp .ne 52, 3) := by decide +kernel
theorem dX0_readKept_18 : decode cX0_readKept 18 = .ok (.aload_n 1, 1) := by decide +kernel
theorem dX0_readKept_19 : decode cX0_readKept 19 = .ok (.aload_n 0, 1) := by decide +kernel
theorem dX0_readKept_20 : decode cX0_readKept 20 = .ok (.invokevirtual 106, 3) := by decide +kernel
theorem dX0_readKept_23 : decode cX0_readKept 23 = .ok (.istore 4, 2) := by decide +kernel
theorem dX0_readKept_25 : decode cX0_readKept 25 = .ok (.iload 4, 2) := by decide +kernel
theorem dX0_readKept_27 : decode cX0_readKept 27 = .ok (.iconst (-1), 1) := by decide +kernel
theorem dX0_readKept_28 : decode cX0_readKept 28 = .ok (.if_icmp .ne 5, 3) := by decide +kernel
theorem dX0_readKept_31 : decode cX0_readKept 31 = .ok (.iconst (-1), 1) := by decide +kernel
theorem dX0_readKept_32 : decode cX0_readKept 32 = .ok (.ireturn, 1) := by decide +kernel
theorem dX0_readKept_33 : decode cX0_readKept 33 = .ok (.iload_n 2, 1) := by decide +kernel
theorem dX0_readKept_34 : decode cX0_readKept 34 = .ok (.iconst 1, 1) := by decide +kernel
theorem dX0_readKept_35 : decode cX0_readKept 35 = .ok (.iload 4, 2) := by decide +kernel
theorem dX0_readKept_37 : decode cX0_readKept 37 = .ok (.ishl, 1) := by decide +kernel
theorem dX0_readKept_38 : decode cX0_readKept 38 = .ok (.iand, 1) := by decide +kernel
theorem dX0_readKept_39 : decode cX0_readKept 39 = .ok (.ifCond .eq 11, 3) := by decide +kernel
theorem dX0_readKept_42 : decode cX0_readKept 42 = .ok (.aload_n 1, 1) := by decide +kernel
theorem dX0_readKept_43 : decode cX0_readKept 43 = .ok (.iconst 3, 1) := by decide +kernel
theorem dX0_readKept_44 : decode cX0_readKept 44 = .ok (.invokevirtual 82, 3) := by decide +kernel
theorem dX0_readKept_47 : decode cX0_readKept 47 = .ok (.pop, 1) := by decide +kernel
theorem dX0_readKept_48 : decode cX0_readKept 48 = .ok (.iconst (-1), 1) := by decide +kernel
theorem dX0_readKept_49 : decode cX0_readKept 49 = .ok (.ireturn, 1) := by decide +kernel
theorem dX0_readKept_50 : decode cX0_readKept 50 = .ok (.iload_n 2, 1) := by decide +kernel
theorem dX0_readKept_51 : decode cX0_readKept 51 = .ok (.iconst 1, 1) := by decide +kernel
theorem dX0_readKept_52 : decode cX0_readKept 52 = .ok (.iload 4, 2) := by decide +kernel
theorem dX0_readKept_54 : decode cX0_readKept 54 = .ok (.ishl, 1) := by decide +kernel
theorem dX0_readKept_55 : decode cX0_readKept 55 = .ok (.ior, 1) := by decide +kernel
theorem dX0_readKept_56 : decode cX0_readKept 56 = .ok (.istore_n 2, 1) := by decide +kernel
theorem dX0_readKept_57 : decode cX0_readKept 57 = .ok (.aload_n 1, 1) := by decide +kernel
theorem dX0_readKept_58 : decode cX0_readKept 58 = .ok (.invokevirtual 85, 3) := by decide +kernel
theorem dX0_readKept_61 : decode cX0_readKept 61 = .ok (.iinc 3 1, 3) := by decide +kernel
theorem dX0_readKept_64 : decode cX0_readKept 64 = .ok (.goto (-60), 3) := by decide +kernel
theorem dX0_readKept_67 : decode cX0_readKept 67 = .ok (.iload_n 2, 1) := by decide +kernel
theorem dX0_readKept_68 : decode cX0_readKept 68 = .ok (.ireturn, 1) := by decide +kernel
abbrev rm_X0_readKept : Room := { frames := 3, cells := 0, slots := 0, locals := 69 }
noncomputable def fX0_readKept_b4_i (o0 : Nat) (o1 : Nat) (x2 : Int32) (x3 : Int32) (h : z_T) : Option ((Int32 × Int32 × z_T) ⊕ (Int32 × z_T)) :=
  y_br ((8 : Int32) < x3)
    (y_mp <|
    some (x2, h))
    (y_gd (z_ok h o1 6) <|
    y_br ((z_I h o1 4) = (2 : Int32))
      (y_bi (fX6_testHere o1 o0 h) fun ⟨r7, h11⟩ =>
      y_br (r7 = (-1 : Int32))
        (y_mp <|
        some ((-1 : Int32), h11))
        (y_br ((x2 &&& ((1 : Int32) <<< (r7 &&& 31))) = 0)
          (y_nm ((x2 ||| ((1 : Int32) <<< (r7 &&& 31)))) fun v14 =>
          y_gd (z_ok h11 o1 6) <|
          y_bi (fX6_advance o1 h11) fun h16 =>
          y_nm (x3 + 1) fun v18 =>
          some (.inl (v14, v18, h16)))
          (y_mp <|
          y_gd (z_ok h11 o1 6) <|
          y_bi (fX6_fail o1 (3 : Int32) h11) fun ⟨r21, h25⟩ =>
          some ((-1 : Int32), h25))))
      (y_mp <|
      some (x2, h)))
noncomputable def fX0_readKept_b4 (o0 : Nat) (o1 : Nat) (x2 : Int32) (x3 : Int32) (h : z_T) : Option (Int32 × z_T) := y_lp (fun q : Int32 × Int32 × z_T => fX0_readKept_b4_i o0 o1 q.1 q.2.1 q.2.2) (x2, x3, h)
noncomputable def fX0_readKept (o0 : Nat) (o1 : Nat) (h : z_T) : Option (Int32 × z_T) :=
  fX0_readKept_b4 o0 o1 (0 : Int32) (0 : Int32) h
set_option maxHeartbeats 4000000 in
set_option maxRecDepth 100000 in
theorem mm_X0_readKept {G : z_Gt} (hSK : z_SK (z_S G)) (l : Launch) (ad : Nat → Nat) (o0 : Nat) (o1 : Nat) (h : z_T) {r0 : Int32} {h9 : z_T} (hv : fX0_readKept o0 o1 h = some (r0, h9)) : z_Mi G (z_S G) l yX0_readKept cX0_readKept 5 (.int) rm_X0_readKept 0 0 [.ref (ad o0), .ref (ad o1)] ad h h9 r0 := by
  refine z_ofW hSK (by decide) (Nat.le_of_ble_eq_true rfl) ?_
  intro p e s m args below meth c ls hc hr hnm hB hl
  have hx := hc.1.1
  have hb := hc.1.2.1
  have hown := hc.1.2.2.2.1
  have hts := hc.1.2.2.2.2
  replace hc : z_C G (z_S G) ad (z_n h) p m c cX0_readKept 5 s args RX0 meth := hc
  replace hown : s.vm.findClass RX0 = some m.cls := hown
  replace hl : lv_has ls 5 [(0, .ref (ad o0)), (1, .ref (ad o1))] := hl
  show W p l e rm_X0_readKept s m args below meth c s.heap [] 0 0 (MQ below (z_Qi G ad h9 (z_n h) s.heap.size r0) args s 0 0 (z_A ad (z_n h) s.heap.size)) (F0 m 0 ls [])
  obtain ⟨rs, kt⟩ : ∃ rs : Int32 × z_T, rs = (r0, h9) := ⟨_, rfl⟩
  generalize hn0 : z_n h = n0 at hc hB ⊢
  have L4 : ∀ (nn4 : Nat) (x2 : Int32) (x3 : Int32) (h : z_T) (H : Heap) (locs : List Loc) (ls : Array Slot), z_B G ad n0 s h H locs → lv_has ls 5 [(0, .ref (ad o0)), (1, .ref (ad o1)), (2, .int x2), (3, .int x3)] → ∀ vv4, y_lpN (fun q : Int32 × Int32 × z_T => fX0_readKept_b4_i o0 o1 q.1 q.2.1 q.2.2) nn4 (x2, x3, h) = some vv4 → vv4 = (r0, h9) → W p l e rm_X0_readKept s m args below meth c H locs 0 0 (MQ below (z_Qi G ad h9 n0 s.heap.size r0) args s 0 0 (z_A ad n0 s.heap.size)) (F0 m 4 ls []) := by
    intro nn4
    induction nn4 with
    | zero => intro x2 x3 h H locs ls hB hl vv4 hv kv4; exact absurd hv (fun q => y_lpN_0 q)
    | succ nn4 ih4 =>
      intro x2 x3 h H locs ls hB hl vv4 hv kv4
      obtain ⟨w, hq, kw4⟩ := y_lpN_e hv
      clear hv
      have hv : fX0_readKept_b4_i o0 o1 x2 x3 h = some w := hq
      clear hq
      refine lv_iload_n hx hb dX0_readKept_4 rfl (lv_at hl 3 rfl) ?_
      refine lv_bipush (v := (8 : Int32)) hx hb dX0_readKept_5 (by decide) ?_
      refine lv_icmp_gt (tgt := 67) hx hb dX0_readKept_7 (by decide) (fun c1 => ?_) (fun c1 => ?_)
      · replace hv := y_br_t hv c1
        obtain ⟨t2, hq, ew⟩ := y_mp_e hv
        clear hv; subst ew
        replace kw4 : t2 = _ := kw4
        subst kw4
        have hv := hq
        clear hq
        refine lv_iload_n hx hb dX0_readKept_67 rfl (lv_at hl 2 rfl) ?_
        replace hv := Option.some.inj hv
        subst hv
        obtain ⟨e1, e2⟩ := y_pr kv4
        rw [← e1, ← e2]
        exact z_iret hc hB hr dX0_readKept_68
      · replace hv := y_br_f hv c1
        refine lv_aload_n hx hb dX0_readKept_10 rfl (lv_at hl 1 rfl) ?_
        obtain ⟨g3, hv⟩ := y_gd_e hv
        refine z_getI hc hB 6 4 g3 (by decide) (by decide) rfl (z_l2 hc qfX0_36) dX0_readKept_11 ?_
        refine lv_iconst (v := (2 : Int32)) hx hb dX0_readKept_14 (by decide) ?_
        refine lv_icmp_ne (tgt := 67) hx hb dX0_readKept_15 (by decide) (fun c4 => ?_) (fun c4 => ?_)
        · replace hv := y_br_f hv c4
          obtain ⟨t5, hq, ew⟩ := y_mp_e hv
          clear hv; subst ew
          replace kw4 : t5 = _ := kw4
          subst kw4
          have hv := hq
          clear hq
          refine lv_iload_n hx hb dX0_readKept_67 rfl (lv_at hl 2 rfl) ?_
          replace hv := Option.some.inj hv
          subst hv
          obtain ⟨e1, e2⟩ := y_pr kv4
          rw [← e1, ← e2]
          exact z_iret hc hB hr dX0_readKept_68
        · replace hv := y_br_t hv c4
          refine lv_aload_n hx hb dX0_readKept_18 rfl (lv_at hl 1 rfl) ?_
          refine lv_aload_n hx hb dX0_readKept_19 rfl (lv_at hl 0 rfl) ?_
          obtain ⟨⟨r7, h11⟩, c6, hv⟩ := y_bi_e hv
          refine z_thI hc hB (z_runV hc hB 6 (mm_X6_testHere hSK l ad o1 o0 h c6) md_X6_testHere qmX0_106 g3 (by decide) rfl rfl rfl ⟨Nat.le_of_ble_eq_true rfl, Nat.le_of_ble_eq_true rfl⟩ rfl hl.1 rfl (Nat.le_of_ble_eq_true rfl) dX0_readKept_20 ⟨Nat.le_of_ble_eq_true rfl, Nat.le_of_ble_eq_true rfl⟩) (fun H locs hB => ?_)
          refine lv_istore (lv' := [(4, .int r7), (0, .ref (ad o0)), (1, .ref (ad o1)), (2, .int x2), (3, .int x3)]) hx hb dX0_readKept_23 hl (by decide) rfl (fun ls hl => ?_)
          refine lv_iload hx hb dX0_readKept_25 (lv_at hl 0 rfl) ?_
          refine lv_iconst (v := (-1 : Int32)) hx hb dX0_readKept_27 (by decide) ?_
          refine lv_icmp_ne (tgt := 33) hx hb dX0_readKept_28 (by decide) (fun c12 => ?_) (fun c12 => ?_)
          · replace hv := y_br_f hv c12
            refine lv_iload_n hx hb dX0_readKept_33 rfl (lv_at hl 3 rfl) ?_
            refine lv_iconst (v := (1 : Int32)) hx hb dX0_readKept_34 (by decide) ?_
            refine lv_iload hx hb dX0_readKept_35 (lv_at hl 0 rfl) ?_
            refine lv_ishl hx hb dX0_readKept_37 ?_
            refine lv_iand hx hb dX0_readKept_38 ?_
            refine lv_if_eq (tgt := 50) hx hb dX0_readKept_39 (by decide) (fun c13 => ?_) (fun c13 => ?_)
            · replace hv := y_br_t hv c13
              refine lv_iload_n hx hb dX0_readKept_50 rfl (lv_at hl 3 rfl) ?_
              refine lv_iconst (v := (1 : Int32)) hx hb dX0_readKept_51 (by decide) ?_
              refine lv_iload hx hb dX0_readKept_52 (lv_at hl 0 rfl) ?_
              refine lv_ishl hx hb dX0_readKept_54 ?_
              refine lv_ior hx hb dX0_readKept_55 ?_
              obtain ⟨v14, ev14, hv⟩ := y_nm_e hv
              rw [← ev14]
              refine lv_istore_n (lv' := [(2, .int v14), (4, .int r7), (0, .ref (ad o0)), (1, .ref (ad o1)), (3, .int x3)]) hx hb dX0_readKept_56 rfl hl (by decide) rfl (fun ls hl => ?_)
              refine lv_aload_n hx hb dX0_readKept_57 rfl (lv_at hl 3 rfl) ?_
              obtain ⟨g17, hv⟩ := y_gd_e hv
              obtain ⟨h16, c15, hv⟩ := y_bi_e hv
              refine z_thV hc hB (z_runV hc hB 6 (mm_X6_advance hSK l ad o1 h11 c15) md_X6_advance qmX0_85 g17 (by decide) rfl rfl rfl ⟨Nat.le_of_ble_eq_true rfl, Nat.le_of_ble_eq_true rfl⟩ rfl hl.1 rfl (Nat.le_of_ble_eq_true rfl) dX0_readKept_58 ⟨Nat.le_of_ble_eq_true rfl, Nat.le_of_ble_eq_true rfl⟩) (fun H locs hB => ?_)
              obtain ⟨v18, ev18, hv⟩ := y_nm_e hv
              refine lv_iinc (v := v18) (lv' := [(3, .int v18), (2, .int v14), (4, .int r7), (0, .ref (ad o0)), (1, .ref (ad o1))]) hx hb dX0_readKept_61 hl (k := 4) rfl (by rw [ev18]; rfl) (by decide) rfl (fun ls hl => ?_)
              refine lv_goto (tgt := 4) hx hb dX0_readKept_64 (by decide) ?_
              replace hv := Option.some.inj hv
              subst hv
              exact ih4 v14 v18 h16 _ _ _ hB (lv_sub hl [3, 4, 1, 0] rfl) _ kw4 kv4
            · replace hv := y_br_f hv c13
              obtain ⟨t19, hq, ew⟩ := y_mp_e hv
              clear hv; subst ew
              replace kw4 : t19 = _ := kw4
              subst kw4
              have hv := hq
              clear hq
              refine lv_aload_n hx hb dX0_readKept_42 rfl (lv_at hl 2 rfl) ?_
              refine lv_iconst (v := (3 : Int32)) hx hb dX0_readKept_43 (by decide) ?_
              obtain ⟨g26, hv⟩ := y_gd_e hv
              obtain ⟨⟨r21, h25⟩, c20, hv⟩ := y_bi_e hv
              refine z_thI hc hB (z_runV hc hB 6 (mm_X6_fail hSK l ad o1 (3 : Int32) h11 c20) md_X6_fail qmX0_82 g26 (by decide) rfl rfl rfl ⟨Nat.le_of_ble_eq_true rfl, Nat.le_of_ble_eq_true rfl⟩ rfl hl.1 rfl (Nat.le_of_ble_eq_true rfl) dX0_readKept_44 ⟨Nat.le_of_ble_eq_true rfl, Nat.le_of_ble_eq_true rfl⟩) (fun H locs hB => ?_)
              refine lv_pop hx hb dX0_readKept_47 rfl ?_
              refine lv_iconst (v := (-1 : Int32)) hx hb dX0_readKept_48 (by decide) ?_
              replace hv := Option.some.inj hv
              subst hv
              obtain ⟨e1, e2⟩ := y_pr kv4
              rw [← e1, ← e2]
              exact z_iret hc hB hr dX0_readKept_49
          · replace hv := y_br_t hv c12
            obtain ⟨t27, hq, ew⟩ := y_mp_e hv
            clear hv; subst ew
            replace kw4 : t27 = _ := kw4
            subst kw4
            have hv := hq
            clear hq
            refine lv_iconst (v := (-1 : Int32)) hx hb dX0_readKept_31 (by decide) ?_
            replace hv := Option.some.inj hv
            subst hv
            obtain ⟨e1, e2⟩ := y_pr kv4
            rw [← e1, ← e2]
            exact z_iret hc hB hr dX0_readKept_32
  rw [← kt] at hv
  refine lv_iconst (v := (0 : Int32)) hx hb dX0_readKept_0 (by decide) ?_
  refine lv_istore_n (lv' := [(2, .int (0 : Int32)), (0, .ref (ad o0)), (1, .ref (ad o1))]) hx hb dX0_readKept_1 rfl hl (by decide) rfl (fun ls hl => ?_)
  refine lv_iconst (v := (0 : Int32)) hx hb dX0_readKept_2 (by decide) ?_
  refine lv_istore_n (lv' := [(3, .int (0 : Int32)), (2, .int (0 : Int32)), (0, .ref (ad o0)), (1, .ref (ad o1))]) hx hb dX0_readKept_3 rfl hl (by decide) rfl (fun ls hl => ?_)
  obtain ⟨n, hv⟩ := y_lp_e hv
  exact L4 n (0 : Int32) (0 : Int32) h _ _ _ hB (lv_sub hl [2, 3, 1, 0] rfl) _ hv kt
theorem qfX0_99 : Cond.fieldLink RX0 99 "DreamTests$Book" "dreams" "I" ∈ z_ws := List.mem_filter.mpr ⟨List.mem_append_right _ (List.mem_of_getElem? (i := 47) (by decide +kernel)), rfl⟩
theorem dX0_dreamNamed_0 : decode cX0_dreamNamed 0 = .ok (.iconst 0, 1) := by decide +kernel
theorem dX0_dreamNamed_1 : decode cX0_dreamNamed 1 = .ok (.istore_n 3, 1) := by decide +kernel
theorem dX0_dreamNamed_2 : decode cX0_dreamNamed 2 = .ok (.iload_n 3, 1) := by decide +kernel
theorem dX0_dreamNamed_3 : decode cX0_dreamNamed 3 = .ok (.aload_n 0, 1) := by decide +kernel
theorem dX0_dreamNamed_4 : decode cX0_dreamNamed 4 = .ok (.getfield 99, 3) := by decide +kernel
theorem dX0_dreamNamed_7 : decode cX0_dreamNamed 7 = .ok (.if_icmp .ge 28, 3) := by decide +kernel
theorem dX0_dreamNamed_10 : decode cX0_dreamNamed 10 = .ok (.iload_n 3, 1) := by decide +kernel
theorem dX0_dreamNamed_11 : decode cX0_dreamNamed 11 = .ok (.bipush 6, 2) := by decide +kernel
theorem dX0_dreamNamed_13 : decode cX0_dreamNamed 13 = .ok (.if_icmp .ge 22, 3) := by decide +kernel
theorem dX0_dreamNamed_16 : decode cX0_dreamNamed 16 = .ok (.aload_n 0, 1) := by decide +kernel
theorem dX0_dreamNamed_17 : decode cX0_dreamNamed 17 = .ok (.getfield 25, 3) := by decide +kernel
theorem dX0_dreamNamed_20 : decode cX0_dreamNamed 20 = .ok (.iload_n 3, 1) := by decide +kernel
theorem dX0_dreamNamed_21 : decode cX0_dreamNamed 21 = .ok (.laload, 1) := by decide +kernel
theorem dX0_dreamNamed_22 : decode cX0_dreamNamed 22 = .ok (.lload_n 1, 1) := by decide +kernel
theorem dX0_dreamNamed_23 : decode cX0_dreamNamed 23 = .ok (.lcmp, 1) := by decide +kernel
theorem dX0_dreamNamed_24 : decode cX0_dreamNamed 24 = .ok (.ifCond .ne 5, 3) := by decide +kernel
theorem dX0_dreamNamed_27 : decode cX0_dreamNamed 27 = .ok (.iload_n 3, 1) := by decide +kernel
theorem dX0_dreamNamed_28 : decode cX0_dreamNamed 28 = .ok (.ireturn, 1) := by decide +kernel
theorem dX0_dreamNamed_29 : decode cX0_dreamNamed 29 = .ok (.iinc 3 1, 3) := by decide +kernel
theorem dX0_dreamNamed_32 : decode cX0_dreamNamed 32 = .ok (.goto (-30), 3) := by decide +kernel
theorem dX0_dreamNamed_35 : decode cX0_dreamNamed 35 = .ok (.iconst (-1), 1) := by decide +kernel
theorem dX0_dreamNamed_36 : decode cX0_dreamNamed 36 = .ok (.ireturn, 1) := by decide +kernel
abbrev rm_X0_dreamNamed : Room := { frames := 0, cells := 0, slots := 0, locals := 0 }
noncomputable def fX0_dreamNamed_b2_i (o0 : Nat) (l1 : Int64) (h : z_T) (x3 : Int32) : Option ((Int32) ⊕ (Int32)) :=
  y_gd (z_ok h o0 0) <|
  y_br ((z_I h o0 2) ≤ x3)
    (y_mp <|
    some (-1 : Int32))
    (y_br ((6 : Int32) ≤ x3)
      (y_mp <|
      some (-1 : Int32))
      (y_bi (z_R h o0 8) fun o6 =>
      y_gd (z_ok h o6 14) <|
      y_gd (z_ix x3 (z_N h o6)) <|
      y_br ((lg_cmp (z_L h o6 x3.toNatClampNeg) l1) = 0)
        (y_mp <|
        some x3)
        (y_nm (x3 + 1) fun v10 =>
        some (.inl (v10)))))
noncomputable def fX0_dreamNamed_b2 (o0 : Nat) (l1 : Int64) (x3 : Int32) (h : z_T) : Option (Int32) := y_lp (fun q : Int32 => fX0_dreamNamed_b2_i o0 l1 h q) (x3)
noncomputable def fX0_dreamNamed (o0 : Nat) (l1 : Int64) (h : z_T) : Option (Int32) :=
  fX0_dreamNamed_b2 o0 l1 (0 : Int32) h
set_option maxHeartbeats 4000000 in
set_option maxRecDepth 100000 in
theorem mm_X0_dreamNamed {G : z_Gt} (hSK : z_SK (z_S G)) (l : Launch) (ad : Nat → Nat) (o0 : Nat) (l1 : Int64) (h : z_T) {r0 : Int32} (hv : fX0_dreamNamed o0 l1 h = some r0) : z_Mi G (z_S G) l yX0_dreamNamed cX0_dreamNamed 4 (.int) rm_X0_dreamNamed 0 0 [.ref (ad o0), .long l1] ad h h r0 := by
  refine z_ofW hSK (by decide) (Nat.le_of_ble_eq_true rfl) ?_
  intro p e s m args below meth c ls hc hr hnm hB hl
  have hx := hc.1.1
  have hb := hc.1.2.1
  have hown := hc.1.2.2.2.1
  have hts := hc.1.2.2.2.2
  replace hc : z_C G (z_S G) ad (z_n h) p m c cX0_dreamNamed 4 s args RX0 meth := hc
  replace hown : s.vm.findClass RX0 = some m.cls := hown
  replace hl : lv_has ls 4 [(0, .ref (ad o0)), (1, .long l1)] := hl
  show W p l e rm_X0_dreamNamed s m args below meth c s.heap [] 0 0 (MQ below (z_Qi G ad h (z_n h) s.heap.size r0) args s 0 0 (z_A ad (z_n h) s.heap.size)) (F0 m 0 ls [])
  obtain ⟨rs, kt⟩ : ∃ rs : Int32, rs = r0 := ⟨_, rfl⟩
  generalize hn0 : z_n h = n0 at hc hB ⊢
  have L2 : ∀ (nn2 : Nat) (x3 : Int32) (H : Heap) (locs : List Loc) (ls : Array Slot), z_B G ad n0 s h H locs → lv_has ls 4 [(0, .ref (ad o0)), (1, .long l1), (3, .int x3)] → ∀ vv2, y_lpN (fun q : Int32 => fX0_dreamNamed_b2_i o0 l1 h q) nn2 (x3) = some vv2 → vv2 = r0 → W p l e rm_X0_dreamNamed s m args below meth c H locs 0 0 (MQ below (z_Qi G ad h n0 s.heap.size r0) args s 0 0 (z_A ad n0 s.heap.size)) (F0 m 2 ls []) := by
    intro nn2
    induction nn2 with
    | zero => intro x3 H locs ls hB hl vv2 hv kv2; exact absurd hv (fun q => y_lpN_0 q)
    | succ nn2 ih2 =>
      intro x3 H locs ls hB hl vv2 hv kv2
      obtain ⟨w, hq, kw2⟩ := y_lpN_e hv
      clear hv
      have hv : fX0_dreamNamed_b2_i o0 l1 h x3 = some w := hq
      clear hq
      refine lv_iload_n hx hb dX0_dreamNamed_2 rfl (lv_at hl 2 rfl) ?_
      refine lv_aload_n hx hb dX0_dreamNamed_3 rfl (lv_at hl 0 rfl) ?_
      obtain ⟨g1, hv⟩ := y_gd_e hv
      refine z_getI hc hB 0 2 g1 (by decide) (by decide) rfl (z_l1 hc qfX0_99) dX0_dreamNamed_4 ?_
      refine lv_icmp_ge (tgt := 35) hx hb dX0_dreamNamed_7 (by decide) (fun c2 => ?_) (fun c2 => ?_)
      · replace hv := y_br_t hv c2
        obtain ⟨t3, hq, ew⟩ := y_mp_e hv
        clear hv; subst ew
        replace kw2 : t3 = _ := kw2
        subst kw2
        have hv := hq
        clear hq
        refine lv_iconst (v := (-1 : Int32)) hx hb dX0_dreamNamed_35 (by decide) ?_
        replace hv := Option.some.inj hv
        subst hv
        rw [← kv2]
        exact z_iret hc hB hr dX0_dreamNamed_36
      · replace hv := y_br_f hv c2
        refine lv_iload_n hx hb dX0_dreamNamed_10 rfl (lv_at hl 2 rfl) ?_
        refine lv_bipush (v := (6 : Int32)) hx hb dX0_dreamNamed_11 (by decide) ?_
        refine lv_icmp_ge (tgt := 35) hx hb dX0_dreamNamed_13 (by decide) (fun c4 => ?_) (fun c4 => ?_)
        · replace hv := y_br_t hv c4
          obtain ⟨t5, hq, ew⟩ := y_mp_e hv
          clear hv; subst ew
          replace kw2 : t5 = _ := kw2
          subst kw2
          have hv := hq
          clear hq
          refine lv_iconst (v := (-1 : Int32)) hx hb dX0_dreamNamed_35 (by decide) ?_
          replace hv := Option.some.inj hv
          subst hv
          rw [← kv2]
          exact z_iret hc hB hr dX0_dreamNamed_36
        · replace hv := y_br_f hv c4
          refine lv_aload_n hx hb dX0_dreamNamed_16 rfl (lv_at hl 0 rfl) ?_
          obtain ⟨o6, eo6, hv⟩ := y_bi_e hv
          refine z_getR hc hB 0 8 g1 eo6 (by decide) (by decide) rfl (z_l1 hc qfX0_25) dX0_dreamNamed_17 ?_
          refine lv_iload_n hx hb dX0_dreamNamed_20 rfl (lv_at hl 2 rfl) ?_
          obtain ⟨g7, hv⟩ := y_gd_e hv
          obtain ⟨i8, hv⟩ := y_gd_e hv
          refine z_lald hc hB g7 i8 dX0_dreamNamed_21 ?_
          refine lv_lload_n hx hb dX0_dreamNamed_22 rfl (lv_at hl 1 rfl) ?_
          refine W.lcmp hx hb dX0_dreamNamed_23 ?_
          refine lv_if_ne (tgt := 29) hx hb dX0_dreamNamed_24 (by decide) (fun c9 => ?_) (fun c9 => ?_)
          · replace hv := y_br_f hv c9
            obtain ⟨v10, ev10, hv⟩ := y_nm_e hv
            refine lv_iinc (v := v10) (lv' := [(3, .int v10), (0, .ref (ad o0)), (1, .long l1)]) hx hb dX0_dreamNamed_29 hl (k := 2) rfl (by rw [ev10]; rfl) (by decide) rfl (fun ls hl => ?_)
            refine lv_goto (tgt := 2) hx hb dX0_dreamNamed_32 (by decide) ?_
            replace hv := Option.some.inj hv
            subst hv
            exact ih2 v10 _ _ _ hB (lv_sub hl [1, 2, 0] rfl) _ kw2 kv2
          · replace hv := y_br_t hv c9
            obtain ⟨t11, hq, ew⟩ := y_mp_e hv
            clear hv; subst ew
            replace kw2 : t11 = _ := kw2
            subst kw2
            have hv := hq
            clear hq
            refine lv_iload_n hx hb dX0_dreamNamed_27 rfl (lv_at hl 2 rfl) ?_
            replace hv := Option.some.inj hv
            subst hv
            rw [← kv2]
            exact z_iret hc hB hr dX0_dreamNamed_28
  rw [← kt] at hv
  refine lv_iconst (v := (0 : Int32)) hx hb dX0_dreamNamed_0 (by decide) ?_
  refine lv_istore_n (lv' := [(3, .int (0 : Int32)), (0, .ref (ad o0)), (1, .long l1)]) hx hb dX0_dreamNamed_1 rfl hl (by decide) rfl (fun ls hl => ?_)
  obtain ⟨n, hv⟩ := y_lp_e hv
  exact L2 n (0 : Int32) _ _ _ hB (lv_sub hl [1, 2, 0] rfl) _ hv kt
theorem qmX0_122 : Cond.methodLink RX0 122 yX6_isName ∈ z_ws := List.mem_filter.mpr ⟨List.mem_append_right _ (List.mem_of_getElem? (i := 406) (by decide +kernel)), rfl⟩
theorem qfX0_88 : Cond.fieldLinkNest RX0 88 "DreamTests$Reader" "name" "J" "DreamTests" ∈ z_nw := List.mem_filter.mpr ⟨List.mem_of_getElem? (i := 117) (by decide +kernel), rfl⟩
theorem qmX0_126 : Cond.methodLink RX0 126 yX0_testNamed ∈ z_ws := List.mem_filter.mpr ⟨List.mem_append_right _ (List.mem_of_getElem? (i := 411) (by decide +kernel)), rfl⟩
theorem qmX0_130 : Cond.methodLink RX0 130 yX0_dreamNamed ∈ z_ws := List.mem_filter.mpr ⟨List.mem_append_right _ (List.mem_of_getElem? (i := 415) (by decide +kernel)), rfl⟩
theorem qc_X0_dreamNamed : Cond.code yX0_dreamNamed cX0_dreamNamed 4 (some .int) ∈ z_ws := List.mem_filter.mpr ⟨List.mem_append_right _ (List.mem_of_getElem? (i := 418) (by decide +kernel)), rfl⟩
theorem qi_X0_dreamNamed : Cond.instanceMethod yX0_dreamNamed ∈ z_ws := List.mem_filter.mpr ⟨List.mem_append_right _ (List.mem_of_getElem? (i := 416) (by decide +kernel)), rfl⟩
theorem qs_X0_dreamNamed : Cond.selects RX0 yX0_dreamNamed yX0_dreamNamed ∈ z_ws := List.mem_filter.mpr ⟨List.mem_append_right _ (List.mem_of_getElem? (i := 417) (by decide +kernel)), rfl⟩
theorem md_X0_dreamNamed : z_mdV yX0_dreamNamed cX0_dreamNamed 4 (some .int) 1 := ⟨⟨qn_RX0, qc_X0_dreamNamed, ⟨by decide +kernel, by decide +kernel, by decide +kernel⟩⟩, qi_X0_dreamNamed, qs_X0_dreamNamed⟩
theorem dX0_takeNewName_0 : decode cX0_takeNewName 0 = .ok (.aload_n 1, 1) := by decide +kernel
theorem dX0_takeNewName_1 : decode cX0_takeNewName 1 = .ok (.invokevirtual 122, 3) := by decide +kernel
theorem dX0_takeNewName_4 : decode cX0_takeNewName 4 = .ok (.ifCond .ne 9, 3) := by decide +kernel
theorem dX0_takeNewName_7 : decode cX0_takeNewName 7 = .ok (.aload_n 1, 1) := by decide +kernel
theorem dX0_takeNewName_8 : decode cX0_takeNewName 8 = .ok (.iconst 1, 1) := by decide +kernel
theorem dX0_takeNewName_9 : decode cX0_takeNewName 9 = .ok (.invokevirtual 82, 3) := by decide +kernel
theorem dX0_takeNewName_12 : decode cX0_takeNewName 12 = .ok (.ireturn, 1) := by decide +kernel
theorem dX0_takeNewName_13 : decode cX0_takeNewName 13 = .ok (.aload_n 0, 1) := by decide +kernel
theorem dX0_takeNewName_14 : decode cX0_takeNewName 14 = .ok (.aload_n 1, 1) := by decide +kernel
theorem dX0_takeNewName_15 : decode cX0_takeNewName 15 = .ok (.getfield 88, 3) := by decide +kernel
theorem dX0_takeNewName_18 : decode cX0_takeNewName 18 = .ok (.invokevirtual 126, 3) := by decide +kernel
theorem dX0_takeNewName_21 : decode cX0_takeNewName 21 = .ok (.iconst (-1), 1) := by decide +kernel
theorem dX0_takeNewName_22 : decode cX0_takeNewName 22 = .ok (.if_icmp .ne 15, 3) := by decide +kernel
theorem dX0_takeNewName_25 : decode cX0_takeNewName 25 = .ok (.aload_n 0, 1) := by decide +kernel
theorem dX0_takeNewName_26 : decode cX0_takeNewName 26 = .ok (.aload_n 1, 1) := by decide +kernel
theorem dX0_takeNewName_27 : decode cX0_takeNewName 27 = .ok (.getfield 88, 3) := by decide +kernel
theorem dX0_takeNewName_30 : decode cX0_takeNewName 30 = .ok (.invokevirtual 130, 3) := by decide +kernel
theorem dX0_takeNewName_33 : decode cX0_takeNewName 33 = .ok (.iconst (-1), 1) := by decide +kernel
theorem dX0_takeNewName_34 : decode cX0_takeNewName 34 = .ok (.if_icmp .eq 9, 3) := by decide +kernel
theorem dX0_takeNewName_37 : decode cX0_takeNewName 37 = .ok (.aload_n 1, 1) := by decide +kernel
theorem dX0_takeNewName_38 : decode cX0_takeNewName 38 = .ok (.iconst 3, 1) := by decide +kernel
theorem dX0_takeNewName_39 : decode cX0_takeNewName 39 = .ok (.invokevirtual 82, 3) := by decide +kernel
theorem dX0_takeNewName_42 : decode cX0_takeNewName 42 = .ok (.ireturn, 1) := by decide +kernel
theorem dX0_takeNewName_43 : decode cX0_takeNewName 43 = .ok (.aload_n 1, 1) := by decide +kernel
theorem dX0_takeNewName_44 : decode cX0_takeNewName 44 = .ok (.invokevirtual 85, 3) := by decide +kernel
theorem dX0_takeNewName_47 : decode cX0_takeNewName 47 = .ok (.iconst 1, 1) := by decide +kernel
theorem dX0_takeNewName_48 : decode cX0_takeNewName 48 = .ok (.ireturn, 1) := by decide +kernel
abbrev rm_X0_takeNewName : Room := { frames := 3, cells := 0, slots := 0, locals := 69 }
noncomputable def fX0_takeNewName_b37 (o1 : Nat) (h : z_T) : Option (Int32 × z_T) :=
  y_gd (z_ok h o1 6) <|
  y_bi (fX6_fail o1 (3 : Int32) h) fun ⟨r2, h6⟩ =>
  y_gd (y_b r2) <|
  some (r2, h6)
noncomputable def fX0_takeNewName (o0 : Nat) (o1 : Nat) (h : z_T) : Option (Int32 × z_T) :=
  y_gd (z_ok h o1 6) <|
  y_bi (fX6_isName o1 h) fun r10 =>
  y_br (r10 = 0)
    (y_bi (fX6_fail o1 (1 : Int32) h) fun ⟨r32, h36⟩ =>
    y_gd (y_b r32) <|
    some (r32, h36))
    (y_gd (z_ok h o0 0) <|
    y_bi (fX0_testNamed o0 (z_L h o1 6) h) fun r17 =>
    y_br (r17 = (-1 : Int32))
      (y_bi (fX0_dreamNamed o0 (z_L h o1 6) h) fun r24 =>
      y_br (r24 = (-1 : Int32))
        (y_bi (fX6_advance o1 h) fun h30 =>
        some ((1 : Int32), h30))
        (fX0_takeNewName_b37 o1 h))
      (fX0_takeNewName_b37 o1 h))
set_option maxHeartbeats 4000000 in
set_option maxRecDepth 100000 in
theorem mm_X0_takeNewName {G : z_Gt} (hSK : z_SK (z_S G)) (l : Launch) (ad : Nat → Nat) (o0 : Nat) (o1 : Nat) (h : z_T) {r0 : Int32} {h9 : z_T} (hv : fX0_takeNewName o0 o1 h = some (r0, h9)) : z_Mi G (z_S G) l yX0_takeNewName cX0_takeNewName 2 (.boolean) rm_X0_takeNewName 0 0 [.ref (ad o0), .ref (ad o1)] ad h h9 r0 := by
  refine z_ofW hSK (by decide) (Nat.le_of_ble_eq_true rfl) ?_
  intro p e s m args below meth c ls hc hr hnm hB hl
  have hx := hc.1.1
  have hb := hc.1.2.1
  have hown := hc.1.2.2.2.1
  have hts := hc.1.2.2.2.2
  replace hc : z_C G (z_S G) ad (z_n h) p m c cX0_takeNewName 2 s args RX0 meth := hc
  replace hown : s.vm.findClass RX0 = some m.cls := hown
  replace hl : lv_has ls 2 [(0, .ref (ad o0)), (1, .ref (ad o1))] := hl
  show W p l e rm_X0_takeNewName s m args below meth c s.heap [] 0 0 (MQ below (z_Qi G ad h9 (z_n h) s.heap.size r0) args s 0 0 (z_A ad (z_n h) s.heap.size)) (F0 m 0 ls [])
  obtain ⟨rs, kt⟩ : ∃ rs : Int32 × z_T, rs = (r0, h9) := ⟨_, rfl⟩
  generalize hn0 : z_n h = n0 at hc hB ⊢
  have b37 : ∀ (h : z_T) (H : Heap) (locs : List Loc) (ls : Array Slot), z_B G ad n0 s h H locs → lv_has ls 2 [(1, .ref (ad o1))] → ∀ w, fX0_takeNewName_b37 o1 h = some w → w = (r0, h9) → W p l e rm_X0_takeNewName s m args below meth c H locs 0 0 (MQ below (z_Qi G ad h9 n0 s.heap.size r0) args s 0 0 (z_A ad n0 s.heap.size)) (F0 m 37 ls []) := by
    intro h H locs ls hB hl w hv kb
    refine lv_aload_n hx hb dX0_takeNewName_37 rfl (lv_at hl 0 rfl) ?_
    refine lv_iconst (v := (3 : Int32)) hx hb dX0_takeNewName_38 (by decide) ?_
    obtain ⟨g7, hv⟩ := y_gd_e hv
    obtain ⟨⟨r2, h6⟩, c1, hv⟩ := y_bi_e hv
    refine z_thI hc hB (z_runV hc hB 6 (mm_X6_fail hSK l ad o1 (3 : Int32) h c1) md_X6_fail qmX0_82 g7 (by decide) rfl rfl rfl ⟨Nat.le_of_ble_eq_true rfl, Nat.le_of_ble_eq_true rfl⟩ rfl hl.1 rfl (Nat.le_of_ble_eq_true rfl) dX0_takeNewName_39 ⟨Nat.le_of_ble_eq_true rfl, Nat.le_of_ble_eq_true rfl⟩) (fun H locs hB => ?_)
    obtain ⟨y8, hv⟩ := y_gd_e hv
    replace hv := Option.some.inj hv
    subst hv
    obtain ⟨e1, e2⟩ := y_pr kb
    rw [← e1, ← e2]
    exact z_zret hc hB hr (y_b_n y8) dX0_takeNewName_42
  rw [← kt] at hv
  refine lv_aload_n hx hb dX0_takeNewName_0 rfl (lv_at hl 1 rfl) ?_
  obtain ⟨g14, hv⟩ := y_gd_e hv
  obtain ⟨r10, c9, hv⟩ := y_bi_e hv
  refine z_thI hc hB (z_runV hc hB 6 (mm_X6_isName hSK l ad o1 h c9) md_X6_isName qmX0_122 g14 (by decide) rfl rfl rfl ⟨Nat.le_of_ble_eq_true rfl, Nat.le_of_ble_eq_true rfl⟩ rfl hl.1 rfl (Nat.le_of_ble_eq_true rfl) dX0_takeNewName_1 ⟨Nat.le_of_ble_eq_true rfl, Nat.le_of_ble_eq_true rfl⟩) (fun H locs hB => ?_)
  refine lv_if_ne (tgt := 13) hx hb dX0_takeNewName_4 (by decide) (fun c15 => ?_) (fun c15 => ?_)
  · replace hv := y_br_f hv c15
    refine lv_aload_n hx hb dX0_takeNewName_13 rfl (lv_at hl 0 rfl) ?_
    refine lv_aload_n hx hb dX0_takeNewName_14 rfl (lv_at hl 1 rfl) ?_
    refine z_getL hc hB 6 6 g14 (by decide) (by decide) rfl (z_l2 hc qfX0_88) dX0_takeNewName_15 ?_
    obtain ⟨g21, hv⟩ := y_gd_e hv
    obtain ⟨r17, c16, hv⟩ := y_bi_e hv
    refine z_thI hc hB (z_runV hc hB 0 (mm_X0_testNamed hSK l ad o0 (z_L h o1 6) h c16) md_X0_testNamed qmX0_126 g21 (by decide) rfl rfl rfl ⟨Nat.le_of_ble_eq_true rfl, Nat.le_of_ble_eq_true rfl⟩ rfl hl.1 rfl (Nat.le_of_ble_eq_true rfl) dX0_takeNewName_18 ⟨Nat.le_of_ble_eq_true rfl, Nat.le_of_ble_eq_true rfl⟩) (fun H locs hB => ?_)
    refine lv_iconst (v := (-1 : Int32)) hx hb dX0_takeNewName_21 (by decide) ?_
    refine lv_icmp_ne (tgt := 37) hx hb dX0_takeNewName_22 (by decide) (fun c22 => ?_) (fun c22 => ?_)
    · replace hv := y_br_f hv c22
      exact b37 h _ _ _ hB (lv_sub hl [1] rfl) _ hv kt
    · replace hv := y_br_t hv c22
      refine lv_aload_n hx hb dX0_takeNewName_25 rfl (lv_at hl 0 rfl) ?_
      refine lv_aload_n hx hb dX0_takeNewName_26 rfl (lv_at hl 1 rfl) ?_
      refine z_getL hc hB 6 6 g14 (by decide) (by decide) rfl (z_l2 hc qfX0_88) dX0_takeNewName_27 ?_
      obtain ⟨r24, c23, hv⟩ := y_bi_e hv
      refine z_thI hc hB (z_runV hc hB 0 (mm_X0_dreamNamed hSK l ad o0 (z_L h o1 6) h c23) md_X0_dreamNamed qmX0_130 g21 (by decide) rfl rfl rfl ⟨Nat.le_of_ble_eq_true rfl, Nat.le_of_ble_eq_true rfl⟩ rfl hl.1 rfl (Nat.le_of_ble_eq_true rfl) dX0_takeNewName_30 ⟨Nat.le_of_ble_eq_true rfl, Nat.le_of_ble_eq_true rfl⟩) (fun H locs hB => ?_)
      refine lv_iconst (v := (-1 : Int32)) hx hb dX0_takeNewName_33 (by decide) ?_
      refine lv_icmp_eq (tgt := 43) hx hb dX0_takeNewName_34 (by decide) (fun c28 => ?_) (fun c28 => ?_)
      · replace hv := y_br_t hv c28
        refine lv_aload_n hx hb dX0_takeNewName_43 rfl (lv_at hl 1 rfl) ?_
        obtain ⟨h30, c29, hv⟩ := y_bi_e hv
        refine z_thV hc hB (z_runV hc hB 6 (mm_X6_advance hSK l ad o1 h c29) md_X6_advance qmX0_85 g14 (by decide) rfl rfl rfl ⟨Nat.le_of_ble_eq_true rfl, Nat.le_of_ble_eq_true rfl⟩ rfl hl.1 rfl (Nat.le_of_ble_eq_true rfl) dX0_takeNewName_44 ⟨Nat.le_of_ble_eq_true rfl, Nat.le_of_ble_eq_true rfl⟩) (fun H locs hB => ?_)
        refine lv_iconst (v := (1 : Int32)) hx hb dX0_takeNewName_47 (by decide) ?_
        replace hv := Option.some.inj hv
        subst hv
        obtain ⟨e1, e2⟩ := y_pr kt
        rw [← e1, ← e2]
        exact z_zret hc hB hr rfl dX0_takeNewName_48
      · replace hv := y_br_f hv c28
        exact b37 h _ _ _ hB (lv_sub hl [1] rfl) _ hv kt
  · replace hv := y_br_t hv c15
    refine lv_aload_n hx hb dX0_takeNewName_7 rfl (lv_at hl 1 rfl) ?_
    refine lv_iconst (v := (1 : Int32)) hx hb dX0_takeNewName_8 (by decide) ?_
    obtain ⟨⟨r32, h36⟩, c31, hv⟩ := y_bi_e hv
    refine z_thI hc hB (z_runV hc hB 6 (mm_X6_fail hSK l ad o1 (1 : Int32) h c31) md_X6_fail qmX0_82 g14 (by decide) rfl rfl rfl ⟨Nat.le_of_ble_eq_true rfl, Nat.le_of_ble_eq_true rfl⟩ rfl hl.1 rfl (Nat.le_of_ble_eq_true rfl) dX0_takeNewName_9 ⟨Nat.le_of_ble_eq_true rfl, Nat.le_of_ble_eq_true rfl⟩) (fun H locs hB => ?_)
    obtain ⟨y37, hv⟩ := y_gd_e hv
    replace hv := Option.some.inj hv
    subst hv
    obtain ⟨e1, e2⟩ := y_pr kt
    rw [← e1, ← e2]
    exact z_zret hc hB hr (y_b_n y37) dX0_takeNewName_12
theorem qmX6_34 : Cond.methodLink RX6 34 yX6_advance ∈ z_ws := List.mem_filter.mpr ⟨List.mem_append_right _ (List.mem_of_getElem? (i := 343) (by decide +kernel)), rfl⟩
theorem dX6_takeNumber_0 : decode cX6_takeNumber 0 = .ok (.aload_n 0, 1) := by decide +kernel
theorem dX6_takeNumber_1 : decode cX6_takeNumber 1 = .ok (.getfield 50, 3) := by decide +kernel
theorem dX6_takeNumber_4 : decode cX6_takeNumber 4 = .ok (.istore_n 3, 1) := by decide +kernel
theorem dX6_takeNumber_5 : decode cX6_takeNumber 5 = .ok (.aload_n 0, 1) := by decide +kernel
theorem dX6_takeNumber_6 : decode cX6_takeNumber 6 = .ok (.getfield 60, 3) := by decide +kernel
theorem dX6_takeNumber_9 : decode cX6_takeNumber 9 = .ok (.iconst 3, 1) := by decide +kernel
theorem dX6_takeNumber_10 : decode cX6_takeNumber 10 = .ok (.if_icmp .eq 11, 3) := by decide +kernel
theorem dX6_takeNumber_13 : decode cX6_takeNumber 13 = .ok (.aload_n 0, 1) := by decide +kernel
theorem dX6_takeNumber_14 : decode cX6_takeNumber 14 = .ok (.iconst 1, 1) := by decide +kernel
theorem dX6_takeNumber_15 : decode cX6_takeNumber 15 = .ok (.invokevirtual 93, 3) := by decide +kernel
theorem dX6_takeNumber_18 : decode cX6_takeNumber 18 = .ok (.pop, 1) := by decide +kernel
theorem dX6_takeNumber_19 : decode cX6_takeNumber 19 = .ok (.iconst (-1), 1) := by decide +kernel
theorem dX6_takeNumber_20 : decode cX6_takeNumber 20 = .ok (.ireturn, 1) := by decide +kernel
theorem dX6_takeNumber_21 : decode cX6_takeNumber 21 = .ok (.iload_n 3, 1) := by decide +kernel
theorem dX6_takeNumber_22 : decode cX6_takeNumber 22 = .ok (.iload_n 1, 1) := by decide +kernel
theorem dX6_takeNumber_23 : decode cX6_takeNumber 23 = .ok (.if_icmp .lt 8, 3) := by decide +kernel
theorem dX6_takeNumber_26 : decode cX6_takeNumber 26 = .ok (.iload_n 3, 1) := by decide +kernel
theorem dX6_takeNumber_27 : decode cX6_takeNumber 27 = .ok (.iload_n 2, 1) := by decide +kernel
theorem dX6_takeNumber_28 : decode cX6_takeNumber 28 = .ok (.if_icmp .le 11, 3) := by decide +kernel
theorem dX6_takeNumber_31 : decode cX6_takeNumber 31 = .ok (.aload_n 0, 1) := by decide +kernel
theorem dX6_takeNumber_32 : decode cX6_takeNumber 32 = .ok (.iconst 2, 1) := by decide +kernel
theorem dX6_takeNumber_33 : decode cX6_takeNumber 33 = .ok (.invokevirtual 93, 3) := by decide +kernel
theorem dX6_takeNumber_36 : decode cX6_takeNumber 36 = .ok (.pop, 1) := by decide +kernel
theorem dX6_takeNumber_37 : decode cX6_takeNumber 37 = .ok (.iconst (-1), 1) := by decide +kernel
theorem dX6_takeNumber_38 : decode cX6_takeNumber 38 = .ok (.ireturn, 1) := by decide +kernel
theorem dX6_takeNumber_39 : decode cX6_takeNumber 39 = .ok (.aload_n 0, 1) := by decide +kernel
theorem dX6_takeNumber_40 : decode cX6_takeNumber 40 = .ok (.invokevirtual 34, 3) := by decide +kernel
theorem dX6_takeNumber_43 : decode cX6_takeNumber 43 = .ok (.iload_n 3, 1) := by decide +kernel
theorem dX6_takeNumber_44 : decode cX6_takeNumber 44 = .ok (.ireturn, 1) := by decide +kernel
abbrev rm_X6_takeNumber : Room := { frames := 3, cells := 0, slots := 0, locals := 69 }
noncomputable def fX6_takeNumber_b31 (o0 : Nat) (h : z_T) : Option (Int32 × z_T) :=
  y_gd (z_ok h o0 6) <|
  y_bi (fX6_fail o0 (2 : Int32) h) fun ⟨r2, h6⟩ =>
  some ((-1 : Int32), h6)
noncomputable def fX6_takeNumber (o0 : Nat) (x1 : Int32) (x2 : Int32) (h : z_T) : Option (Int32 × z_T) :=
  y_gd (z_ok h o0 6) <|
  y_nm ((z_I h o0 5)) fun v9 =>
  y_br ((z_I h o0 4) = (3 : Int32))
    (y_br (v9 < x1)
      (fX6_takeNumber_b31 o0 h)
      (y_br (v9 ≤ x2)
        (y_bi (fX6_advance o0 h) fun h14 =>
        some (v9, h14))
        (fX6_takeNumber_b31 o0 h)))
    (y_bi (fX6_fail o0 (1 : Int32) h) fun ⟨r16, h20⟩ =>
    some ((-1 : Int32), h20))
set_option maxHeartbeats 4000000 in
set_option maxRecDepth 100000 in
theorem mm_X6_takeNumber {G : z_Gt} (hSK : z_SK (z_S G)) (l : Launch) (ad : Nat → Nat) (o0 : Nat) (x1 : Int32) (x2 : Int32) (h : z_T) {r0 : Int32} {h9 : z_T} (hv : fX6_takeNumber o0 x1 x2 h = some (r0, h9)) : z_Mi G (z_S G) l yX6_takeNumber cX6_takeNumber 4 (.int) rm_X6_takeNumber 0 0 [.ref (ad o0), .int x1, .int x2] ad h h9 r0 := by
  refine z_ofW hSK (by decide) (Nat.le_of_ble_eq_true rfl) ?_
  intro p e s m args below meth c ls hc hr hnm hB hl
  have hx := hc.1.1
  have hb := hc.1.2.1
  have hown := hc.1.2.2.2.1
  have hts := hc.1.2.2.2.2
  replace hc : z_C G (z_S G) ad (z_n h) p m c cX6_takeNumber 4 s args RX6 meth := hc
  replace hown : s.vm.findClass RX6 = some m.cls := hown
  replace hl : lv_has ls 4 [(0, .ref (ad o0)), (1, .int x1), (2, .int x2)] := hl
  show W p l e rm_X6_takeNumber s m args below meth c s.heap [] 0 0 (MQ below (z_Qi G ad h9 (z_n h) s.heap.size r0) args s 0 0 (z_A ad (z_n h) s.heap.size)) (F0 m 0 ls [])
  obtain ⟨rs, kt⟩ : ∃ rs : Int32 × z_T, rs = (r0, h9) := ⟨_, rfl⟩
  generalize hn0 : z_n h = n0 at hc hB ⊢
  have b31 : ∀ (h : z_T) (H : Heap) (locs : List Loc) (ls : Array Slot), z_B G ad n0 s h H locs → lv_has ls 4 [(0, .ref (ad o0))] → ∀ w, fX6_takeNumber_b31 o0 h = some w → w = (r0, h9) → W p l e rm_X6_takeNumber s m args below meth c H locs 0 0 (MQ below (z_Qi G ad h9 n0 s.heap.size r0) args s 0 0 (z_A ad n0 s.heap.size)) (F0 m 31 ls []) := by
    intro h H locs ls hB hl w hv kb
    refine lv_aload_n hx hb dX6_takeNumber_31 rfl (lv_at hl 0 rfl) ?_
    refine lv_iconst (v := (2 : Int32)) hx hb dX6_takeNumber_32 (by decide) ?_
    obtain ⟨g7, hv⟩ := y_gd_e hv
    obtain ⟨⟨r2, h6⟩, c1, hv⟩ := y_bi_e hv
    refine z_thI hc hB (z_runV hc hB 6 (mm_X6_fail hSK l ad o0 (2 : Int32) h c1) md_X6_fail qmX6_93 g7 (by decide) rfl rfl rfl ⟨Nat.le_of_ble_eq_true rfl, Nat.le_of_ble_eq_true rfl⟩ rfl hl.1 rfl (Nat.le_of_ble_eq_true rfl) dX6_takeNumber_33 ⟨Nat.le_of_ble_eq_true rfl, Nat.le_of_ble_eq_true rfl⟩) (fun H locs hB => ?_)
    refine lv_pop hx hb dX6_takeNumber_36 rfl ?_
    refine lv_iconst (v := (-1 : Int32)) hx hb dX6_takeNumber_37 (by decide) ?_
    replace hv := Option.some.inj hv
    subst hv
    obtain ⟨e1, e2⟩ := y_pr kb
    rw [← e1, ← e2]
    exact z_iret hc hB hr dX6_takeNumber_38
  rw [← kt] at hv
  refine lv_aload_n hx hb dX6_takeNumber_0 rfl (lv_at hl 0 rfl) ?_
  obtain ⟨g8, hv⟩ := y_gd_e hv
  refine z_getI hc hB 6 5 g8 (by decide) (by decide) rfl (z_l1 hc qfX6_50) dX6_takeNumber_1 ?_
  obtain ⟨v9, ev9, hv⟩ := y_nm_e hv
  rw [← ev9]
  refine lv_istore_n (lv' := [(3, .int v9), (0, .ref (ad o0)), (1, .int x1), (2, .int x2)]) hx hb dX6_takeNumber_4 rfl hl (by decide) rfl (fun ls hl => ?_)
  refine lv_aload_n hx hb dX6_takeNumber_5 rfl (lv_at hl 1 rfl) ?_
  refine z_getI hc hB 6 4 g8 (by decide) (by decide) rfl (z_l1 hc qfX6_60) dX6_takeNumber_6 ?_
  refine lv_iconst (v := (3 : Int32)) hx hb dX6_takeNumber_9 (by decide) ?_
  refine lv_icmp_eq (tgt := 21) hx hb dX6_takeNumber_10 (by decide) (fun c10 => ?_) (fun c10 => ?_)
  · replace hv := y_br_t hv c10
    refine lv_iload_n hx hb dX6_takeNumber_21 rfl (lv_at hl 0 rfl) ?_
    refine lv_iload_n hx hb dX6_takeNumber_22 rfl (lv_at hl 2 rfl) ?_
    refine lv_icmp_lt (tgt := 31) hx hb dX6_takeNumber_23 (by decide) (fun c11 => ?_) (fun c11 => ?_)
    · replace hv := y_br_t hv c11
      exact b31 h _ _ _ hB (lv_sub hl [1] rfl) _ hv kt
    · replace hv := y_br_f hv c11
      refine lv_iload_n hx hb dX6_takeNumber_26 rfl (lv_at hl 0 rfl) ?_
      refine lv_iload_n hx hb dX6_takeNumber_27 rfl (lv_at hl 3 rfl) ?_
      refine lv_icmp_le (tgt := 39) hx hb dX6_takeNumber_28 (by decide) (fun c12 => ?_) (fun c12 => ?_)
      · replace hv := y_br_t hv c12
        refine lv_aload_n hx hb dX6_takeNumber_39 rfl (lv_at hl 1 rfl) ?_
        obtain ⟨h14, c13, hv⟩ := y_bi_e hv
        refine z_thV hc hB (z_runV hc hB 6 (mm_X6_advance hSK l ad o0 h c13) md_X6_advance qmX6_34 g8 (by decide) rfl rfl rfl ⟨Nat.le_of_ble_eq_true rfl, Nat.le_of_ble_eq_true rfl⟩ rfl hl.1 rfl (Nat.le_of_ble_eq_true rfl) dX6_takeNumber_40 ⟨Nat.le_of_ble_eq_true rfl, Nat.le_of_ble_eq_true rfl⟩) (fun H locs hB => ?_)
        refine lv_iload_n hx hb dX6_takeNumber_43 rfl (lv_at hl 0 rfl) ?_
        replace hv := Option.some.inj hv
        subst hv
        obtain ⟨e1, e2⟩ := y_pr kt
        rw [← e1, ← e2]
        exact z_iret hc hB hr dX6_takeNumber_44
      · replace hv := y_br_f hv c12
        exact b31 h _ _ _ hB (lv_sub hl [1] rfl) _ hv kt
  · replace hv := y_br_f hv c10
    refine lv_aload_n hx hb dX6_takeNumber_13 rfl (lv_at hl 1 rfl) ?_
    refine lv_iconst (v := (1 : Int32)) hx hb dX6_takeNumber_14 (by decide) ?_
    obtain ⟨⟨r16, h20⟩, c15, hv⟩ := y_bi_e hv
    refine z_thI hc hB (z_runV hc hB 6 (mm_X6_fail hSK l ad o0 (1 : Int32) h c15) md_X6_fail qmX6_93 g8 (by decide) rfl rfl rfl ⟨Nat.le_of_ble_eq_true rfl, Nat.le_of_ble_eq_true rfl⟩ rfl hl.1 rfl (Nat.le_of_ble_eq_true rfl) dX6_takeNumber_15 ⟨Nat.le_of_ble_eq_true rfl, Nat.le_of_ble_eq_true rfl⟩) (fun H locs hB => ?_)
    refine lv_pop hx hb dX6_takeNumber_18 rfl ?_
    refine lv_iconst (v := (-1 : Int32)) hx hb dX6_takeNumber_19 (by decide) ?_
    replace hv := Option.some.inj hv
    subst hv
    obtain ⟨e1, e2⟩ := y_pr kt
    rw [← e1, ← e2]
    exact z_iret hc hB hr dX6_takeNumber_20
theorem qmX0_92 : Cond.methodLink RX0 92 yX0_takeNewName ∈ z_ws := List.mem_filter.mpr ⟨List.mem_append_right _ (List.mem_of_getElem? (i := 402) (by decide +kernel)), rfl⟩
theorem qc_X0_takeNewName : Cond.code yX0_takeNewName cX0_takeNewName 2 (some .boolean) ∈ z_ws := List.mem_filter.mpr ⟨List.mem_append_right _ (List.mem_of_getElem? (i := 405) (by decide +kernel)), rfl⟩
theorem qi_X0_takeNewName : Cond.instanceMethod yX0_takeNewName ∈ z_ws := List.mem_filter.mpr ⟨List.mem_append_right _ (List.mem_of_getElem? (i := 404) (by decide +kernel)), rfl⟩
theorem qs_X0_takeNewName : Cond.selects RX0 yX0_takeNewName yX0_takeNewName ∈ z_ws := List.mem_filter.mpr ⟨List.mem_append_left _ (List.mem_of_getElem? (i := 3) (by decide +kernel)), rfl⟩
theorem md_X0_takeNewName : z_mdV yX0_takeNewName cX0_takeNewName 2 (some .boolean) 1 := ⟨⟨qn_RX0, qc_X0_takeNewName, ⟨by decide +kernel, by decide +kernel, by decide +kernel⟩⟩, qi_X0_takeNewName, qs_X0_takeNewName⟩
theorem qmX0_95 : Cond.methodLink RX0 95 yX6_takeNumber ∈ z_ws := List.mem_filter.mpr ⟨List.mem_append_right _ (List.mem_of_getElem? (i := 419) (by decide +kernel)), rfl⟩
theorem qc_X6_takeNumber : Cond.code yX6_takeNumber cX6_takeNumber 4 (some .int) ∈ z_ws := List.mem_filter.mpr ⟨List.mem_append_right _ (List.mem_of_getElem? (i := 422) (by decide +kernel)), rfl⟩
theorem qi_X6_takeNumber : Cond.instanceMethod yX6_takeNumber ∈ z_ws := List.mem_filter.mpr ⟨List.mem_append_right _ (List.mem_of_getElem? (i := 420) (by decide +kernel)), rfl⟩
theorem qs_X6_takeNumber : Cond.selects RX6 yX6_takeNumber yX6_takeNumber ∈ z_ws := List.mem_filter.mpr ⟨List.mem_append_right _ (List.mem_of_getElem? (i := 421) (by decide +kernel)), rfl⟩
theorem md_X6_takeNumber : z_mdV yX6_takeNumber cX6_takeNumber 4 (some .int) 2 := ⟨⟨qn_RX6, qc_X6_takeNumber, ⟨by decide +kernel, by decide +kernel, by decide +kernel⟩⟩, qi_X6_takeNumber, qs_X6_takeNumber⟩
theorem qmX0_102 : Cond.methodLink RX0 102 yX0_readKept ∈ z_ws := List.mem_filter.mpr ⟨List.mem_append_right _ (List.mem_of_getElem? (i := 430) (by decide +kernel)), rfl⟩
theorem qc_X0_readKept : Cond.code yX0_readKept cX0_readKept 5 (some .int) ∈ z_ws := List.mem_filter.mpr ⟨List.mem_append_right _ (List.mem_of_getElem? (i := 433) (by decide +kernel)), rfl⟩
theorem qi_X0_readKept : Cond.instanceMethod yX0_readKept ∈ z_ws := List.mem_filter.mpr ⟨List.mem_append_right _ (List.mem_of_getElem? (i := 432) (by decide +kernel)), rfl⟩
theorem qs_X0_readKept : Cond.selects RX0 yX0_readKept yX0_readKept ∈ z_ws := List.mem_filter.mpr ⟨List.mem_append_left _ (List.mem_of_getElem? (i := 5) (by decide +kernel)), rfl⟩
theorem md_X0_readKept : z_mdV yX0_readKept cX0_readKept 5 (some .int) 1 := ⟨⟨qn_RX0, qc_X0_readKept, ⟨by decide +kernel, by decide +kernel, by decide +kernel⟩⟩, qi_X0_readKept, qs_X0_readKept⟩
theorem dX0_readDream_0 : decode cX0_readDream 0 = .ok (.aload_n 0, 1) := by decide +kernel
theorem dX0_readDream_1 : decode cX0_readDream 1 = .ok (.getfield 99, 3) := by decide +kernel
theorem dX0_readDream_4 : decode cX0_readDream 4 = .ok (.istore_n 2, 1) := by decide +kernel
theorem dX0_readDream_5 : decode cX0_readDream 5 = .ok (.iload_n 2, 1) := by decide +kernel
theorem dX0_readDream_6 : decode cX0_readDream 6 = .ok (.ifCond .lt 9, 3) := by decide +kernel
theorem dX0_readDream_9 : decode cX0_readDream 9 = .ok (.iload_n 2, 1) := by decide +kernel
theorem dX0_readDream_10 : decode cX0_readDream 10 = .ok (.bipush 6, 2) := by decide +kernel
theorem dX0_readDream_12 : decode cX0_readDream 12 = .ok (.if_icmp .lt 9, 3) := by decide +kernel
theorem dX0_readDream_15 : decode cX0_readDream 15 = .ok (.aload_n 1, 1) := by decide +kernel
theorem dX0_readDream_16 : decode cX0_readDream 16 = .ok (.iconst 4, 1) := by decide +kernel
theorem dX0_readDream_17 : decode cX0_readDream 17 = .ok (.invokevirtual 82, 3) := by decide +kernel
theorem dX0_readDream_20 : decode cX0_readDream 20 = .ok (.ireturn, 1) := by decide +kernel
theorem dX0_readDream_21 : decode cX0_readDream 21 = .ok (.aload_n 1, 1) := by decide +kernel
theorem dX0_readDream_22 : decode cX0_readDream 22 = .ok (.invokevirtual 85, 3) := by decide +kernel
theorem dX0_readDream_25 : decode cX0_readDream 25 = .ok (.aload_n 1, 1) := by decide +kernel
theorem dX0_readDream_26 : decode cX0_readDream 26 = .ok (.getfield 88, 3) := by decide +kernel
theorem dX0_readDream_29 : decode cX0_readDream 29 = .ok (.lstore_n 3, 1) := by decide +kernel
theorem dX0_readDream_30 : decode cX0_readDream 30 = .ok (.aload_n 0, 1) := by decide +kernel
theorem dX0_readDream_31 : decode cX0_readDream 31 = .ok (.aload_n 1, 1) := by decide +kernel
theorem dX0_readDream_32 : decode cX0_readDream 32 = .ok (.invokevirtual 92, 3) := by decide +kernel
theorem dX0_readDream_35 : decode cX0_readDream 35 = .ok (.ifCond .ne 5, 3) := by decide +kernel
theorem dX0_readDream_38 : decode cX0_readDream 38 = .ok (.iconst 0, 1) := by decide +kernel
theorem dX0_readDream_39 : decode cX0_readDream 39 = .ok (.ireturn, 1) := by decide +kernel
theorem dX0_readDream_40 : decode cX0_readDream 40 = .ok (.aload_n 1, 1) := by decide +kernel
theorem dX0_readDream_41 : decode cX0_readDream 41 = .ok (.iconst 1, 1) := by decide +kernel
theorem dX0_readDream_42 : decode cX0_readDream 42 = .ok (.bipush 20, 2) := by decide +kernel
theorem dX0_readDream_44 : decode cX0_readDream 44 = .ok (.invokevirtual 95, 3) := by decide +kernel
theorem dX0_readDream_47 : decode cX0_readDream 47 = .ok (.istore 5, 2) := by decide +kernel
theorem dX0_readDream_49 : decode cX0_readDream 49 = .ok (.iload 5, 2) := by decide +kernel
theorem dX0_readDream_51 : decode cX0_readDream 51 = .ok (.iconst (-1), 1) := by decide +kernel
theorem dX0_readDream_52 : decode cX0_readDream 52 = .ok (.if_icmp .ne 5, 3) := by decide +kernel
theorem dX0_readDream_55 : decode cX0_readDream 55 = .ok (.iconst 0, 1) := by decide +kernel
theorem dX0_readDream_56 : decode cX0_readDream 56 = .ok (.ireturn, 1) := by decide +kernel
theorem dX0_readDream_57 : decode cX0_readDream 57 = .ok (.aload_n 0, 1) := by decide +kernel
theorem dX0_readDream_58 : decode cX0_readDream 58 = .ok (.aload_n 1, 1) := by decide +kernel
theorem dX0_readDream_59 : decode cX0_readDream 59 = .ok (.invokevirtual 102, 3) := by decide +kernel
theorem dX0_readDream_62 : decode cX0_readDream 62 = .ok (.istore 6, 2) := by decide +kernel
theorem dX0_readDream_64 : decode cX0_readDream 64 = .ok (.iload 6, 2) := by decide +kernel
theorem dX0_readDream_66 : decode cX0_readDream 66 = .ok (.iconst (-1), 1) := by decide +kernel
theorem dX0_readDream_67 : decode cX0_readDream 67 = .ok (.if_icmp .ne 5, 3) := by decide +kernel
theorem dX0_readDream_70 : decode cX0_readDream 70 = .ok (.iconst 0, 1) := by decide +kernel
theorem dX0_readDream_71 : decode cX0_readDream 71 = .ok (.ireturn, 1) := by decide +kernel
theorem dX0_readDream_72 : decode cX0_readDream 72 = .ok (.aload_n 0, 1) := by decide +kernel
theorem dX0_readDream_73 : decode cX0_readDream 73 = .ok (.getfield 25, 3) := by decide +kernel
theorem dX0_readDream_76 : decode cX0_readDream 76 = .ok (.iload_n 2, 1) := by decide +kernel
theorem dX0_readDream_77 : decode cX0_readDream 77 = .ok (.lload_n 3, 1) := by decide +kernel
theorem dX0_readDream_78 : decode cX0_readDream 78 = .ok (.lastore, 1) := by decide +kernel
theorem dX0_readDream_79 : decode cX0_readDream 79 = .ok (.aload_n 0, 1) := by decide +kernel
theorem dX0_readDream_80 : decode cX0_readDream 80 = .ok (.getfield 28, 3) := by decide +kernel
theorem dX0_readDream_83 : decode cX0_readDream 83 = .ok (.iload_n 2, 1) := by decide +kernel
theorem dX0_readDream_84 : decode cX0_readDream 84 = .ok (.iconst 1, 1) := by decide +kernel
theorem dX0_readDream_85 : decode cX0_readDream 85 = .ok (.iadd, 1) := by decide +kernel
theorem dX0_readDream_86 : decode cX0_readDream 86 = .ok (.iload 5, 2) := by decide +kernel
theorem dX0_readDream_88 : decode cX0_readDream 88 = .ok (.iastore, 1) := by decide +kernel
theorem dX0_readDream_89 : decode cX0_readDream 89 = .ok (.aload_n 0, 1) := by decide +kernel
theorem dX0_readDream_90 : decode cX0_readDream 90 = .ok (.getfield 31, 3) := by decide +kernel
theorem dX0_readDream_93 : decode cX0_readDream 93 = .ok (.iload_n 2, 1) := by decide +kernel
theorem dX0_readDream_94 : decode cX0_readDream 94 = .ok (.iconst 1, 1) := by decide +kernel
theorem dX0_readDream_95 : decode cX0_readDream 95 = .ok (.iadd, 1) := by decide +kernel
theorem dX0_readDream_96 : decode cX0_readDream 96 = .ok (.iload 6, 2) := by decide +kernel
theorem dX0_readDream_98 : decode cX0_readDream 98 = .ok (.iastore, 1) := by decide +kernel
theorem dX0_readDream_99 : decode cX0_readDream 99 = .ok (.aload_n 0, 1) := by decide +kernel
theorem dX0_readDream_100 : decode cX0_readDream 100 = .ok (.dup, 1) := by decide +kernel
theorem dX0_readDream_101 : decode cX0_readDream 101 = .ok (.getfield 99, 3) := by decide +kernel
theorem dX0_readDream_104 : decode cX0_readDream 104 = .ok (.iconst 1, 1) := by decide +kernel
theorem dX0_readDream_105 : decode cX0_readDream 105 = .ok (.iadd, 1) := by decide +kernel
theorem dX0_readDream_106 : decode cX0_readDream 106 = .ok (.putfield 99, 3) := by decide +kernel
theorem dX0_readDream_109 : decode cX0_readDream 109 = .ok (.iconst 1, 1) := by decide +kernel
theorem dX0_readDream_110 : decode cX0_readDream 110 = .ok (.ireturn, 1) := by decide +kernel
abbrev rm_X0_readDream : Room := { frames := 4, cells := 0, slots := 0, locals := 93 }
noncomputable def fX0_readDream_b15 (o1 : Nat) (h : z_T) : Option (Int32 × z_T) :=
  y_gd (z_ok h o1 6) <|
  y_bi (fX6_fail o1 (4 : Int32) h) fun ⟨r2, h6⟩ =>
  y_gd (y_b r2) <|
  some (r2, h6)
noncomputable def fX0_readDream (o0 : Nat) (o1 : Nat) (h : z_T) : Option (Int32 × z_T) :=
  y_gd (z_ok h o0 0) <|
  y_nm ((z_I h o0 2)) fun v10 =>
  y_br (v10 < 0)
    (fX0_readDream_b15 o1 h)
    (y_br (v10 < (6 : Int32))
      (y_gd (z_ok h o1 6) <|
      y_bi (fX6_advance o1 h) fun h14 =>
      y_gd (z_ok h14 o1 6) <|
      y_nm ((z_L h14 o1 6)) fun v17 =>
      y_gd (z_ok h14 o0 0) <|
      y_bi (fX0_takeNewName o0 o1 h14) fun ⟨r19, h23⟩ =>
      y_br (r19 = 0)
        (some ((0 : Int32), h23))
        (y_gd (z_ok h23 o1 6) <|
        y_bi (fX6_takeNumber o1 (1 : Int32) (20 : Int32) h23) fun ⟨r27, h31⟩ =>
        y_br (r27 = (-1 : Int32))
          (some ((0 : Int32), h31))
          (y_gd (z_ok h31 o0 0) <|
          y_bi (fX0_readKept o0 o1 h31) fun ⟨r35, h39⟩ =>
          y_br (r35 = (-1 : Int32))
            (some ((0 : Int32), h39))
            (y_gd (z_ok h39 o0 0) <|
            y_bi (z_R h39 o0 8) fun ob43 =>
            y_gd (z_ok h39 ob43 14) <|
            y_gd (z_ix v10 (z_N h39 ob43)) <|
            y_nm (z_sL h39 ob43 v10.toNatClampNeg v17) fun h46 =>
            y_bi (z_R h46 o0 9) fun ob47 =>
            y_gd (z_ok h46 ob47 13) <|
            y_gd (z_ix (v10 + (1 : Int32)) (z_N h46 ob47)) <|
            y_nm (z_sI h46 ob47 (v10 + (1 : Int32)).toNatClampNeg r27) fun h50 =>
            y_bi (z_R h50 o0 10) fun ob51 =>
            y_gd (z_ok h50 ob51 13) <|
            y_gd (z_ix (v10 + (1 : Int32)) (z_N h50 ob51)) <|
            y_nm (z_sI h50 ob51 (v10 + (1 : Int32)).toNatClampNeg r35) fun h54 =>
            y_nm (z_sI h54 o0 2 ((z_I h54 o0 2) + (1 : Int32))) fun h55 =>
            some ((1 : Int32), h55)))))
      (fX0_readDream_b15 o1 h))
set_option maxHeartbeats 4000000 in
set_option maxRecDepth 100000 in
theorem mm_X0_readDream {G : z_Gt} (hSK : z_SK (z_S G)) (l : Launch) (ad : Nat → Nat) (o0 : Nat) (o1 : Nat) (h : z_T) {r0 : Int32} {h9 : z_T} (hv : fX0_readDream o0 o1 h = some (r0, h9)) : z_Mi G (z_S G) l yX0_readDream cX0_readDream 7 (.boolean) rm_X0_readDream 0 0 [.ref (ad o0), .ref (ad o1)] ad h h9 r0 := by
  refine z_ofW hSK (by decide) (Nat.le_of_ble_eq_true rfl) ?_
  intro p e s m args below meth c ls hc hr hnm hB hl
  have hx := hc.1.1
  have hb := hc.1.2.1
  have hown := hc.1.2.2.2.1
  have hts := hc.1.2.2.2.2
  replace hc : z_C G (z_S G) ad (z_n h) p m c cX0_readDream 7 s args RX0 meth := hc
  replace hown : s.vm.findClass RX0 = some m.cls := hown
  replace hl : lv_has ls 7 [(0, .ref (ad o0)), (1, .ref (ad o1))] := hl
  show W p l e rm_X0_readDream s m args below meth c s.heap [] 0 0 (MQ below (z_Qi G ad h9 (z_n h) s.heap.size r0) args s 0 0 (z_A ad (z_n h) s.heap.size)) (F0 m 0 ls [])
  obtain ⟨rs, kt⟩ : ∃ rs : Int32 × z_T, rs = (r0, h9) := ⟨_, rfl⟩
  generalize hn0 : z_n h = n0 at hc hB ⊢
  have b15 : ∀ (h : z_T) (H : Heap) (locs : List Loc) (ls : Array Slot), z_B G ad n0 s h H locs → lv_has ls 7 [(1, .ref (ad o1))] → ∀ w, fX0_readDream_b15 o1 h = some w → w = (r0, h9) → W p l e rm_X0_readDream s m args below meth c H locs 0 0 (MQ below (z_Qi G ad h9 n0 s.heap.size r0) args s 0 0 (z_A ad n0 s.heap.size)) (F0 m 15 ls []) := by
    intro h H locs ls hB hl w hv kb
    refine lv_aload_n hx hb dX0_readDream_15 rfl (lv_at hl 0 rfl) ?_
    refine lv_iconst (v := (4 : Int32)) hx hb dX0_readDream_16 (by decide) ?_
    obtain ⟨g7, hv⟩ := y_gd_e hv
    obtain ⟨⟨r2, h6⟩, c1, hv⟩ := y_bi_e hv
    refine z_thI hc hB (z_runV hc hB 6 (mm_X6_fail hSK l ad o1 (4 : Int32) h c1) md_X6_fail qmX0_82 g7 (by decide) rfl rfl rfl ⟨Nat.le_of_ble_eq_true rfl, Nat.le_of_ble_eq_true rfl⟩ rfl hl.1 rfl (Nat.le_of_ble_eq_true rfl) dX0_readDream_17 ⟨Nat.le_of_ble_eq_true rfl, Nat.le_of_ble_eq_true rfl⟩) (fun H locs hB => ?_)
    obtain ⟨y8, hv⟩ := y_gd_e hv
    replace hv := Option.some.inj hv
    subst hv
    obtain ⟨e1, e2⟩ := y_pr kb
    rw [← e1, ← e2]
    exact z_zret hc hB hr (y_b_n y8) dX0_readDream_20
  rw [← kt] at hv
  refine lv_aload_n hx hb dX0_readDream_0 rfl (lv_at hl 0 rfl) ?_
  obtain ⟨g9, hv⟩ := y_gd_e hv
  refine z_getI hc hB 0 2 g9 (by decide) (by decide) rfl (z_l1 hc qfX0_99) dX0_readDream_1 ?_
  obtain ⟨v10, ev10, hv⟩ := y_nm_e hv
  rw [← ev10]
  refine lv_istore_n (lv' := [(2, .int v10), (0, .ref (ad o0)), (1, .ref (ad o1))]) hx hb dX0_readDream_4 rfl hl (by decide) rfl (fun ls hl => ?_)
  refine lv_iload_n hx hb dX0_readDream_5 rfl (lv_at hl 0 rfl) ?_
  refine lv_if_lt (tgt := 15) hx hb dX0_readDream_6 (by decide) (fun c11 => ?_) (fun c11 => ?_)
  · replace hv := y_br_t hv c11
    exact b15 h _ _ _ hB (lv_sub hl [2] rfl) _ hv kt
  · replace hv := y_br_f hv c11
    refine lv_iload_n hx hb dX0_readDream_9 rfl (lv_at hl 0 rfl) ?_
    refine lv_bipush (v := (6 : Int32)) hx hb dX0_readDream_10 (by decide) ?_
    refine lv_icmp_lt (tgt := 21) hx hb dX0_readDream_12 (by decide) (fun c12 => ?_) (fun c12 => ?_)
    · replace hv := y_br_t hv c12
      refine lv_aload_n hx hb dX0_readDream_21 rfl (lv_at hl 2 rfl) ?_
      obtain ⟨g15, hv⟩ := y_gd_e hv
      obtain ⟨h14, c13, hv⟩ := y_bi_e hv
      refine z_thV hc hB (z_runV hc hB 6 (mm_X6_advance hSK l ad o1 h c13) md_X6_advance qmX0_85 g15 (by decide) rfl rfl rfl ⟨Nat.le_of_ble_eq_true rfl, Nat.le_of_ble_eq_true rfl⟩ rfl hl.1 rfl (Nat.le_of_ble_eq_true rfl) dX0_readDream_22 ⟨Nat.le_of_ble_eq_true rfl, Nat.le_of_ble_eq_true rfl⟩) (fun H locs hB => ?_)
      refine lv_aload_n hx hb dX0_readDream_25 rfl (lv_at hl 2 rfl) ?_
      obtain ⟨g16, hv⟩ := y_gd_e hv
      refine z_getL hc hB 6 6 g16 (by decide) (by decide) rfl (z_l2 hc qfX0_88) dX0_readDream_26 ?_
      obtain ⟨v17, ev17, hv⟩ := y_nm_e hv
      rw [← ev17]
      refine lv_lstore_n (lv' := [(3, .long v17), (2, .int v10), (0, .ref (ad o0)), (1, .ref (ad o1))]) hx hb dX0_readDream_29 rfl hl (by decide) rfl (fun ls hl => ?_)
      refine lv_aload_n hx hb dX0_readDream_30 rfl (lv_at hl 2 rfl) ?_
      refine lv_aload_n hx hb dX0_readDream_31 rfl (lv_at hl 3 rfl) ?_
      obtain ⟨g24, hv⟩ := y_gd_e hv
      obtain ⟨⟨r19, h23⟩, c18, hv⟩ := y_bi_e hv
      refine z_thI hc hB (z_runV hc hB 0 (mm_X0_takeNewName hSK l ad o0 o1 h14 c18) md_X0_takeNewName qmX0_92 g24 (by decide) rfl rfl rfl ⟨Nat.le_of_ble_eq_true rfl, Nat.le_of_ble_eq_true rfl⟩ rfl hl.1 rfl (Nat.le_of_ble_eq_true rfl) dX0_readDream_32 ⟨Nat.le_of_ble_eq_true rfl, Nat.le_of_ble_eq_true rfl⟩) (fun H locs hB => ?_)
      refine lv_if_ne (tgt := 40) hx hb dX0_readDream_35 (by decide) (fun c25 => ?_) (fun c25 => ?_)
      · replace hv := y_br_f hv c25
        refine lv_aload_n hx hb dX0_readDream_40 rfl (lv_at hl 3 rfl) ?_
        refine lv_iconst (v := (1 : Int32)) hx hb dX0_readDream_41 (by decide) ?_
        refine lv_bipush (v := (20 : Int32)) hx hb dX0_readDream_42 (by decide) ?_
        obtain ⟨g32, hv⟩ := y_gd_e hv
        obtain ⟨⟨r27, h31⟩, c26, hv⟩ := y_bi_e hv
        refine z_thI hc hB (z_runV hc hB 6 (mm_X6_takeNumber hSK l ad o1 (1 : Int32) (20 : Int32) h23 c26) md_X6_takeNumber qmX0_95 g32 (by decide) rfl rfl rfl ⟨Nat.le_of_ble_eq_true rfl, Nat.le_of_ble_eq_true rfl⟩ rfl hl.1 rfl (Nat.le_of_ble_eq_true rfl) dX0_readDream_44 ⟨Nat.le_of_ble_eq_true rfl, Nat.le_of_ble_eq_true rfl⟩) (fun H locs hB => ?_)
        refine lv_istore (lv' := [(5, .int r27), (3, .long v17), (2, .int v10), (0, .ref (ad o0)), (1, .ref (ad o1))]) hx hb dX0_readDream_47 hl (by decide) rfl (fun ls hl => ?_)
        refine lv_iload hx hb dX0_readDream_49 (lv_at hl 0 rfl) ?_
        refine lv_iconst (v := (-1 : Int32)) hx hb dX0_readDream_51 (by decide) ?_
        refine lv_icmp_ne (tgt := 57) hx hb dX0_readDream_52 (by decide) (fun c33 => ?_) (fun c33 => ?_)
        · replace hv := y_br_f hv c33
          refine lv_aload_n hx hb dX0_readDream_57 rfl (lv_at hl 3 rfl) ?_
          refine lv_aload_n hx hb dX0_readDream_58 rfl (lv_at hl 4 rfl) ?_
          obtain ⟨g40, hv⟩ := y_gd_e hv
          obtain ⟨⟨r35, h39⟩, c34, hv⟩ := y_bi_e hv
          refine z_thI hc hB (z_runV hc hB 0 (mm_X0_readKept hSK l ad o0 o1 h31 c34) md_X0_readKept qmX0_102 g40 (by decide) rfl rfl rfl ⟨Nat.le_of_ble_eq_true rfl, Nat.le_of_ble_eq_true rfl⟩ rfl hl.1 rfl (Nat.le_of_ble_eq_true rfl) dX0_readDream_59 ⟨Nat.le_of_ble_eq_true rfl, Nat.le_of_ble_eq_true rfl⟩) (fun H locs hB => ?_)
          refine lv_istore (lv' := [(6, .int r35), (5, .int r27), (3, .long v17), (2, .int v10), (0, .ref (ad o0)), (1, .ref (ad o1))]) hx hb dX0_readDream_62 hl (by decide) rfl (fun ls hl => ?_)
          refine lv_iload hx hb dX0_readDream_64 (lv_at hl 0 rfl) ?_
          refine lv_iconst (v := (-1 : Int32)) hx hb dX0_readDream_66 (by decide) ?_
          refine lv_icmp_ne (tgt := 72) hx hb dX0_readDream_67 (by decide) (fun c41 => ?_) (fun c41 => ?_)
          · replace hv := y_br_f hv c41
            refine lv_aload_n hx hb dX0_readDream_72 rfl (lv_at hl 4 rfl) ?_
            obtain ⟨g42, hv⟩ := y_gd_e hv
            obtain ⟨ob43, eob43, hv⟩ := y_bi_e hv
            refine z_getR hc hB 0 8 g42 eob43 (by decide) (by decide) rfl (z_l1 hc qfX0_25) dX0_readDream_73 ?_
            refine lv_iload_n hx hb dX0_readDream_76 rfl (lv_at hl 3 rfl) ?_
            refine lv_lload_n hx hb dX0_readDream_77 rfl (lv_at hl 2 rfl) ?_
            obtain ⟨g44, hv⟩ := y_gd_e hv
            obtain ⟨i45, hv⟩ := y_gd_e hv
            obtain ⟨h46, eh46, hv⟩ := y_nm_e hv
            refine y_last hc hB eh46 g44 i45 dX0_readDream_78 (fun H locs hB => ?_)
            refine lv_aload_n hx hb dX0_readDream_79 rfl (lv_at hl 4 rfl) ?_
            obtain ⟨ob47, eob47, hv⟩ := y_bi_e hv
            refine z_getR hc hB 0 9 (by rw [eh46]; exact g42) eob47 (by decide) (by decide) rfl (z_l1 hc qfX0_28) dX0_readDream_80 ?_
            refine lv_iload_n hx hb dX0_readDream_83 rfl (lv_at hl 3 rfl) ?_
            refine lv_iconst (v := (1 : Int32)) hx hb dX0_readDream_84 (by decide) ?_
            refine lv_iadd hx hb dX0_readDream_85 ?_
            refine lv_iload hx hb dX0_readDream_86 (lv_at hl 1 rfl) ?_
            obtain ⟨g48, hv⟩ := y_gd_e hv
            obtain ⟨i49, hv⟩ := y_gd_e hv
            obtain ⟨h50, eh50, hv⟩ := y_nm_e hv
            refine y_iast hc hB eh50 g48 i49 dX0_readDream_88 (fun H locs hB => ?_)
            refine lv_aload_n hx hb dX0_readDream_89 rfl (lv_at hl 4 rfl) ?_
            obtain ⟨ob51, eob51, hv⟩ := y_bi_e hv
            refine z_getR hc hB 0 10 (by rw [eh50, eh46]; exact g42) eob51 (by decide) (by decide) rfl (z_l1 hc qfX0_31) dX0_readDream_90 ?_
            refine lv_iload_n hx hb dX0_readDream_93 rfl (lv_at hl 3 rfl) ?_
            refine lv_iconst (v := (1 : Int32)) hx hb dX0_readDream_94 (by decide) ?_
            refine lv_iadd hx hb dX0_readDream_95 ?_
            refine lv_iload hx hb dX0_readDream_96 (lv_at hl 0 rfl) ?_
            obtain ⟨g52, hv⟩ := y_gd_e hv
            obtain ⟨i53, hv⟩ := y_gd_e hv
            obtain ⟨h54, eh54, hv⟩ := y_nm_e hv
            refine y_iast hc hB eh54 g52 i53 dX0_readDream_98 (fun H locs hB => ?_)
            refine lv_aload_n hx hb dX0_readDream_99 rfl (lv_at hl 4 rfl) ?_
            refine lv_dup hx hb dX0_readDream_100 rfl ?_
            refine z_getI hc hB 0 2 (by rw [eh54, eh50, eh46]; exact g42) (by decide) (by decide) rfl (z_l1 hc qfX0_99) dX0_readDream_101 ?_
            refine lv_iconst (v := (1 : Int32)) hx hb dX0_readDream_104 (by decide) ?_
            refine lv_iadd hx hb dX0_readDream_105 ?_
            obtain ⟨h55, eh55, hv⟩ := y_nm_e hv
            refine y_putI hc hB 0 2 eh55 (by rw [eh54, eh50, eh46]; exact g42) (z_l1 hc qfX0_99) dX0_readDream_106 (by decide) (by decide) rfl rfl rfl rfl (fun H locs hB => ?_)
            refine lv_iconst (v := (1 : Int32)) hx hb dX0_readDream_109 (by decide) ?_
            replace hv := Option.some.inj hv
            subst hv
            obtain ⟨e1, e2⟩ := y_pr kt
            rw [← e1, ← e2]
            exact z_zret hc hB hr rfl dX0_readDream_110
          · replace hv := y_br_t hv c41
            refine lv_iconst (v := (0 : Int32)) hx hb dX0_readDream_70 (by decide) ?_
            replace hv := Option.some.inj hv
            subst hv
            obtain ⟨e1, e2⟩ := y_pr kt
            rw [← e1, ← e2]
            exact z_zret hc hB hr rfl dX0_readDream_71
        · replace hv := y_br_t hv c33
          refine lv_iconst (v := (0 : Int32)) hx hb dX0_readDream_55 (by decide) ?_
          replace hv := Option.some.inj hv
          subst hv
          obtain ⟨e1, e2⟩ := y_pr kt
          rw [← e1, ← e2]
          exact z_zret hc hB hr rfl dX0_readDream_56
      · replace hv := y_br_t hv c25
        refine lv_iconst (v := (0 : Int32)) hx hb dX0_readDream_38 (by decide) ?_
        replace hv := Option.some.inj hv
        subst hv
        obtain ⟨e1, e2⟩ := y_pr kt
        rw [← e1, ← e2]
        exact z_zret hc hB hr rfl dX0_readDream_39
    · replace hv := y_br_f hv c12
      exact b15 h _ _ _ hB (lv_sub hl [2] rfl) _ hv kt
theorem qfX0_110 : Cond.fieldLinkNest RX0 110 "DreamTests$Word" "setting" "I" "DreamTests" ∈ z_nw := List.mem_filter.mpr ⟨List.mem_of_getElem? (i := 1925) (by decide +kernel), rfl⟩
theorem qfX0_113 : Cond.fieldLink RX0 113 "DreamTests$Book" "told" "I" ∈ z_ws := List.mem_filter.mpr ⟨List.mem_append_right _ (List.mem_of_getElem? (i := 49) (by decide +kernel)), rfl⟩
theorem qfX0_116 : Cond.fieldLinkNest RX0 116 "DreamTests$Word" "least" "I" "DreamTests" ∈ z_nw := List.mem_filter.mpr ⟨List.mem_of_getElem? (i := 1926) (by decide +kernel), rfl⟩
theorem qfX0_119 : Cond.fieldLinkNest RX0 119 "DreamTests$Word" "greatest" "I" "DreamTests" ∈ z_nw := List.mem_filter.mpr ⟨List.mem_of_getElem? (i := 1927) (by decide +kernel), rfl⟩
theorem dX0_readSetting_0 : decode cX0_readSetting 0 = .ok (.aload_n 2, 1) := by decide +kernel
theorem dX0_readSetting_1 : decode cX0_readSetting 1 = .ok (.getfield 110, 3) := by decide +kernel
theorem dX0_readSetting_4 : decode cX0_readSetting 4 = .ok (.istore_n 3, 1) := by decide +kernel
theorem dX0_readSetting_5 : decode cX0_readSetting 5 = .ok (.iload_n 3, 1) := by decide +kernel
theorem dX0_readSetting_6 : decode cX0_readSetting 6 = .ok (.ifCond .lt 12, 3) := by decide +kernel
theorem dX0_readSetting_9 : decode cX0_readSetting 9 = .ok (.iload_n 3, 1) := by decide +kernel
theorem dX0_readSetting_10 : decode cX0_readSetting 10 = .ok (.aload_n 0, 1) := by decide +kernel
theorem dX0_readSetting_11 : decode cX0_readSetting 11 = .ok (.getfield 9, 3) := by decide +kernel
theorem dX0_readSetting_14 : decode cX0_readSetting 14 = .ok (.arraylength, 1) := by decide +kernel
theorem dX0_readSetting_15 : decode cX0_readSetting 15 = .ok (.if_icmp .lt 9, 3) := by decide +kernel
theorem dX0_readSetting_18 : decode cX0_readSetting 18 = .ok (.aload_n 1, 1) := by decide +kernel
theorem dX0_readSetting_19 : decode cX0_readSetting 19 = .ok (.iconst 1, 1) := by decide +kernel
theorem dX0_readSetting_20 : decode cX0_readSetting 20 = .ok (.invokevirtual 82, 3) := by decide +kernel
theorem dX0_readSetting_23 : decode cX0_readSetting 23 = .ok (.ireturn, 1) := by decide +kernel
theorem dX0_readSetting_24 : decode cX0_readSetting 24 = .ok (.aload_n 0, 1) := by decide +kernel
theorem dX0_readSetting_25 : decode cX0_readSetting 25 = .ok (.getfield 113, 3) := by decide +kernel
theorem dX0_readSetting_28 : decode cX0_readSetting 28 = .ok (.iconst 1, 1) := by decide +kernel
theorem dX0_readSetting_29 : decode cX0_readSetting 29 = .ok (.iload_n 3, 1) := by decide +kernel
theorem dX0_readSetting_30 : decode cX0_readSetting 30 = .ok (.ishl, 1) := by decide +kernel
theorem dX0_readSetting_31 : decode cX0_readSetting 31 = .ok (.iand, 1) := by decide +kernel
theorem dX0_readSetting_32 : decode cX0_readSetting 32 = .ok (.ifCond .eq 9, 3) := by decide +kernel
theorem dX0_readSetting_35 : decode cX0_readSetting 35 = .ok (.aload_n 1, 1) := by decide +kernel
theorem dX0_readSetting_36 : decode cX0_readSetting 36 = .ok (.iconst 3, 1) := by decide +kernel
theorem dX0_readSetting_37 : decode cX0_readSetting 37 = .ok (.invokevirtual 82, 3) := by decide +kernel
theorem dX0_readSetting_40 : decode cX0_readSetting 40 = .ok (.ireturn, 1) := by decide +kernel
theorem dX0_readSetting_41 : decode cX0_readSetting 41 = .ok (.aload_n 0, 1) := by decide +kernel
theorem dX0_readSetting_42 : decode cX0_readSetting 42 = .ok (.dup, 1) := by decide +kernel
theorem dX0_readSetting_43 : decode cX0_readSetting 43 = .ok (.getfield 113, 3) := by decide +kernel
theorem dX0_readSetting_46 : decode cX0_readSetting 46 = .ok (.iconst 1, 1) := by decide +kernel
theorem dX0_readSetting_47 : decode cX0_readSetting 47 = .ok (.iload_n 3, 1) := by decide +kernel
theorem dX0_readSetting_48 : decode cX0_readSetting 48 = .ok (.ishl, 1) := by decide +kernel
theorem dX0_readSetting_49 : decode cX0_readSetting 49 = .ok (.ior, 1) := by decide +kernel
theorem dX0_readSetting_50 : decode cX0_readSetting 50 = .ok (.putfield 113, 3) := by decide +kernel
theorem dX0_readSetting_53 : decode cX0_readSetting 53 = .ok (.aload_n 1, 1) := by decide +kernel
theorem dX0_readSetting_54 : decode cX0_readSetting 54 = .ok (.invokevirtual 85, 3) := by decide +kernel
theorem dX0_readSetting_57 : decode cX0_readSetting 57 = .ok (.iload_n 3, 1) := by decide +kernel
theorem dX0_readSetting_58 : decode cX0_readSetting 58 = .ok (.iconst 5, 1) := by decide +kernel
theorem dX0_readSetting_59 : decode cX0_readSetting 59 = .ok (.if_icmp .ne 7, 3) := by decide +kernel
theorem dX0_readSetting_62 : decode cX0_readSetting 62 = .ok (.iconst 1, 1) := by decide +kernel
theorem dX0_readSetting_63 : decode cX0_readSetting 63 = .ok (.goto 15, 3) := by decide +kernel
theorem dX0_readSetting_66 : decode cX0_readSetting 66 = .ok (.aload_n 1, 1) := by decide +kernel
theorem dX0_readSetting_67 : decode cX0_readSetting 67 = .ok (.aload_n 2, 1) := by decide +kernel
theorem dX0_readSetting_68 : decode cX0_readSetting 68 = .ok (.getfield 116, 3) := by decide +kernel
theorem dX0_readSetting_71 : decode cX0_readSetting 71 = .ok (.aload_n 2, 1) := by decide +kernel
theorem dX0_readSetting_72 : decode cX0_readSetting 72 = .ok (.getfield 119, 3) := by decide +kernel
theorem dX0_readSetting_75 : decode cX0_readSetting 75 = .ok (.invokevirtual 95, 3) := by decide +kernel
theorem dX0_readSetting_78 : decode cX0_readSetting 78 = .ok (.istore 4, 2) := by decide +kernel
theorem dX0_readSetting_80 : decode cX0_readSetting 80 = .ok (.iload 4, 2) := by decide +kernel
theorem dX0_readSetting_82 : decode cX0_readSetting 82 = .ok (.iconst (-1), 1) := by decide +kernel
theorem dX0_readSetting_83 : decode cX0_readSetting 83 = .ok (.if_icmp .ne 5, 3) := by decide +kernel
theorem dX0_readSetting_86 : decode cX0_readSetting 86 = .ok (.iconst 0, 1) := by decide +kernel
theorem dX0_readSetting_87 : decode cX0_readSetting 87 = .ok (.ireturn, 1) := by decide +kernel
theorem dX0_readSetting_88 : decode cX0_readSetting 88 = .ok (.aload_n 0, 1) := by decide +kernel
theorem dX0_readSetting_89 : decode cX0_readSetting 89 = .ok (.getfield 9, 3) := by decide +kernel
theorem dX0_readSetting_92 : decode cX0_readSetting 92 = .ok (.iload_n 3, 1) := by decide +kernel
theorem dX0_readSetting_93 : decode cX0_readSetting 93 = .ok (.iload 4, 2) := by decide +kernel
theorem dX0_readSetting_95 : decode cX0_readSetting 95 = .ok (.iastore, 1) := by decide +kernel
theorem dX0_readSetting_96 : decode cX0_readSetting 96 = .ok (.iconst 1, 1) := by decide +kernel
theorem dX0_readSetting_97 : decode cX0_readSetting 97 = .ok (.ireturn, 1) := by decide +kernel
abbrev rm_X0_readSetting : Room := { frames := 4, cells := 0, slots := 0, locals := 92 }
noncomputable def fX0_readSetting_b18 (o1 : Nat) (h : z_T) : Option (Int32 × z_T) :=
  y_gd (z_ok h o1 6) <|
  y_bi (fX6_fail o1 (1 : Int32) h) fun ⟨r2, h6⟩ =>
  y_gd (y_b r2) <|
  some (r2, h6)
noncomputable def fX0_readSetting_b78 (o0 : Nat) (x3 : Int32) (s0 : Int32) (h : z_T) : Option (Int32 × z_T) :=
  y_br (s0 = (-1 : Int32))
    (some ((0 : Int32), h))
    (y_gd (z_ok h o0 0) <|
    y_bi (z_R h o0 4) fun ob11 =>
    y_gd (z_ok h ob11 13) <|
    y_gd (z_ix x3 (z_N h ob11)) <|
    y_nm (z_sI h ob11 x3.toNatClampNeg s0) fun h14 =>
    some ((1 : Int32), h14))
noncomputable def fX0_readSetting (o0 : Nat) (o1 : Nat) (e2 : Nat) (h : z_T) : Option (Int32 × z_T) :=
  y_gd (decide (e2 < 23)) <|
  y_nm ((z_wset e2)) fun v16 =>
  y_br (v16 < 0)
    (fX0_readSetting_b18 o1 h)
    (y_gd (z_ok h o0 0) <|
    y_bi (z_R h o0 4) fun ob19 =>
    y_gd (z_ok h ob19 13) <|
    y_br (v16 < (nI (z_N h ob19)))
      (y_br (((z_I h o0 3) &&& ((1 : Int32) <<< (v16 &&& 31))) = 0)
        (y_nm (z_sI h o0 3 ((z_I h o0 3) ||| ((1 : Int32) <<< (v16 &&& 31)))) fun h23 =>
        y_gd (z_ok h23 o1 6) <|
        y_bi (fX6_advance o1 h23) fun h25 =>
        y_br (v16 = (5 : Int32))
          (fX0_readSetting_b78 o0 v16 (1 : Int32) h25)
          (y_gd (decide (e2 < 23)) <|
          y_gd (z_ok h25 o1 6) <|
          y_bi (fX6_takeNumber o1 (z_wleast e2) (z_wgreat e2) h25) fun ⟨r30, h34⟩ =>
          fX0_readSetting_b78 o0 v16 r30 h34))
        (y_gd (z_ok h o1 6) <|
        y_bi (fX6_fail o1 (3 : Int32) h) fun ⟨r37, h41⟩ =>
        y_gd (y_b r37) <|
        some (r37, h41)))
      (fX0_readSetting_b18 o1 h))
set_option maxHeartbeats 4000000 in
set_option maxRecDepth 100000 in
theorem mm_X0_readSetting {G : z_Gt} (hSK : z_SK (z_S G)) (l : Launch) (ad : Nat → Nat) (o0 : Nat) (o1 : Nat) (e2 : Nat) (h : z_T) {r0 : Int32} {h9 : z_T} (hv : fX0_readSetting o0 o1 e2 h = some (r0, h9)) : z_Mi G (z_S G) l yX0_readSetting cX0_readSetting 5 (.boolean) rm_X0_readSetting 0 0 [.ref (ad o0), .ref (ad o1), .ref (G.2.2.2.1 e2)] ad h h9 r0 := by
  refine z_ofW hSK (by decide) (Nat.le_of_ble_eq_true rfl) ?_
  intro p e s m args below meth c ls hc hr hnm hB hl
  have hx := hc.1.1
  have hb := hc.1.2.1
  have hown := hc.1.2.2.2.1
  have hts := hc.1.2.2.2.2
  replace hc : z_C G (z_S G) ad (z_n h) p m c cX0_readSetting 5 s args RX0 meth := hc
  replace hown : s.vm.findClass RX0 = some m.cls := hown
  replace hl : lv_has ls 5 [(0, .ref (ad o0)), (1, .ref (ad o1)), (2, .ref (G.2.2.2.1 e2))] := hl
  show W p l e rm_X0_readSetting s m args below meth c s.heap [] 0 0 (MQ below (z_Qi G ad h9 (z_n h) s.heap.size r0) args s 0 0 (z_A ad (z_n h) s.heap.size)) (F0 m 0 ls [])
  obtain ⟨rs, kt⟩ : ∃ rs : Int32 × z_T, rs = (r0, h9) := ⟨_, rfl⟩
  generalize hn0 : z_n h = n0 at hc hB ⊢
  have b18 : ∀ (h : z_T) (H : Heap) (locs : List Loc) (ls : Array Slot), z_B G ad n0 s h H locs → lv_has ls 5 [(1, .ref (ad o1))] → ∀ w, fX0_readSetting_b18 o1 h = some w → w = (r0, h9) → W p l e rm_X0_readSetting s m args below meth c H locs 0 0 (MQ below (z_Qi G ad h9 n0 s.heap.size r0) args s 0 0 (z_A ad n0 s.heap.size)) (F0 m 18 ls []) := by
    intro h H locs ls hB hl w hv kb
    refine lv_aload_n hx hb dX0_readSetting_18 rfl (lv_at hl 0 rfl) ?_
    refine lv_iconst (v := (1 : Int32)) hx hb dX0_readSetting_19 (by decide) ?_
    obtain ⟨g7, hv⟩ := y_gd_e hv
    obtain ⟨⟨r2, h6⟩, c1, hv⟩ := y_bi_e hv
    refine z_thI hc hB (z_runV hc hB 6 (mm_X6_fail hSK l ad o1 (1 : Int32) h c1) md_X6_fail qmX0_82 g7 (by decide) rfl rfl rfl ⟨Nat.le_of_ble_eq_true rfl, Nat.le_of_ble_eq_true rfl⟩ rfl hl.1 rfl (Nat.le_of_ble_eq_true rfl) dX0_readSetting_20 ⟨Nat.le_of_ble_eq_true rfl, Nat.le_of_ble_eq_true rfl⟩) (fun H locs hB => ?_)
    obtain ⟨y8, hv⟩ := y_gd_e hv
    replace hv := Option.some.inj hv
    subst hv
    obtain ⟨e1, e2⟩ := y_pr kb
    rw [← e1, ← e2]
    exact z_zret hc hB hr (y_b_n y8) dX0_readSetting_23
  have b78 : ∀ (x3 : Int32) (s0 : Int32) (h : z_T) (H : Heap) (locs : List Loc) (ls : Array Slot), z_B G ad n0 s h H locs → lv_has ls 5 [(0, .ref (ad o0)), (3, .int x3)] → ∀ w, fX0_readSetting_b78 o0 x3 s0 h = some w → w = (r0, h9) → W p l e rm_X0_readSetting s m args below meth c H locs 0 0 (MQ below (z_Qi G ad h9 n0 s.heap.size r0) args s 0 0 (z_A ad n0 s.heap.size)) (F0 m 78 ls [.int s0]) := by
    intro x3 s0 h H locs ls hB hl w hv kb
    refine lv_istore (lv' := [(4, .int s0), (0, .ref (ad o0)), (3, .int x3)]) hx hb dX0_readSetting_78 hl (by decide) rfl (fun ls hl => ?_)
    refine lv_iload hx hb dX0_readSetting_80 (lv_at hl 0 rfl) ?_
    refine lv_iconst (v := (-1 : Int32)) hx hb dX0_readSetting_82 (by decide) ?_
    refine lv_icmp_ne (tgt := 88) hx hb dX0_readSetting_83 (by decide) (fun c9 => ?_) (fun c9 => ?_)
    · replace hv := y_br_f hv c9
      refine lv_aload_n hx hb dX0_readSetting_88 rfl (lv_at hl 1 rfl) ?_
      obtain ⟨g10, hv⟩ := y_gd_e hv
      obtain ⟨ob11, eob11, hv⟩ := y_bi_e hv
      refine z_getR hc hB 0 4 g10 eob11 (by decide) (by decide) rfl (z_l1 hc qfX0_9) dX0_readSetting_89 ?_
      refine lv_iload_n hx hb dX0_readSetting_92 rfl (lv_at hl 2 rfl) ?_
      refine lv_iload hx hb dX0_readSetting_93 (lv_at hl 0 rfl) ?_
      obtain ⟨g12, hv⟩ := y_gd_e hv
      obtain ⟨i13, hv⟩ := y_gd_e hv
      obtain ⟨h14, eh14, hv⟩ := y_nm_e hv
      refine y_iast hc hB eh14 g12 i13 dX0_readSetting_95 (fun H locs hB => ?_)
      refine lv_iconst (v := (1 : Int32)) hx hb dX0_readSetting_96 (by decide) ?_
      replace hv := Option.some.inj hv
      subst hv
      obtain ⟨e1, e2⟩ := y_pr kb
      rw [← e1, ← e2]
      exact z_zret hc hB hr rfl dX0_readSetting_97
    · replace hv := y_br_t hv c9
      refine lv_iconst (v := (0 : Int32)) hx hb dX0_readSetting_86 (by decide) ?_
      replace hv := Option.some.inj hv
      subst hv
      obtain ⟨e1, e2⟩ := y_pr kb
      rw [← e1, ← e2]
      exact z_zret hc hB hr rfl dX0_readSetting_87
  rw [← kt] at hv
  refine lv_aload_n hx hb dX0_readSetting_0 rfl (lv_at hl 2 rfl) ?_
  obtain ⟨g15, hv⟩ := y_gd_e hv
  refine z_getO hc hB (hc.2.1.2.2.2.1.2.1 e2 (z_lt g15)).2.1 (z_l2 hc qfX0_110) dX0_readSetting_1 ?_
  obtain ⟨v16, ev16, hv⟩ := y_nm_e hv
  rw [← ev16]
  refine lv_istore_n (lv' := [(3, .int v16), (0, .ref (ad o0)), (1, .ref (ad o1)), (2, .ref (G.2.2.2.1 e2))]) hx hb dX0_readSetting_4 rfl hl (by decide) rfl (fun ls hl => ?_)
  refine lv_iload_n hx hb dX0_readSetting_5 rfl (lv_at hl 0 rfl) ?_
  refine lv_if_lt (tgt := 18) hx hb dX0_readSetting_6 (by decide) (fun c17 => ?_) (fun c17 => ?_)
  · replace hv := y_br_t hv c17
    exact b18 h _ _ _ hB (lv_sub hl [2] rfl) _ hv kt
  · replace hv := y_br_f hv c17
    refine lv_iload_n hx hb dX0_readSetting_9 rfl (lv_at hl 0 rfl) ?_
    refine lv_aload_n hx hb dX0_readSetting_10 rfl (lv_at hl 1 rfl) ?_
    obtain ⟨g18, hv⟩ := y_gd_e hv
    obtain ⟨ob19, eob19, hv⟩ := y_bi_e hv
    refine z_getR hc hB 0 4 g18 eob19 (by decide) (by decide) rfl (z_l1 hc qfX0_9) dX0_readSetting_11 ?_
    obtain ⟨g20, hv⟩ := y_gd_e hv
    refine z_alen hc hB 13 (by decide) (by decide) g20 dX0_readSetting_14 ?_
    refine lv_icmp_lt (tgt := 24) hx hb dX0_readSetting_15 (by decide) (fun c21 => ?_) (fun c21 => ?_)
    · replace hv := y_br_t hv c21
      refine lv_aload_n hx hb dX0_readSetting_24 rfl (lv_at hl 1 rfl) ?_
      refine z_getI hc hB 0 3 g18 (by decide) (by decide) rfl (z_l1 hc qfX0_113) dX0_readSetting_25 ?_
      refine lv_iconst (v := (1 : Int32)) hx hb dX0_readSetting_28 (by decide) ?_
      refine lv_iload_n hx hb dX0_readSetting_29 rfl (lv_at hl 0 rfl) ?_
      refine lv_ishl hx hb dX0_readSetting_30 ?_
      refine lv_iand hx hb dX0_readSetting_31 ?_
      refine lv_if_eq (tgt := 41) hx hb dX0_readSetting_32 (by decide) (fun c22 => ?_) (fun c22 => ?_)
      · replace hv := y_br_t hv c22
        refine lv_aload_n hx hb dX0_readSetting_41 rfl (lv_at hl 1 rfl) ?_
        refine lv_dup hx hb dX0_readSetting_42 rfl ?_
        refine z_getI hc hB 0 3 g18 (by decide) (by decide) rfl (z_l1 hc qfX0_113) dX0_readSetting_43 ?_
        refine lv_iconst (v := (1 : Int32)) hx hb dX0_readSetting_46 (by decide) ?_
        refine lv_iload_n hx hb dX0_readSetting_47 rfl (lv_at hl 0 rfl) ?_
        refine lv_ishl hx hb dX0_readSetting_48 ?_
        refine lv_ior hx hb dX0_readSetting_49 ?_
        obtain ⟨h23, eh23, hv⟩ := y_nm_e hv
        refine y_putI hc hB 0 3 eh23 g18 (z_l1 hc qfX0_113) dX0_readSetting_50 (by decide) (by decide) rfl rfl rfl rfl (fun H locs hB => ?_)
        refine lv_aload_n hx hb dX0_readSetting_53 rfl (lv_at hl 2 rfl) ?_
        obtain ⟨g26, hv⟩ := y_gd_e hv
        obtain ⟨h25, c24, hv⟩ := y_bi_e hv
        refine z_thV hc hB (z_runV hc hB 6 (mm_X6_advance hSK l ad o1 h23 c24) md_X6_advance qmX0_85 g26 (by decide) rfl rfl rfl ⟨Nat.le_of_ble_eq_true rfl, Nat.le_of_ble_eq_true rfl⟩ rfl hl.1 rfl (Nat.le_of_ble_eq_true rfl) dX0_readSetting_54 ⟨Nat.le_of_ble_eq_true rfl, Nat.le_of_ble_eq_true rfl⟩) (fun H locs hB => ?_)
        refine lv_iload_n hx hb dX0_readSetting_57 rfl (lv_at hl 0 rfl) ?_
        refine lv_iconst (v := (5 : Int32)) hx hb dX0_readSetting_58 (by decide) ?_
        refine lv_icmp_ne (tgt := 66) hx hb dX0_readSetting_59 (by decide) (fun c27 => ?_) (fun c27 => ?_)
        · replace hv := y_br_f hv c27
          refine lv_aload_n hx hb dX0_readSetting_66 rfl (lv_at hl 2 rfl) ?_
          refine lv_aload_n hx hb dX0_readSetting_67 rfl (lv_at hl 3 rfl) ?_
          obtain ⟨g28, hv⟩ := y_gd_e hv
          refine z_getO hc hB (hc.2.1.2.2.2.1.2.1 e2 (z_lt g28)).2.2.1 (z_l2 hc qfX0_116) dX0_readSetting_68 ?_
          refine lv_aload_n hx hb dX0_readSetting_71 rfl (lv_at hl 3 rfl) ?_
          refine z_getO hc hB (hc.2.1.2.2.2.1.2.1 e2 (z_lt g28)).2.2.2 (z_l2 hc qfX0_119) dX0_readSetting_72 ?_
          obtain ⟨g35, hv⟩ := y_gd_e hv
          obtain ⟨⟨r30, h34⟩, c29, hv⟩ := y_bi_e hv
          refine z_thI hc hB (z_runV hc hB 6 (mm_X6_takeNumber hSK l ad o1 (z_wleast e2) (z_wgreat e2) h25 c29) md_X6_takeNumber qmX0_95 g35 (by decide) rfl rfl rfl ⟨Nat.le_of_ble_eq_true rfl, Nat.le_of_ble_eq_true rfl⟩ rfl hl.1 rfl (Nat.le_of_ble_eq_true rfl) dX0_readSetting_75 ⟨Nat.le_of_ble_eq_true rfl, Nat.le_of_ble_eq_true rfl⟩) (fun H locs hB => ?_)
          exact b78 v16 r30 h34 _ _ _ hB (lv_sub hl [1, 0] rfl) _ hv kt
        · replace hv := y_br_t hv c27
          refine lv_iconst (v := (1 : Int32)) hx hb dX0_readSetting_62 (by decide) ?_
          refine lv_goto (tgt := 78) hx hb dX0_readSetting_63 (by decide) ?_
          exact b78 v16 (1 : Int32) h25 _ _ _ hB (lv_sub hl [1, 0] rfl) _ hv kt
      · replace hv := y_br_f hv c22
        refine lv_aload_n hx hb dX0_readSetting_35 rfl (lv_at hl 2 rfl) ?_
        refine lv_iconst (v := (3 : Int32)) hx hb dX0_readSetting_36 (by decide) ?_
        obtain ⟨g42, hv⟩ := y_gd_e hv
        obtain ⟨⟨r37, h41⟩, c36, hv⟩ := y_bi_e hv
        refine z_thI hc hB (z_runV hc hB 6 (mm_X6_fail hSK l ad o1 (3 : Int32) h c36) md_X6_fail qmX0_82 g42 (by decide) rfl rfl rfl ⟨Nat.le_of_ble_eq_true rfl, Nat.le_of_ble_eq_true rfl⟩ rfl hl.1 rfl (Nat.le_of_ble_eq_true rfl) dX0_readSetting_37 ⟨Nat.le_of_ble_eq_true rfl, Nat.le_of_ble_eq_true rfl⟩) (fun H locs hB => ?_)
        obtain ⟨y43, hv⟩ := y_gd_e hv
        replace hv := Option.some.inj hv
        subst hv
        obtain ⟨e1, e2⟩ := y_pr kt
        rw [← e1, ← e2]
        exact z_zret hc hB hr (y_b_n y43) dX0_readSetting_40
    · replace hv := y_br_f hv c21
      exact b18 h _ _ _ hB (lv_sub hl [2] rfl) _ hv kt
