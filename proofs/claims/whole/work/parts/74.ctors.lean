/-! the constructors of Plan and of the class -/
theorem qmX5_3 : Cond.methodLink RX5 3 objectInit ∈ z_ws := List.mem_filter.mpr ⟨List.mem_append_right _ (List.mem_of_getElem? (i := 230) (by decide +kernel)), rfl⟩
theorem qlX5_11 : Cond.classLink RX5 11 "[[J" ∈ z_ws := List.mem_filter.mpr ⟨List.mem_append_right _ (List.mem_of_getElem? (i := 231) (by decide +kernel)), rfl⟩
theorem dX5_init_0 : decode cX5_init 0 = .ok (.aload_n 0, 1) := by decide +kernel
theorem dX5_init_1 : decode cX5_init 1 = .ok (.invokespecial 3, 3) := by decide +kernel
theorem dX5_init_4 : decode cX5_init 4 = .ok (.aload_n 0, 1) := by decide +kernel
theorem dX5_init_5 : decode cX5_init 5 = .ok (.iconst 5, 1) := by decide +kernel
theorem dX5_init_6 : decode cX5_init 6 = .ok (.bipush 7, 2) := by decide +kernel
theorem dX5_init_8 : decode cX5_init 8 = .ok (.multianewarray 11 2, 4) := by decide +kernel
theorem dX5_init_12 : decode cX5_init 12 = .ok (.putfield 13, 3) := by decide +kernel
theorem dX5_init_15 : decode cX5_init 15 = .ok (.aload_n 0, 1) := by decide +kernel
theorem dX5_init_16 : decode cX5_init 16 = .ok (.sipush 729, 3) := by decide +kernel
theorem dX5_init_19 : decode cX5_init 19 = .ok (.newarray .long, 2) := by decide +kernel
theorem dX5_init_21 : decode cX5_init 21 = .ok (.putfield 16, 3) := by decide +kernel
theorem dX5_init_24 : decode cX5_init 24 = .ok (.aload_n 0, 1) := by decide +kernel
theorem dX5_init_25 : decode cX5_init 25 = .ok (.sipush 729, 3) := by decide +kernel
theorem dX5_init_28 : decode cX5_init 28 = .ok (.newarray .int, 2) := by decide +kernel
theorem dX5_init_30 : decode cX5_init 30 = .ok (.putfield 20, 3) := by decide +kernel
theorem dX5_init_33 : decode cX5_init 33 = .ok (.aload_n 0, 1) := by decide +kernel
theorem dX5_init_34 : decode cX5_init 34 = .ok (.sipush 729, 3) := by decide +kernel
theorem dX5_init_37 : decode cX5_init 37 = .ok (.newarray .boolean, 2) := by decide +kernel
theorem dX5_init_39 : decode cX5_init 39 = .ok (.putfield 24, 3) := by decide +kernel
theorem dX5_init_42 : decode cX5_init 42 = .ok (.aload_n 0, 1) := by decide +kernel
theorem dX5_init_43 : decode cX5_init 43 = .ok (.sipush 729, 3) := by decide +kernel
theorem dX5_init_46 : decode cX5_init 46 = .ok (.newarray .boolean, 2) := by decide +kernel
theorem dX5_init_48 : decode cX5_init 48 = .ok (.putfield 28, 3) := by decide +kernel
theorem dX5_init_51 : decode cX5_init 51 = .ok (.aload_n 0, 1) := by decide +kernel
theorem dX5_init_52 : decode cX5_init 52 = .ok (.aload_n 1, 1) := by decide +kernel
theorem dX5_init_53 : decode cX5_init 53 = .ok (.putfield 31, 3) := by decide +kernel
theorem dX5_init_56 : decode cX5_init 56 = .ok (.return_, 1) := by decide +kernel
abbrev rm_X5_init : Room := { frames := 1, cells := 10, slots := 2956, locals := 12 }
noncomputable def fX5_init (o0 : Nat) (o1 : Nat) (h : z_T) : Option (z_T) :=
  y_nm (z_n h) fun ob1 =>
  y_nm (z_ml h 5 7) fun h2 =>
  y_gd (z_ok h2 o0 5) <|
  y_nm (z_sR h2 o0 0 (some ob1)) fun h5 =>
  y_nm (z_n h5) fun ob6 =>
  y_nm (z_al h5 14 729) fun h7 =>
  y_gd (z_ok h7 o0 5) <|
  y_nm (z_sR h7 o0 1 (some ob6)) fun h10 =>
  y_nm (z_n h10) fun ob11 =>
  y_nm (z_al h10 13 729) fun h12 =>
  y_gd (z_ok h12 o0 5) <|
  y_nm (z_sR h12 o0 2 (some ob11)) fun h15 =>
  y_nm (z_n h15) fun ob16 =>
  y_nm (z_al h15 15 729) fun h17 =>
  y_gd (z_ok h17 o0 5) <|
  y_nm (z_sR h17 o0 3 (some ob16)) fun h20 =>
  y_nm (z_n h20) fun ob21 =>
  y_nm (z_al h20 15 729) fun h22 =>
  y_gd (z_ok h22 o0 5) <|
  y_nm (z_sR h22 o0 4 (some ob21)) fun h25 =>
  y_gd (z_ok h25 o1 0) <|
  y_nm (z_sR h25 o0 5 (some o1)) fun h27 =>
  some h27
set_option maxHeartbeats 4000000 in
set_option maxRecDepth 100000 in
theorem mm_X5_init {G : z_Gt} (hSK : z_SK (z_S G)) (l : Launch) (ad : Nat → Nat) (o0 : Nat) (o1 : Nat) (h : z_T) {h9 : z_T} (hv : fX5_init o0 o1 h = some h9) : z_Mv G (z_S G) l yX5_init cX5_init 2 rm_X5_init 10 2956 [.ref (ad o0), .ref (ad o1)] ad h h9 := by
  refine z_ofW hSK (by decide) (Nat.le_of_ble_eq_true rfl) ?_
  intro p e s m args below meth c ls hc hr hnm hB hl
  have hx := hc.1.1
  have hb := hc.1.2.1
  have hown := hc.1.2.2.2.1
  have hts := hc.1.2.2.2.2
  replace hc : z_C G (z_S G) ad (z_n h) p m c cX5_init 2 s args RX5 meth := hc
  replace hown : s.vm.findClass RX5 = some m.cls := hown
  replace hl : lv_has ls 2 [(0, .ref (ad o0)), (1, .ref (ad o1))] := hl
  show W p l e rm_X5_init s m args below meth c s.heap [] 0 0 (MQ below (z_Qv G ad h9 (z_n h) s.heap.size) args s 10 2956 (z_A ad (z_n h) s.heap.size)) (F0 m 0 ls [])
  obtain ⟨rs, kt⟩ : ∃ rs : z_T, rs = h9 := ⟨_, rfl⟩
  generalize hn0 : z_n h = n0 at hc hB ⊢
  rw [← kt] at hv
  refine lv_aload_n hx hb dX5_init_0 rfl (lv_at hl 0 rfl) ?_
  refine z_objI hc qmX5_3 q_objInst q_objCode hl.1 ⟨Nat.le_of_ble_eq_true rfl, Nat.le_of_ble_eq_true rfl⟩ dX5_init_1 ?_
  refine lv_aload_n hx hb dX5_init_4 rfl (lv_at hl 0 rfl) ?_
  refine lv_iconst (v := (5 : Int32)) hx hb dX5_init_5 (by decide) ?_
  refine lv_bipush (v := (7 : Int32)) hx hb dX5_init_6 (by decide) ?_
  obtain ⟨ob1, eob1, hv⟩ := y_nm_e hv
  obtain ⟨h2, eh2, hv⟩ := y_nm_e hv
  refine z_multi hc hB 5 7 (n := (5 : Int32)) (k := (7 : Int32)) eh2 (by decide) (by decide) (by decide) (by decide) (by decide) (by decide) qlX5_11 hc.2.1.2.2.2.2.2.2.2.2.2 qa_long (Nat.le_of_ble_eq_true rfl) (Nat.le_of_ble_eq_true rfl) dX5_init_8 (fun H hB => ?_)
  rw [← eob1]
  have g3 : z_ok h2 ob1 18 = true := by rw [eh2, eob1]; exact z_ml_ok
  obtain ⟨g4, hv⟩ := y_gd_e hv
  obtain ⟨h5, eh5, hv⟩ := y_nm_e hv
  refine z_putF hc hB 5 0 (r := (some ob1)) rfl (z_hrS (k := 18) g3) eh5 g4 qfX5_13 dX5_init_12 hnm (by decide) (by decide) rfl rfl rfl (fun r => by cases r <;> rfl) (fun r => by cases r <;> rfl) (fun H locs hB => ?_)
  refine lv_aload_n hx hb dX5_init_15 rfl (lv_at hl 0 rfl) ?_
  refine lv_sipush (v := (729 : Int32)) hx hb dX5_init_16 (by decide) ?_
  obtain ⟨ob6, eob6, hv⟩ := y_nm_e hv
  obtain ⟨h7, eh7, hv⟩ := y_nm_e hv
  refine z_newarr hc hB 14 729 (n := (729 : Int32)) eh7 (by decide) (by decide) (by decide) rfl qa_long (by decide) (by decide) (Nat.le_of_ble_eq_true rfl) (Nat.le_of_ble_eq_true rfl) dX5_init_19 (fun H hB => ?_)
  rw [← eob6]
  have g8 : z_ok h7 ob6 14 = true := by rw [eh7, eob6]; exact z_al_ok
  obtain ⟨g9, hv⟩ := y_gd_e hv
  obtain ⟨h10, eh10, hv⟩ := y_nm_e hv
  refine z_putF hc hB 5 1 (r := (some ob6)) rfl (z_hrS (k := 14) g8) eh10 g9 qfX5_16 dX5_init_21 hnm (by decide) (by decide) rfl rfl rfl (fun r => by cases r <;> rfl) (fun r => by cases r <;> rfl) (fun H locs hB => ?_)
  refine lv_aload_n hx hb dX5_init_24 rfl (lv_at hl 0 rfl) ?_
  refine lv_sipush (v := (729 : Int32)) hx hb dX5_init_25 (by decide) ?_
  obtain ⟨ob11, eob11, hv⟩ := y_nm_e hv
  obtain ⟨h12, eh12, hv⟩ := y_nm_e hv
  refine z_newarr hc hB 13 729 (n := (729 : Int32)) eh12 (by decide) (by decide) (by decide) rfl qa_int (by decide) (by decide) (Nat.le_of_ble_eq_true rfl) (Nat.le_of_ble_eq_true rfl) dX5_init_28 (fun H hB => ?_)
  rw [← eob11]
  have g13 : z_ok h12 ob11 13 = true := by rw [eh12, eob11]; exact z_al_ok
  obtain ⟨g14, hv⟩ := y_gd_e hv
  obtain ⟨h15, eh15, hv⟩ := y_nm_e hv
  refine z_putF hc hB 5 2 (r := (some ob11)) rfl (z_hrS (k := 13) g13) eh15 g14 qfX5_20 dX5_init_30 hnm (by decide) (by decide) rfl rfl rfl (fun r => by cases r <;> rfl) (fun r => by cases r <;> rfl) (fun H locs hB => ?_)
  refine lv_aload_n hx hb dX5_init_33 rfl (lv_at hl 0 rfl) ?_
  refine lv_sipush (v := (729 : Int32)) hx hb dX5_init_34 (by decide) ?_
  obtain ⟨ob16, eob16, hv⟩ := y_nm_e hv
  obtain ⟨h17, eh17, hv⟩ := y_nm_e hv
  refine z_newarr hc hB 15 729 (n := (729 : Int32)) eh17 (by decide) (by decide) (by decide) rfl qa_boolean (by decide) (by decide) (Nat.le_of_ble_eq_true rfl) (Nat.le_of_ble_eq_true rfl) dX5_init_37 (fun H hB => ?_)
  rw [← eob16]
  have g18 : z_ok h17 ob16 15 = true := by rw [eh17, eob16]; exact z_al_ok
  obtain ⟨g19, hv⟩ := y_gd_e hv
  obtain ⟨h20, eh20, hv⟩ := y_nm_e hv
  refine z_putF hc hB 5 3 (r := (some ob16)) rfl (z_hrS (k := 15) g18) eh20 g19 qfX5_24 dX5_init_39 hnm (by decide) (by decide) rfl rfl rfl (fun r => by cases r <;> rfl) (fun r => by cases r <;> rfl) (fun H locs hB => ?_)
  refine lv_aload_n hx hb dX5_init_42 rfl (lv_at hl 0 rfl) ?_
  refine lv_sipush (v := (729 : Int32)) hx hb dX5_init_43 (by decide) ?_
  obtain ⟨ob21, eob21, hv⟩ := y_nm_e hv
  obtain ⟨h22, eh22, hv⟩ := y_nm_e hv
  refine z_newarr hc hB 15 729 (n := (729 : Int32)) eh22 (by decide) (by decide) (by decide) rfl qa_boolean (by decide) (by decide) (Nat.le_of_ble_eq_true rfl) (Nat.le_of_ble_eq_true rfl) dX5_init_46 (fun H hB => ?_)
  rw [← eob21]
  have g23 : z_ok h22 ob21 15 = true := by rw [eh22, eob21]; exact z_al_ok
  obtain ⟨g24, hv⟩ := y_gd_e hv
  obtain ⟨h25, eh25, hv⟩ := y_nm_e hv
  refine z_putF hc hB 5 4 (r := (some ob21)) rfl (z_hrS (k := 15) g23) eh25 g24 qfX5_28 dX5_init_48 hnm (by decide) (by decide) rfl rfl rfl (fun r => by cases r <;> rfl) (fun r => by cases r <;> rfl) (fun H locs hB => ?_)
  refine lv_aload_n hx hb dX5_init_51 rfl (lv_at hl 0 rfl) ?_
  refine lv_aload_n hx hb dX5_init_52 rfl (lv_at hl 1 rfl) ?_
  obtain ⟨g26, hv⟩ := y_gd_e hv
  obtain ⟨h27, eh27, hv⟩ := y_nm_e hv
  refine z_putN hc hB 5 5 (r := (some o1)) rfl (z_hrS (k := 0) g26) eh27 (by rw [eh25]; exact g24) (z_l1 hc qfX5_31) dX5_init_53 (by decide) (by decide) rfl rfl (fun r => by cases r <;> rfl) (fun r => by cases r <;> rfl) (fun H locs hB => ?_)
  replace hv := Option.some.inj hv
  subst hv
  rw [← kt]
  exact z_vret hc hB hr dX5_init_56
theorem qmX11_3 : Cond.methodLink RX11 3 objectInit ∈ z_ws := List.mem_filter.mpr ⟨List.mem_append_right _ (List.mem_of_getElem? (i := 31) (by decide +kernel)), rfl⟩
theorem qlX11_12 : Cond.classLink RX11 12 "DreamTests$Bytes" ∈ z_ws := List.mem_filter.mpr ⟨List.mem_append_right _ (List.mem_of_getElem? (i := 82) (by decide +kernel)), rfl⟩
theorem qi_DreamTests_Bytes : Cond.instantiable "DreamTests$Bytes" 2 ∈ z_ws := List.mem_filter.mpr ⟨List.mem_append_right _ (List.mem_of_getElem? (i := 83) (by decide +kernel)), rfl⟩
theorem qmX11_14 : Cond.methodLinkNest RX11 14 yX1_init "DreamTests" ∈ z_nw := List.mem_filter.mpr ⟨List.mem_of_getElem? (i := 84) (by decide +kernel), rfl⟩
theorem qc_X1_init : Cond.code yX1_init cX1_init 1 none ∈ z_ws := List.mem_filter.mpr ⟨List.mem_append_right _ (List.mem_of_getElem? (i := 86) (by decide +kernel)), rfl⟩
theorem qi_X1_init : Cond.instanceMethod yX1_init ∈ z_ws := List.mem_filter.mpr ⟨List.mem_append_right _ (List.mem_of_getElem? (i := 85) (by decide +kernel)), rfl⟩
theorem md_X1_init : z_mdI yX1_init cX1_init 1 0 := ⟨⟨qn_RX1, qc_X1_init, ⟨by decide +kernel, by decide +kernel, by decide +kernel⟩⟩, rfl, qi_X1_init⟩
theorem qlX11_22 : Cond.classLink RX11 22 "DreamTests$Reader" ∈ z_ws := List.mem_filter.mpr ⟨List.mem_append_right _ (List.mem_of_getElem? (i := 98) (by decide +kernel)), rfl⟩
theorem qi_DreamTests_Reader : Cond.instantiable "DreamTests$Reader" 9 ∈ z_ws := List.mem_filter.mpr ⟨List.mem_append_right _ (List.mem_of_getElem? (i := 99) (by decide +kernel)), rfl⟩
theorem qmX11_24 : Cond.methodLink RX11 24 yX6_init ∈ z_ws := List.mem_filter.mpr ⟨List.mem_append_right _ (List.mem_of_getElem? (i := 100) (by decide +kernel)), rfl⟩
theorem qc_X6_init : Cond.code yX6_init cX6_init 2 none ∈ z_ws := List.mem_filter.mpr ⟨List.mem_append_right _ (List.mem_of_getElem? (i := 102) (by decide +kernel)), rfl⟩
theorem qi_X6_init : Cond.instanceMethod yX6_init ∈ z_ws := List.mem_filter.mpr ⟨List.mem_append_right _ (List.mem_of_getElem? (i := 101) (by decide +kernel)), rfl⟩
theorem md_X6_init : z_mdI yX6_init cX6_init 2 1 := ⟨⟨qn_RX6, qc_X6_init, ⟨by decide +kernel, by decide +kernel, by decide +kernel⟩⟩, rfl, qi_X6_init⟩
theorem qlX11_31 : Cond.classLink RX11 31 "DreamTests$State" ∈ z_ws := List.mem_filter.mpr ⟨List.mem_append_right _ (List.mem_of_getElem? (i := 142) (by decide +kernel)), rfl⟩
theorem qi_DreamTests_State : Cond.instantiable "DreamTests$State" 4 ∈ z_ws := List.mem_filter.mpr ⟨List.mem_append_right _ (List.mem_of_getElem? (i := 143) (by decide +kernel)), rfl⟩
theorem qmX11_33 : Cond.methodLink RX11 33 yX8_init ∈ z_ws := List.mem_filter.mpr ⟨List.mem_append_right _ (List.mem_of_getElem? (i := 144) (by decide +kernel)), rfl⟩
theorem qc_X8_init : Cond.code yX8_init cX8_init 2 none ∈ z_ws := List.mem_filter.mpr ⟨List.mem_append_right _ (List.mem_of_getElem? (i := 146) (by decide +kernel)), rfl⟩
theorem qi_X8_init : Cond.instanceMethod yX8_init ∈ z_ws := List.mem_filter.mpr ⟨List.mem_append_right _ (List.mem_of_getElem? (i := 145) (by decide +kernel)), rfl⟩
theorem md_X8_init : z_mdI yX8_init cX8_init 2 1 := ⟨⟨qn_RX8, qc_X8_init, ⟨by decide +kernel, by decide +kernel, by decide +kernel⟩⟩, rfl, qi_X8_init⟩
theorem qlX11_44 : Cond.classLink RX11 44 "DreamTests$Past" ∈ z_ws := List.mem_filter.mpr ⟨List.mem_append_right _ (List.mem_of_getElem? (i := 203) (by decide +kernel)), rfl⟩
theorem qi_DreamTests_Past : Cond.instantiable "DreamTests$Past" 3 ∈ z_ws := List.mem_filter.mpr ⟨List.mem_append_right _ (List.mem_of_getElem? (i := 204) (by decide +kernel)), rfl⟩
theorem qmX11_46 : Cond.methodLink RX11 46 yX4_init ∈ z_ws := List.mem_filter.mpr ⟨List.mem_append_right _ (List.mem_of_getElem? (i := 205) (by decide +kernel)), rfl⟩
theorem qc_X4_init : Cond.code yX4_init cX4_init 3 none ∈ z_ws := List.mem_filter.mpr ⟨List.mem_append_right _ (List.mem_of_getElem? (i := 207) (by decide +kernel)), rfl⟩
theorem qi_X4_init : Cond.instanceMethod yX4_init ∈ z_ws := List.mem_filter.mpr ⟨List.mem_append_right _ (List.mem_of_getElem? (i := 206) (by decide +kernel)), rfl⟩
theorem md_X4_init : z_mdI yX4_init cX4_init 3 1 := ⟨⟨qn_RX4, qc_X4_init, ⟨by decide +kernel, by decide +kernel, by decide +kernel⟩⟩, rfl, qi_X4_init⟩
theorem qlX11_51 : Cond.classLink RX11 51 "DreamTests$Night" ∈ z_ws := List.mem_filter.mpr ⟨List.mem_append_right _ (List.mem_of_getElem? (i := 223) (by decide +kernel)), rfl⟩
theorem qmX11_53 : Cond.methodLink RX11 53 yX2_init ∈ z_ws := List.mem_filter.mpr ⟨List.mem_append_right _ (List.mem_of_getElem? (i := 224) (by decide +kernel)), rfl⟩
theorem qlX11_58 : Cond.classLink RX11 58 "DreamTests$Plan" ∈ z_ws := List.mem_filter.mpr ⟨List.mem_append_right _ (List.mem_of_getElem? (i := 225) (by decide +kernel)), rfl⟩
theorem qi_DreamTests_Plan : Cond.instantiable "DreamTests$Plan" 6 ∈ z_ws := List.mem_filter.mpr ⟨List.mem_append_right _ (List.mem_of_getElem? (i := 226) (by decide +kernel)), rfl⟩
theorem qmX11_60 : Cond.methodLink RX11 60 yX5_init ∈ z_ws := List.mem_filter.mpr ⟨List.mem_append_right _ (List.mem_of_getElem? (i := 227) (by decide +kernel)), rfl⟩
theorem qc_X5_init : Cond.code yX5_init cX5_init 2 none ∈ z_ws := List.mem_filter.mpr ⟨List.mem_append_right _ (List.mem_of_getElem? (i := 229) (by decide +kernel)), rfl⟩
theorem qi_X5_init : Cond.instanceMethod yX5_init ∈ z_ws := List.mem_filter.mpr ⟨List.mem_append_right _ (List.mem_of_getElem? (i := 228) (by decide +kernel)), rfl⟩
theorem md_X5_init : z_mdI yX5_init cX5_init 2 1 := ⟨⟨qn_RX5, qc_X5_init, ⟨by decide +kernel, by decide +kernel, by decide +kernel⟩⟩, rfl, qi_X5_init⟩
theorem qlX11_65 : Cond.classLink RX11 65 "DreamTests$Nights" ∈ z_ws := List.mem_filter.mpr ⟨List.mem_append_right _ (List.mem_of_getElem? (i := 253) (by decide +kernel)), rfl⟩
theorem qi_DreamTests_Nights : Cond.instantiable "DreamTests$Nights" 8 ∈ z_ws := List.mem_filter.mpr ⟨List.mem_append_right _ (List.mem_of_getElem? (i := 254) (by decide +kernel)), rfl⟩
theorem qmX11_67 : Cond.methodLinkNest RX11 67 yX3_init "DreamTests" ∈ z_nw := List.mem_filter.mpr ⟨List.mem_of_getElem? (i := 255) (by decide +kernel), rfl⟩
theorem qc_X3_init : Cond.code yX3_init cX3_init 1 none ∈ z_ws := List.mem_filter.mpr ⟨List.mem_append_right _ (List.mem_of_getElem? (i := 257) (by decide +kernel)), rfl⟩
theorem qi_X3_init : Cond.instanceMethod yX3_init ∈ z_ws := List.mem_filter.mpr ⟨List.mem_append_right _ (List.mem_of_getElem? (i := 256) (by decide +kernel)), rfl⟩
theorem md_X3_init : z_mdI yX3_init cX3_init 1 0 := ⟨⟨qn_RX3, qc_X3_init, ⟨by decide +kernel, by decide +kernel, by decide +kernel⟩⟩, rfl, qi_X3_init⟩
theorem dX11_init_0 : decode cX11_init 0 = .ok (.aload_n 0, 1) := by decide +kernel
theorem dX11_init_1 : decode cX11_init 1 = .ok (.invokespecial 3, 3) := by decide +kernel
theorem dX11_init_4 : decode cX11_init 4 = .ok (.new 9, 3) := by decide +kernel
theorem dX11_init_7 : decode cX11_init 7 = .ok (.dup, 1) := by decide +kernel
theorem dX11_init_8 : decode cX11_init 8 = .ok (.invokespecial 11, 3) := by decide +kernel
theorem dX11_init_11 : decode cX11_init 11 = .ok (.astore_n 1, 1) := by decide +kernel
theorem dX11_init_12 : decode cX11_init 12 = .ok (.aload_n 0, 1) := by decide +kernel
theorem dX11_init_13 : decode cX11_init 13 = .ok (.new 12, 3) := by decide +kernel
theorem dX11_init_16 : decode cX11_init 16 = .ok (.dup, 1) := by decide +kernel
theorem dX11_init_17 : decode cX11_init 17 = .ok (.invokespecial 14, 3) := by decide +kernel
theorem dX11_init_20 : decode cX11_init 20 = .ok (.putfield 15, 3) := by decide +kernel
theorem dX11_init_23 : decode cX11_init 23 = .ok (.aload_n 0, 1) := by decide +kernel
theorem dX11_init_24 : decode cX11_init 24 = .ok (.new 12, 3) := by decide +kernel
theorem dX11_init_27 : decode cX11_init 27 = .ok (.dup, 1) := by decide +kernel
theorem dX11_init_28 : decode cX11_init 28 = .ok (.invokespecial 14, 3) := by decide +kernel
theorem dX11_init_31 : decode cX11_init 31 = .ok (.putfield 19, 3) := by decide +kernel
theorem dX11_init_34 : decode cX11_init 34 = .ok (.aload_n 0, 1) := by decide +kernel
theorem dX11_init_35 : decode cX11_init 35 = .ok (.new 22, 3) := by decide +kernel
theorem dX11_init_38 : decode cX11_init 38 = .ok (.dup, 1) := by decide +kernel
theorem dX11_init_39 : decode cX11_init 39 = .ok (.aload_n 0, 1) := by decide +kernel
theorem dX11_init_40 : decode cX11_init 40 = .ok (.getfield 15, 3) := by decide +kernel
theorem dX11_init_43 : decode cX11_init 43 = .ok (.invokespecial 24, 3) := by decide +kernel
theorem dX11_init_46 : decode cX11_init 46 = .ok (.putfield 27, 3) := by decide +kernel
theorem dX11_init_49 : decode cX11_init 49 = .ok (.aload_n 0, 1) := by decide +kernel
theorem dX11_init_50 : decode cX11_init 50 = .ok (.new 31, 3) := by decide +kernel
theorem dX11_init_53 : decode cX11_init 53 = .ok (.dup, 1) := by decide +kernel
theorem dX11_init_54 : decode cX11_init 54 = .ok (.aload_n 1, 1) := by decide +kernel
theorem dX11_init_55 : decode cX11_init 55 = .ok (.invokespecial 33, 3) := by decide +kernel
theorem dX11_init_58 : decode cX11_init 58 = .ok (.putfield 36, 3) := by decide +kernel
theorem dX11_init_61 : decode cX11_init 61 = .ok (.aload_n 0, 1) := by decide +kernel
theorem dX11_init_62 : decode cX11_init 62 = .ok (.iconst 2, 1) := by decide +kernel
theorem dX11_init_63 : decode cX11_init 63 = .ok (.anewarray 31, 3) := by decide +kernel
theorem dX11_init_66 : decode cX11_init 66 = .ok (.dup, 1) := by decide +kernel
theorem dX11_init_67 : decode cX11_init 67 = .ok (.iconst 0, 1) := by decide +kernel
theorem dX11_init_68 : decode cX11_init 68 = .ok (.new 31, 3) := by decide +kernel
theorem dX11_init_71 : decode cX11_init 71 = .ok (.dup, 1) := by decide +kernel
theorem dX11_init_72 : decode cX11_init 72 = .ok (.aload_n 1, 1) := by decide +kernel
theorem dX11_init_73 : decode cX11_init 73 = .ok (.invokespecial 33, 3) := by decide +kernel
theorem dX11_init_76 : decode cX11_init 76 = .ok (.aastore, 1) := by decide +kernel
theorem dX11_init_77 : decode cX11_init 77 = .ok (.dup, 1) := by decide +kernel
theorem dX11_init_78 : decode cX11_init 78 = .ok (.iconst 1, 1) := by decide +kernel
theorem dX11_init_79 : decode cX11_init 79 = .ok (.new 31, 3) := by decide +kernel
theorem dX11_init_82 : decode cX11_init 82 = .ok (.dup, 1) := by decide +kernel
theorem dX11_init_83 : decode cX11_init 83 = .ok (.aload_n 1, 1) := by decide +kernel
theorem dX11_init_84 : decode cX11_init 84 = .ok (.invokespecial 33, 3) := by decide +kernel
theorem dX11_init_87 : decode cX11_init 87 = .ok (.aastore, 1) := by decide +kernel
theorem dX11_init_88 : decode cX11_init 88 = .ok (.putfield 40, 3) := by decide +kernel
theorem dX11_init_91 : decode cX11_init 91 = .ok (.aload_n 0, 1) := by decide +kernel
theorem dX11_init_92 : decode cX11_init 92 = .ok (.new 44, 3) := by decide +kernel
theorem dX11_init_95 : decode cX11_init 95 = .ok (.dup, 1) := by decide +kernel
theorem dX11_init_96 : decode cX11_init 96 = .ok (.aload_n 1, 1) := by decide +kernel
theorem dX11_init_97 : decode cX11_init 97 = .ok (.invokespecial 46, 3) := by decide +kernel
theorem dX11_init_100 : decode cX11_init 100 = .ok (.putfield 47, 3) := by decide +kernel
theorem dX11_init_103 : decode cX11_init 103 = .ok (.aload_n 0, 1) := by decide +kernel
theorem dX11_init_104 : decode cX11_init 104 = .ok (.new 51, 3) := by decide +kernel
theorem dX11_init_107 : decode cX11_init 107 = .ok (.dup, 1) := by decide +kernel
theorem dX11_init_108 : decode cX11_init 108 = .ok (.aload_n 1, 1) := by decide +kernel
theorem dX11_init_109 : decode cX11_init 109 = .ok (.invokespecial 53, 3) := by decide +kernel
theorem dX11_init_112 : decode cX11_init 112 = .ok (.putfield 54, 3) := by decide +kernel
theorem dX11_init_115 : decode cX11_init 115 = .ok (.aload_n 0, 1) := by decide +kernel
theorem dX11_init_116 : decode cX11_init 116 = .ok (.new 58, 3) := by decide +kernel
theorem dX11_init_119 : decode cX11_init 119 = .ok (.dup, 1) := by decide +kernel
theorem dX11_init_120 : decode cX11_init 120 = .ok (.aload_n 1, 1) := by decide +kernel
theorem dX11_init_121 : decode cX11_init 121 = .ok (.invokespecial 60, 3) := by decide +kernel
theorem dX11_init_124 : decode cX11_init 124 = .ok (.putfield 61, 3) := by decide +kernel
theorem dX11_init_127 : decode cX11_init 127 = .ok (.aload_n 0, 1) := by decide +kernel
theorem dX11_init_128 : decode cX11_init 128 = .ok (.new 65, 3) := by decide +kernel
theorem dX11_init_131 : decode cX11_init 131 = .ok (.dup, 1) := by decide +kernel
theorem dX11_init_132 : decode cX11_init 132 = .ok (.invokespecial 67, 3) := by decide +kernel
theorem dX11_init_135 : decode cX11_init 135 = .ok (.putfield 68, 3) := by decide +kernel
theorem dX11_init_138 : decode cX11_init 138 = .ok (.return_, 1) := by decide +kernel
abbrev rm_X11_init : Room := { frames := 4, cells := 85, slots := 5458, locals := 86 }
noncomputable def fX11_init (o0 : Nat) (h : z_T) : Option (z_T) :=
  y_nm (z_n h) fun o1 =>
  y_nm (z_al h 0 0) fun h2 =>
  y_bi (fX0_init o1 h2) fun h5 =>
  y_nm (z_n h5) fun o6 =>
  y_nm (z_al h5 1 0) fun h7 =>
  y_bi (fX1_init o6 h7) fun h10 =>
  y_gd (z_ok h10 o0 10) <|
  y_gd (z_ok h10 o6 1) <|
  y_nm (z_sR h10 o0 0 (some o6)) fun h13 =>
  y_nm (z_n h13) fun o14 =>
  y_nm (z_al h13 1 0) fun h15 =>
  y_bi (fX1_init o14 h15) fun h18 =>
  y_gd (z_ok h18 o0 10) <|
  y_gd (z_ok h18 o14 1) <|
  y_nm (z_sR h18 o0 1 (some o14)) fun h21 =>
  y_nm (z_n h21) fun o22 =>
  y_nm (z_al h21 6 0) fun h23 =>
  y_gd (z_ok h23 o0 10) <|
  y_bi (z_R h23 o0 0) fun o26 =>
  y_bi (fX6_init o22 o26 h23) fun h28 =>
  y_gd (z_ok h28 o0 10) <|
  y_gd (z_ok h28 o22 6) <|
  y_nm (z_sR h28 o0 2 (some o22)) fun h31 =>
  y_nm (z_n h31) fun o32 =>
  y_nm (z_al h31 8 0) fun h33 =>
  y_bi (fX8_init o32 o1 h33) fun h36 =>
  y_gd (z_ok h36 o0 10) <|
  y_gd (z_ok h36 o32 8) <|
  y_nm (z_sR h36 o0 3 (some o32)) fun h39 =>
  y_nm (z_n h39) fun o40 =>
  y_nm (z_al h39 17 2) fun h41 =>
  y_nm (z_n h41) fun o43 =>
  y_nm (z_al h41 8 0) fun h44 =>
  y_bi (fX8_init o43 o1 h44) fun h47 =>
  y_gd (z_ok h47 o40 17) <|
  y_gd (z_ix (0 : Int32) (z_N h47 o40)) <|
  y_gd (z_ok h47 o43 8) <|
  y_nm (z_sR h47 o40 (0 : Int32).toNatClampNeg (some o43)) fun h51 =>
  y_nm (z_n h51) fun o52 =>
  y_nm (z_al h51 8 0) fun h53 =>
  y_bi (fX8_init o52 o1 h53) fun h56 =>
  y_gd (z_ok h56 o40 17) <|
  y_gd (z_ix (1 : Int32) (z_N h56 o40)) <|
  y_gd (z_ok h56 o52 8) <|
  y_nm (z_sR h56 o40 (1 : Int32).toNatClampNeg (some o52)) fun h60 =>
  y_gd (z_ok h60 o0 10) <|
  y_nm (z_sR h60 o0 4 (some o40)) fun h63 =>
  y_nm (z_n h63) fun o64 =>
  y_nm (z_al h63 4 0) fun h65 =>
  y_bi (fX4_init o64 o1 h65) fun h68 =>
  y_gd (z_ok h68 o0 10) <|
  y_gd (z_ok h68 o64 4) <|
  y_nm (z_sR h68 o0 5 (some o64)) fun h71 =>
  y_nm (z_n h71) fun o72 =>
  y_nm (z_al h71 2 0) fun h73 =>
  y_bi (fX2_init o72 o1 h73) fun h76 =>
  y_gd (z_ok h76 o0 10) <|
  y_gd (z_ok h76 o72 2) <|
  y_nm (z_sR h76 o0 6 (some o72)) fun h79 =>
  y_nm (z_n h79) fun o80 =>
  y_nm (z_al h79 5 0) fun h81 =>
  y_bi (fX5_init o80 o1 h81) fun h84 =>
  y_gd (z_ok h84 o0 10) <|
  y_gd (z_ok h84 o80 5) <|
  y_nm (z_sR h84 o0 7 (some o80)) fun h87 =>
  y_nm (z_n h87) fun o88 =>
  y_nm (z_al h87 3 0) fun h89 =>
  y_bi (fX3_init o88 h89) fun h92 =>
  y_gd (z_ok h92 o0 10) <|
  y_gd (z_ok h92 o88 3) <|
  y_nm (z_sR h92 o0 8 (some o88)) fun h95 =>
  some h95
set_option maxHeartbeats 40000000 in
set_option maxRecDepth 100000 in
theorem mm_X11_init {G : z_Gt} (hSK : z_SK (z_S G)) (l : Launch) (ad : Nat → Nat) (o0 : Nat) (h : z_T) {h9 : z_T} (hv : fX11_init o0 h = some h9) : z_Mv G (z_S G) l yX11_init cX11_init 2 rm_X11_init 85 5458 [.ref (ad o0)] ad h h9 := by
  refine z_ofW hSK (by decide) (Nat.le_of_ble_eq_true rfl) ?_
  intro p e s m args below meth c ls hc hr hnm hB hl
  have hx := hc.1.1
  have hb := hc.1.2.1
  have hown := hc.1.2.2.2.1
  have hts := hc.1.2.2.2.2
  replace hc : z_C G (z_S G) ad (z_n h) p m c cX11_init 2 s args RX11 meth := hc
  replace hown : s.vm.findClass RX11 = some m.cls := hown
  replace hl : lv_has ls 2 [(0, .ref (ad o0))] := hl
  show W p l e rm_X11_init s m args below meth c s.heap [] 0 0 (MQ below (z_Qv G ad h9 (z_n h) s.heap.size) args s 85 5458 (z_A ad (z_n h) s.heap.size)) (F0 m 0 ls [])
  obtain ⟨rs, kt⟩ : ∃ rs : z_T, rs = h9 := ⟨_, rfl⟩
  generalize hn0 : z_n h = n0 at hc hB ⊢
  rw [← kt] at hv
  refine lv_aload_n hx hb dX11_init_0 rfl (lv_at hl 0 rfl) ?_
  refine z_objI hc qmX11_3 q_objInst q_objCode hl.1 ⟨Nat.le_of_ble_eq_true rfl, Nat.le_of_ble_eq_true rfl⟩ dX11_init_1 ?_
  replace hv := y_nm_e hv
  obtain ⟨o1, eo1, hv⟩ := hv
  replace hv := y_nm_e hv
  obtain ⟨h2, eh2, hv⟩ := hv
  refine z_new hc hB 0 eh2 (by decide) qlX11_9 qi_DreamTests_Book qn_RX0 (Nat.le_of_ble_eq_true rfl) (Nat.le_of_ble_eq_true rfl) dX11_init_4 (fun H hB => ?_)
  rw [← eo1]
  have g3 : z_ok h2 o1 0 = true := by rw [eh2, eo1]; exact z_al_ok
  refine lv_dup hx hb dX11_init_7 rfl ?_
  replace hv := y_bi_e hv
  obtain ⟨h5, c4, hv⟩ := hv
  refine z_thV hc hB (z_runIN (rest := [.ref (ad o1)]) hc hB (mm_X0_init hSK l ad o1 h2 c4) md_X0_init qmX11_11 rfl rfl ⟨Nat.le_of_ble_eq_true rfl, Nat.le_of_ble_eq_true rfl⟩ rfl hl.1 rfl (Nat.le_of_ble_eq_true rfl) dX11_init_8 ⟨Nat.le_of_ble_eq_true rfl, Nat.le_of_ble_eq_true rfl⟩) (fun H locs hB => ?_)
  refine lv_astore_n (lv' := [(1, .ref (ad o1)), (0, .ref (ad o0))]) hx hb dX11_init_11 rfl hl (by decide) rfl (fun ls hl => ?_)
  refine lv_aload_n hx hb dX11_init_12 rfl (lv_at hl 1 rfl) ?_
  replace hv := y_nm_e hv
  obtain ⟨o6, eo6, hv⟩ := hv
  replace hv := y_nm_e hv
  obtain ⟨h7, eh7, hv⟩ := hv
  refine z_new hc hB 1 eh7 (by decide) qlX11_12 qi_DreamTests_Bytes qn_RX1 (Nat.le_of_ble_eq_true rfl) (Nat.le_of_ble_eq_true rfl) dX11_init_13 (fun H hB => ?_)
  rw [← eo6]
  have g8 : z_ok h7 o6 1 = true := by rw [eh7, eo6]; exact z_al_ok
  refine lv_dup hx hb dX11_init_16 rfl ?_
  replace hv := y_bi_e hv
  obtain ⟨h10, c9, hv⟩ := hv
  refine z_thV hc hB (z_runIN (rest := [.ref (ad o6), .ref (ad o0)]) hc hB (mm_X1_init hSK l ad o6 h7 c9) md_X1_init qmX11_14 rfl rfl ⟨Nat.le_of_ble_eq_true rfl, Nat.le_of_ble_eq_true rfl⟩ rfl hl.1 rfl (Nat.le_of_ble_eq_true rfl) dX11_init_17 ⟨Nat.le_of_ble_eq_true rfl, Nat.le_of_ble_eq_true rfl⟩) (fun H locs hB => ?_)
  replace hv := y_gd_e hv
  obtain ⟨g11, hv⟩ := hv
  replace hv := y_gd_e hv
  obtain ⟨g12, hv⟩ := hv
  replace hv := y_nm_e hv
  obtain ⟨h13, eh13, hv⟩ := hv
  refine z_putF hc hB 10 0 (r := (some o6)) rfl (z_hrS (k := 1) g12) eh13 g11 qfX11_15 dX11_init_20 hnm (by decide) (by decide) rfl rfl rfl (fun r => by cases r <;> rfl) (fun r => by cases r <;> rfl) (fun H locs hB => ?_)
  refine lv_aload_n hx hb dX11_init_23 rfl (lv_at hl 1 rfl) ?_
  replace hv := y_nm_e hv
  obtain ⟨o14, eo14, hv⟩ := hv
  replace hv := y_nm_e hv
  obtain ⟨h15, eh15, hv⟩ := hv
  refine z_new hc hB 1 eh15 (by decide) qlX11_12 qi_DreamTests_Bytes qn_RX1 (Nat.le_of_ble_eq_true rfl) (Nat.le_of_ble_eq_true rfl) dX11_init_24 (fun H hB => ?_)
  rw [← eo14]
  have g16 : z_ok h15 o14 1 = true := by rw [eh15, eo14]; exact z_al_ok
  refine lv_dup hx hb dX11_init_27 rfl ?_
  replace hv := y_bi_e hv
  obtain ⟨h18, c17, hv⟩ := hv
  refine z_thV hc hB (z_runIN (rest := [.ref (ad o14), .ref (ad o0)]) hc hB (mm_X1_init hSK l ad o14 h15 c17) md_X1_init qmX11_14 rfl rfl ⟨Nat.le_of_ble_eq_true rfl, Nat.le_of_ble_eq_true rfl⟩ rfl hl.1 rfl (Nat.le_of_ble_eq_true rfl) dX11_init_28 ⟨Nat.le_of_ble_eq_true rfl, Nat.le_of_ble_eq_true rfl⟩) (fun H locs hB => ?_)
  replace hv := y_gd_e hv
  obtain ⟨g19, hv⟩ := hv
  replace hv := y_gd_e hv
  obtain ⟨g20, hv⟩ := hv
  replace hv := y_nm_e hv
  obtain ⟨h21, eh21, hv⟩ := hv
  refine z_putF hc hB 10 1 (r := (some o14)) rfl (z_hrS (k := 1) g20) eh21 g19 qfX11_19 dX11_init_31 hnm (by decide) (by decide) rfl rfl rfl (fun r => by cases r <;> rfl) (fun r => by cases r <;> rfl) (fun H locs hB => ?_)
  refine lv_aload_n hx hb dX11_init_34 rfl (lv_at hl 1 rfl) ?_
  replace hv := y_nm_e hv
  obtain ⟨o22, eo22, hv⟩ := hv
  replace hv := y_nm_e hv
  obtain ⟨h23, eh23, hv⟩ := hv
  refine z_new hc hB 6 eh23 (by decide) qlX11_22 qi_DreamTests_Reader qn_RX6 (Nat.le_of_ble_eq_true rfl) (Nat.le_of_ble_eq_true rfl) dX11_init_35 (fun H hB => ?_)
  rw [← eo22]
  have g24 : z_ok h23 o22 6 = true := by rw [eh23, eo22]; exact z_al_ok
  refine lv_dup hx hb dX11_init_38 rfl ?_
  refine lv_aload_n hx hb dX11_init_39 rfl (lv_at hl 1 rfl) ?_
  replace hv := y_gd_e hv
  obtain ⟨g25, hv⟩ := hv
  replace hv := y_bi_e hv
  obtain ⟨o26, eo26, hv⟩ := hv
  refine z_getR hc hB 10 0 g25 eo26 (by decide) (by decide) rfl (z_l1 hc qfX11_15) dX11_init_40 ?_
  replace hv := y_bi_e hv
  obtain ⟨h28, c27, hv⟩ := hv
  refine z_thV hc hB (z_runI (rest := [.ref (ad o22), .ref (ad o0)]) hc hB (mm_X6_init hSK l ad o22 o26 h23 c27) md_X6_init qmX11_24 rfl rfl ⟨Nat.le_of_ble_eq_true rfl, Nat.le_of_ble_eq_true rfl⟩ rfl hl.1 rfl (Nat.le_of_ble_eq_true rfl) dX11_init_43 ⟨Nat.le_of_ble_eq_true rfl, Nat.le_of_ble_eq_true rfl⟩) (fun H locs hB => ?_)
  replace hv := y_gd_e hv
  obtain ⟨g29, hv⟩ := hv
  replace hv := y_gd_e hv
  obtain ⟨g30, hv⟩ := hv
  replace hv := y_nm_e hv
  obtain ⟨h31, eh31, hv⟩ := hv
  refine z_putF hc hB 10 2 (r := (some o22)) rfl (z_hrS (k := 6) g30) eh31 g29 qfX11_27 dX11_init_46 hnm (by decide) (by decide) rfl rfl rfl (fun r => by cases r <;> rfl) (fun r => by cases r <;> rfl) (fun H locs hB => ?_)
  refine lv_aload_n hx hb dX11_init_49 rfl (lv_at hl 1 rfl) ?_
  replace hv := y_nm_e hv
  obtain ⟨o32, eo32, hv⟩ := hv
  replace hv := y_nm_e hv
  obtain ⟨h33, eh33, hv⟩ := hv
  refine z_new hc hB 8 eh33 (by decide) qlX11_31 qi_DreamTests_State qn_RX8 (Nat.le_of_ble_eq_true rfl) (Nat.le_of_ble_eq_true rfl) dX11_init_50 (fun H hB => ?_)
  rw [← eo32]
  have g34 : z_ok h33 o32 8 = true := by rw [eh33, eo32]; exact z_al_ok
  refine lv_dup hx hb dX11_init_53 rfl ?_
  refine lv_aload_n hx hb dX11_init_54 rfl (lv_at hl 0 rfl) ?_
  replace hv := y_bi_e hv
  obtain ⟨h36, c35, hv⟩ := hv
  refine z_thV hc hB (z_runI (rest := [.ref (ad o32), .ref (ad o0)]) hc hB (mm_X8_init hSK l ad o32 o1 h33 c35) md_X8_init qmX11_33 rfl rfl ⟨Nat.le_of_ble_eq_true rfl, Nat.le_of_ble_eq_true rfl⟩ rfl hl.1 rfl (Nat.le_of_ble_eq_true rfl) dX11_init_55 ⟨Nat.le_of_ble_eq_true rfl, Nat.le_of_ble_eq_true rfl⟩) (fun H locs hB => ?_)
  replace hv := y_gd_e hv
  obtain ⟨g37, hv⟩ := hv
  replace hv := y_gd_e hv
  obtain ⟨g38, hv⟩ := hv
  replace hv := y_nm_e hv
  obtain ⟨h39, eh39, hv⟩ := hv
  refine z_putF hc hB 10 3 (r := (some o32)) rfl (z_hrS (k := 8) g38) eh39 g37 qfX11_36 dX11_init_58 hnm (by decide) (by decide) rfl rfl rfl (fun r => by cases r <;> rfl) (fun r => by cases r <;> rfl) (fun H locs hB => ?_)
  refine lv_aload_n hx hb dX11_init_61 rfl (lv_at hl 1 rfl) ?_
  refine lv_iconst (v := (2 : Int32)) hx hb dX11_init_62 (by decide) ?_
  replace hv := y_nm_e hv
  obtain ⟨o40, eo40, hv⟩ := hv
  replace hv := y_nm_e hv
  obtain ⟨h41, eh41, hv⟩ := hv
  refine z_anew hc hB 17 2 (n := (2 : Int32)) eh41 (by decide) (by decide) (by decide) rfl qlX11_31 hc.2.1.2.2.2.1.2.2.2.2.2.2 (by decide) (by decide) (Nat.le_of_ble_eq_true rfl) (Nat.le_of_ble_eq_true rfl) dX11_init_63 (fun H hB => ?_)
  rw [← eo40]
  have g42 : z_ok h41 o40 17 = true := by rw [eh41, eo40]; exact z_al_ok
  refine lv_dup hx hb dX11_init_66 rfl ?_
  refine lv_iconst (v := (0 : Int32)) hx hb dX11_init_67 (by decide) ?_
  replace hv := y_nm_e hv
  obtain ⟨o43, eo43, hv⟩ := hv
  replace hv := y_nm_e hv
  obtain ⟨h44, eh44, hv⟩ := hv
  refine z_new hc hB 8 eh44 (by decide) qlX11_31 qi_DreamTests_State qn_RX8 (Nat.le_of_ble_eq_true rfl) (Nat.le_of_ble_eq_true rfl) dX11_init_68 (fun H hB => ?_)
  rw [← eo43]
  have g45 : z_ok h44 o43 8 = true := by rw [eh44, eo43]; exact z_al_ok
  refine lv_dup hx hb dX11_init_71 rfl ?_
  refine lv_aload_n hx hb dX11_init_72 rfl (lv_at hl 0 rfl) ?_
  replace hv := y_bi_e hv
  obtain ⟨h47, c46, hv⟩ := hv
  refine z_thV hc hB (z_runI (rest := [.ref (ad o43), .int (0 : Int32), .ref (ad o40), .ref (ad o40), .ref (ad o0)]) hc hB (mm_X8_init hSK l ad o43 o1 h44 c46) md_X8_init qmX11_33 rfl rfl ⟨Nat.le_of_ble_eq_true rfl, Nat.le_of_ble_eq_true rfl⟩ rfl hl.1 rfl (Nat.le_of_ble_eq_true rfl) dX11_init_73 ⟨Nat.le_of_ble_eq_true rfl, Nat.le_of_ble_eq_true rfl⟩) (fun H locs hB => ?_)
  replace hv := y_gd_e hv
  obtain ⟨g48, hv⟩ := hv
  replace hv := y_gd_e hv
  obtain ⟨i49, hv⟩ := hv
  replace hv := y_gd_e hv
  obtain ⟨g50, hv⟩ := hv
  replace hv := y_nm_e hv
  obtain ⟨h51, eh51, hv⟩ := hv
  refine y_aast hc hB 17 8 eh51 g48 i49 g50 dX11_init_76 (by decide) (by decide) (by decide) rfl (fun H locs hB => ?_)
  refine lv_dup hx hb dX11_init_77 rfl ?_
  refine lv_iconst (v := (1 : Int32)) hx hb dX11_init_78 (by decide) ?_
  replace hv := y_nm_e hv
  obtain ⟨o52, eo52, hv⟩ := hv
  replace hv := y_nm_e hv
  obtain ⟨h53, eh53, hv⟩ := hv
  refine z_new hc hB 8 eh53 (by decide) qlX11_31 qi_DreamTests_State qn_RX8 (Nat.le_of_ble_eq_true rfl) (Nat.le_of_ble_eq_true rfl) dX11_init_79 (fun H hB => ?_)
  rw [← eo52]
  have g54 : z_ok h53 o52 8 = true := by rw [eh53, eo52]; exact z_al_ok
  refine lv_dup hx hb dX11_init_82 rfl ?_
  refine lv_aload_n hx hb dX11_init_83 rfl (lv_at hl 0 rfl) ?_
  replace hv := y_bi_e hv
  obtain ⟨h56, c55, hv⟩ := hv
  refine z_thV hc hB (z_runI (rest := [.ref (ad o52), .int (1 : Int32), .ref (ad o40), .ref (ad o40), .ref (ad o0)]) hc hB (mm_X8_init hSK l ad o52 o1 h53 c55) md_X8_init qmX11_33 rfl rfl ⟨Nat.le_of_ble_eq_true rfl, Nat.le_of_ble_eq_true rfl⟩ rfl hl.1 rfl (Nat.le_of_ble_eq_true rfl) dX11_init_84 ⟨Nat.le_of_ble_eq_true rfl, Nat.le_of_ble_eq_true rfl⟩) (fun H locs hB => ?_)
  replace hv := y_gd_e hv
  obtain ⟨g57, hv⟩ := hv
  replace hv := y_gd_e hv
  obtain ⟨i58, hv⟩ := hv
  replace hv := y_gd_e hv
  obtain ⟨g59, hv⟩ := hv
  replace hv := y_nm_e hv
  obtain ⟨h60, eh60, hv⟩ := hv
  refine y_aast hc hB 17 8 eh60 g57 i58 g59 dX11_init_87 (by decide) (by decide) (by decide) rfl (fun H locs hB => ?_)
  replace hv := y_gd_e hv
  obtain ⟨g61, hv⟩ := hv
  have g62 : z_ok h60 o40 17 = true := by rw [eh60]; exact g57
  replace hv := y_nm_e hv
  obtain ⟨h63, eh63, hv⟩ := hv
  refine z_putF hc hB 10 4 (r := (some o40)) rfl (z_hrS (k := 17) g62) eh63 g61 qfX11_40 dX11_init_88 hnm (by decide) (by decide) rfl rfl rfl (fun r => by cases r <;> rfl) (fun r => by cases r <;> rfl) (fun H locs hB => ?_)
  refine lv_aload_n hx hb dX11_init_91 rfl (lv_at hl 1 rfl) ?_
  replace hv := y_nm_e hv
  obtain ⟨o64, eo64, hv⟩ := hv
  replace hv := y_nm_e hv
  obtain ⟨h65, eh65, hv⟩ := hv
  refine z_new hc hB 4 eh65 (by decide) qlX11_44 qi_DreamTests_Past qn_RX4 (Nat.le_of_ble_eq_true rfl) (Nat.le_of_ble_eq_true rfl) dX11_init_92 (fun H hB => ?_)
  rw [← eo64]
  have g66 : z_ok h65 o64 4 = true := by rw [eh65, eo64]; exact z_al_ok
  refine lv_dup hx hb dX11_init_95 rfl ?_
  refine lv_aload_n hx hb dX11_init_96 rfl (lv_at hl 0 rfl) ?_
  replace hv := y_bi_e hv
  obtain ⟨h68, c67, hv⟩ := hv
  refine z_thV hc hB (z_runI (rest := [.ref (ad o64), .ref (ad o0)]) hc hB (mm_X4_init hSK l ad o64 o1 h65 c67) md_X4_init qmX11_46 rfl rfl ⟨Nat.le_of_ble_eq_true rfl, Nat.le_of_ble_eq_true rfl⟩ rfl hl.1 rfl (Nat.le_of_ble_eq_true rfl) dX11_init_97 ⟨Nat.le_of_ble_eq_true rfl, Nat.le_of_ble_eq_true rfl⟩) (fun H locs hB => ?_)
  replace hv := y_gd_e hv
  obtain ⟨g69, hv⟩ := hv
  replace hv := y_gd_e hv
  obtain ⟨g70, hv⟩ := hv
  replace hv := y_nm_e hv
  obtain ⟨h71, eh71, hv⟩ := hv
  refine z_putF hc hB 10 5 (r := (some o64)) rfl (z_hrS (k := 4) g70) eh71 g69 qfX11_47 dX11_init_100 hnm (by decide) (by decide) rfl rfl rfl (fun r => by cases r <;> rfl) (fun r => by cases r <;> rfl) (fun H locs hB => ?_)
  refine lv_aload_n hx hb dX11_init_103 rfl (lv_at hl 1 rfl) ?_
  replace hv := y_nm_e hv
  obtain ⟨o72, eo72, hv⟩ := hv
  replace hv := y_nm_e hv
  obtain ⟨h73, eh73, hv⟩ := hv
  refine z_new hc hB 2 eh73 (by decide) qlX11_51 qi_DreamTests_Night qn_RX2 (Nat.le_of_ble_eq_true rfl) (Nat.le_of_ble_eq_true rfl) dX11_init_104 (fun H hB => ?_)
  rw [← eo72]
  have g74 : z_ok h73 o72 2 = true := by rw [eh73, eo72]; exact z_al_ok
  refine lv_dup hx hb dX11_init_107 rfl ?_
  refine lv_aload_n hx hb dX11_init_108 rfl (lv_at hl 0 rfl) ?_
  replace hv := y_bi_e hv
  obtain ⟨h76, c75, hv⟩ := hv
  refine z_thV hc hB (z_runI (rest := [.ref (ad o72), .ref (ad o0)]) hc hB (mm_X2_init hSK l ad o72 o1 h73 c75) md_X2_init qmX11_53 rfl rfl ⟨Nat.le_of_ble_eq_true rfl, Nat.le_of_ble_eq_true rfl⟩ rfl hl.1 rfl (Nat.le_of_ble_eq_true rfl) dX11_init_109 ⟨Nat.le_of_ble_eq_true rfl, Nat.le_of_ble_eq_true rfl⟩) (fun H locs hB => ?_)
  replace hv := y_gd_e hv
  obtain ⟨g77, hv⟩ := hv
  replace hv := y_gd_e hv
  obtain ⟨g78, hv⟩ := hv
  replace hv := y_nm_e hv
  obtain ⟨h79, eh79, hv⟩ := hv
  refine z_putF hc hB 10 6 (r := (some o72)) rfl (z_hrS (k := 2) g78) eh79 g77 qfX11_54 dX11_init_112 hnm (by decide) (by decide) rfl rfl rfl (fun r => by cases r <;> rfl) (fun r => by cases r <;> rfl) (fun H locs hB => ?_)
  refine lv_aload_n hx hb dX11_init_115 rfl (lv_at hl 1 rfl) ?_
  replace hv := y_nm_e hv
  obtain ⟨o80, eo80, hv⟩ := hv
  replace hv := y_nm_e hv
  obtain ⟨h81, eh81, hv⟩ := hv
  refine z_new hc hB 5 eh81 (by decide) qlX11_58 qi_DreamTests_Plan qn_RX5 (Nat.le_of_ble_eq_true rfl) (Nat.le_of_ble_eq_true rfl) dX11_init_116 (fun H hB => ?_)
  rw [← eo80]
  have g82 : z_ok h81 o80 5 = true := by rw [eh81, eo80]; exact z_al_ok
  refine lv_dup hx hb dX11_init_119 rfl ?_
  refine lv_aload_n hx hb dX11_init_120 rfl (lv_at hl 0 rfl) ?_
  replace hv := y_bi_e hv
  obtain ⟨h84, c83, hv⟩ := hv
  refine z_thV hc hB (z_runI (rest := [.ref (ad o80), .ref (ad o0)]) hc hB (mm_X5_init hSK l ad o80 o1 h81 c83) md_X5_init qmX11_60 rfl rfl ⟨Nat.le_of_ble_eq_true rfl, Nat.le_of_ble_eq_true rfl⟩ rfl hl.1 rfl (Nat.le_of_ble_eq_true rfl) dX11_init_121 ⟨Nat.le_of_ble_eq_true rfl, Nat.le_of_ble_eq_true rfl⟩) (fun H locs hB => ?_)
  replace hv := y_gd_e hv
  obtain ⟨g85, hv⟩ := hv
  replace hv := y_gd_e hv
  obtain ⟨g86, hv⟩ := hv
  replace hv := y_nm_e hv
  obtain ⟨h87, eh87, hv⟩ := hv
  refine z_putF hc hB 10 7 (r := (some o80)) rfl (z_hrS (k := 5) g86) eh87 g85 qfX11_61 dX11_init_124 hnm (by decide) (by decide) rfl rfl rfl (fun r => by cases r <;> rfl) (fun r => by cases r <;> rfl) (fun H locs hB => ?_)
  refine lv_aload_n hx hb dX11_init_127 rfl (lv_at hl 1 rfl) ?_
  replace hv := y_nm_e hv
  obtain ⟨o88, eo88, hv⟩ := hv
  replace hv := y_nm_e hv
  obtain ⟨h89, eh89, hv⟩ := hv
  refine z_new hc hB 3 eh89 (by decide) qlX11_65 qi_DreamTests_Nights qn_RX3 (Nat.le_of_ble_eq_true rfl) (Nat.le_of_ble_eq_true rfl) dX11_init_128 (fun H hB => ?_)
  rw [← eo88]
  have g90 : z_ok h89 o88 3 = true := by rw [eh89, eo88]; exact z_al_ok
  refine lv_dup hx hb dX11_init_131 rfl ?_
  replace hv := y_bi_e hv
  obtain ⟨h92, c91, hv⟩ := hv
  refine z_thV hc hB (z_runIN (rest := [.ref (ad o88), .ref (ad o0)]) hc hB (mm_X3_init hSK l ad o88 h89 c91) md_X3_init qmX11_67 rfl rfl ⟨Nat.le_of_ble_eq_true rfl, Nat.le_of_ble_eq_true rfl⟩ rfl hl.1 rfl (Nat.le_of_ble_eq_true rfl) dX11_init_132 ⟨Nat.le_of_ble_eq_true rfl, Nat.le_of_ble_eq_true rfl⟩) (fun H locs hB => ?_)
  replace hv := y_gd_e hv
  obtain ⟨g93, hv⟩ := hv
  replace hv := y_gd_e hv
  obtain ⟨g94, hv⟩ := hv
  replace hv := y_nm_e hv
  obtain ⟨h95, eh95, hv⟩ := hv
  refine z_putF hc hB 10 8 (r := (some o88)) rfl (z_hrS (k := 3) g94) eh95 g93 qfX11_68 dX11_init_135 hnm (by decide) (by decide) rfl rfl rfl (fun r => by cases r <;> rfl) (fun r => by cases r <;> rfl) (fun H locs hB => ?_)
  replace hv := Option.some.inj hv
  subst hv
  rw [← kt]
  exact z_vret hc hB hr dX11_init_138
