/-! the methods of the class: the rows that decode, a function each, the walk (by gen5.py) -/
theorem qlX11_239 : Cond.classLink RX11 239 "DreamTests$Tree" ∈ z_ws := List.mem_filter.mpr ⟨List.mem_append_right _ (List.mem_of_getElem? (i := 780) (by decide +kernel)), rfl⟩
theorem qi_DreamTests_Tree : Cond.instantiable "DreamTests$Tree" 2 ∈ z_ws := List.mem_filter.mpr ⟨List.mem_append_right _ (List.mem_of_getElem? (i := 781) (by decide +kernel)), rfl⟩
theorem qmX11_241 : Cond.methodLinkNest RX11 241 yX9_init "DreamTests" ∈ z_nw := List.mem_filter.mpr ⟨List.mem_of_getElem? (i := 782) (by decide +kernel), rfl⟩
theorem qc_X9_init : Cond.code yX9_init cX9_init 1 none ∈ z_ws := List.mem_filter.mpr ⟨List.mem_append_right _ (List.mem_of_getElem? (i := 784) (by decide +kernel)), rfl⟩
theorem qi_X9_init : Cond.instanceMethod yX9_init ∈ z_ws := List.mem_filter.mpr ⟨List.mem_append_right _ (List.mem_of_getElem? (i := 783) (by decide +kernel)), rfl⟩
theorem md_X9_init : z_mdI yX9_init cX9_init 1 0 := ⟨⟨qn_RX9, qc_X9_init, ⟨by decide +kernel, by decide +kernel, by decide +kernel⟩⟩, rfl, qi_X9_init⟩
theorem qmX11_242 : Cond.methodLink RX11 242 yX9_readWhole ∈ z_ws := List.mem_filter.mpr ⟨List.mem_append_right _ (List.mem_of_getElem? (i := 794) (by decide +kernel)), rfl⟩
theorem qc_X9_readWhole : Cond.code yX9_readWhole cX9_readWhole 3 (some .boolean) ∈ z_ws := List.mem_filter.mpr ⟨List.mem_append_right _ (List.mem_of_getElem? (i := 797) (by decide +kernel)), rfl⟩
theorem qi_X9_readWhole : Cond.instanceMethod yX9_readWhole ∈ z_ws := List.mem_filter.mpr ⟨List.mem_append_right _ (List.mem_of_getElem? (i := 795) (by decide +kernel)), rfl⟩
theorem qs_X9_readWhole : Cond.selects RX9 yX9_readWhole yX9_readWhole ∈ z_ws := List.mem_filter.mpr ⟨List.mem_append_right _ (List.mem_of_getElem? (i := 796) (by decide +kernel)), rfl⟩
theorem md_X9_readWhole : z_mdV yX9_readWhole cX9_readWhole 3 (some .boolean) 2 := ⟨⟨qn_RX9, qc_X9_readWhole, ⟨by decide +kernel, by decide +kernel, by decide +kernel⟩⟩, qi_X9_readWhole, qs_X9_readWhole⟩
theorem qfX11_246 : Cond.fieldLinkNest RX11 246 "DreamTests$State" "tree" "LDreamTests$Tree;" "DreamTests" ∈ z_nw := List.mem_filter.mpr ⟨List.mem_of_getElem? (i := 189) (by decide +kernel), rfl⟩
theorem qfX11_250 : Cond.fieldLinkNest RX11 250 "DreamTests$Tree" "tests" "I" "DreamTests" ∈ z_nw := List.mem_filter.mpr ⟨List.mem_of_getElem? (i := 788) (by decide +kernel), rfl⟩
theorem dX11_tree_0 : decode cX11_tree 0 = .ok (.new 239, 3) := by decide +kernel
theorem dX11_tree_3 : decode cX11_tree 3 = .ok (.dup, 1) := by decide +kernel
theorem dX11_tree_4 : decode cX11_tree 4 = .ok (.invokespecial 241, 3) := by decide +kernel
theorem dX11_tree_7 : decode cX11_tree 7 = .ok (.astore_n 1, 1) := by decide +kernel
theorem dX11_tree_8 : decode cX11_tree 8 = .ok (.aload_n 0, 1) := by decide +kernel
theorem dX11_tree_9 : decode cX11_tree 9 = .ok (.getfield 27, 3) := by decide +kernel
theorem dX11_tree_12 : decode cX11_tree 12 = .ok (.sipush 400, 3) := by decide +kernel
theorem dX11_tree_15 : decode cX11_tree 15 = .ok (.invokevirtual 84, 3) := by decide +kernel
theorem dX11_tree_18 : decode cX11_tree 18 = .ok (.aload_n 1, 1) := by decide +kernel
theorem dX11_tree_19 : decode cX11_tree 19 = .ok (.aload_n 0, 1) := by decide +kernel
theorem dX11_tree_20 : decode cX11_tree 20 = .ok (.getfield 27, 3) := by decide +kernel
theorem dX11_tree_23 : decode cX11_tree 23 = .ok (.aload_n 0, 1) := by decide +kernel
theorem dX11_tree_24 : decode cX11_tree 24 = .ok (.getfield 36, 3) := by decide +kernel
theorem dX11_tree_27 : decode cX11_tree 27 = .ok (.getfield 106, 3) := by decide +kernel
theorem dX11_tree_30 : decode cX11_tree 30 = .ok (.getfield 109, 3) := by decide +kernel
theorem dX11_tree_33 : decode cX11_tree 33 = .ok (.invokevirtual 242, 3) := by decide +kernel
theorem dX11_tree_36 : decode cX11_tree 36 = .ok (.istore_n 2, 1) := by decide +kernel
theorem dX11_tree_37 : decode cX11_tree 37 = .ok (.aload_n 0, 1) := by decide +kernel
theorem dX11_tree_38 : decode cX11_tree 38 = .ok (.getfield 15, 3) := by decide +kernel
theorem dX11_tree_41 : decode cX11_tree 41 = .ok (.iconst 0, 1) := by decide +kernel
theorem dX11_tree_42 : decode cX11_tree 42 = .ok (.putfield 80, 3) := by decide +kernel
theorem dX11_tree_45 : decode cX11_tree 45 = .ok (.iload_n 2, 1) := by decide +kernel
theorem dX11_tree_46 : decode cX11_tree 46 = .ok (.ifCond .ne 13, 3) := by decide +kernel
theorem dX11_tree_49 : decode cX11_tree 49 = .ok (.iconst (-1), 1) := by decide +kernel
theorem dX11_tree_50 : decode cX11_tree 50 = .ok (.aload_n 0, 1) := by decide +kernel
theorem dX11_tree_51 : decode cX11_tree 51 = .ok (.getfield 27, 3) := by decide +kernel
theorem dX11_tree_54 : decode cX11_tree 54 = .ok (.getfield 91, 3) := by decide +kernel
theorem dX11_tree_57 : decode cX11_tree 57 = .ok (.isub, 1) := by decide +kernel
theorem dX11_tree_58 : decode cX11_tree 58 = .ok (.ireturn, 1) := by decide +kernel
theorem dX11_tree_59 : decode cX11_tree 59 = .ok (.aload_n 0, 1) := by decide +kernel
theorem dX11_tree_60 : decode cX11_tree 60 = .ok (.getfield 36, 3) := by decide +kernel
theorem dX11_tree_63 : decode cX11_tree 63 = .ok (.aload_n 1, 1) := by decide +kernel
theorem dX11_tree_64 : decode cX11_tree 64 = .ok (.putfield 246, 3) := by decide +kernel
theorem dX11_tree_67 : decode cX11_tree 67 = .ok (.aload_n 1, 1) := by decide +kernel
theorem dX11_tree_68 : decode cX11_tree 68 = .ok (.getfield 250, 3) := by decide +kernel
theorem dX11_tree_71 : decode cX11_tree 71 = .ok (.ireturn, 1) := by decide +kernel
abbrev rm_X11_tree : Room := { frames := 13, cells := 2, slots := 34, locals := 328 }
noncomputable def fX11_tree (o0 : Nat) (h : z_T) : Option (Int32 × z_T) :=
  y_nm (z_n h) fun ob1 =>
  y_nm (z_al h 9 0) fun h2 =>
  y_bi (fX9_init ob1 h2) fun h5 =>
  y_gd (z_ok h5 o0 10) <|
  y_bi (z_R h5 o0 2) fun ob7 =>
  y_gd (z_ok h5 ob7 6) <|
  y_bi (fX6_open ob7 (400 : Int32) h5) fun h9 =>
  y_gd (z_ok h9 o0 10) <|
  y_bi (z_R h9 o0 2) fun ob12 =>
  y_bi (z_R h9 o0 3) fun ob13 =>
  y_gd (z_ok h9 ob13 8) <|
  y_bi (z_R h9 ob13 0) fun ob15 =>
  y_gd (z_ok h9 ob15 2) <|
  y_bi (z_R h9 ob15 0) fun ob17 =>
  y_gd (z_ok h9 ob1 9) <|
  y_bi (fX9_readWhole ob1 ob12 ob17 h9) fun ⟨r19, h23⟩ =>
  y_gd (z_ok h23 o0 10) <|
  y_bi (z_R h23 o0 0) fun ob26 =>
  y_gd (z_ok h23 ob26 1) <|
  y_nm (z_sI h23 ob26 1 (0 : Int32)) fun h28 =>
  y_br (r19 = 0)
    (y_bi (z_R h28 o0 2) fun ob34 =>
    y_gd (z_ok h28 ob34 6) <|
    some (((-1 : Int32) - (z_I h28 ob34 3)), h28))
    (y_bi (z_R h28 o0 3) fun ob30 =>
    y_gd (z_ok h28 ob30 8) <|
    y_gd (z_ok h28 ob1 9) <|
    y_nm (z_sR h28 ob30 1 (some ob1)) fun h33 =>
    some ((z_I h33 ob1 1), h33))
set_option maxHeartbeats 4000000 in
set_option maxRecDepth 100000 in
theorem mm_X11_tree {G : z_Gt} (hSK : z_SK (z_S G)) (l : Launch) (ad : Nat → Nat) (o0 : Nat) (h : z_T) {r0 : Int32} {h9 : z_T} (hv : fX11_tree o0 h = some (r0, h9)) : z_Mi G (z_S G) l yX11_tree cX11_tree 3 (.int) rm_X11_tree 2 34 [.ref (ad o0)] ad h h9 r0 := by
  refine z_ofW hSK (by decide) (Nat.le_of_ble_eq_true rfl) ?_
  intro p e s m args below meth c ls hc hr hnm hB hl
  have hx := hc.1.1
  have hb := hc.1.2.1
  have hown := hc.1.2.2.2.1
  have hts := hc.1.2.2.2.2
  replace hc : z_C G (z_S G) ad (z_n h) p m c cX11_tree 3 s args RX11 meth := hc
  replace hown : s.vm.findClass RX11 = some m.cls := hown
  replace hl : lv_has ls 3 [(0, .ref (ad o0))] := hl
  show W p l e rm_X11_tree s m args below meth c s.heap [] 0 0 (MQ below (z_Qi G ad h9 (z_n h) s.heap.size r0) args s 2 34 (z_A ad (z_n h) s.heap.size)) (F0 m 0 ls [])
  obtain ⟨rs, kt⟩ : ∃ rs : Int32 × z_T, rs = (r0, h9) := ⟨_, rfl⟩
  generalize hn0 : z_n h = n0 at hc hB ⊢
  rw [← kt] at hv
  obtain ⟨ob1, eob1, hv⟩ := y_nm_e hv
  obtain ⟨h2, eh2, hv⟩ := y_nm_e hv
  refine z_new hc hB 9 eh2 (by decide) qlX11_239 qi_DreamTests_Tree qn_RX9 (Nat.le_of_ble_eq_true rfl) (Nat.le_of_ble_eq_true rfl) dX11_tree_0 (fun H hB => ?_)
  rw [← eob1]
  have g3 : z_ok h2 ob1 9 = true := by rw [eh2, eob1]; exact z_al_ok
  refine lv_dup hx hb dX11_tree_3 rfl ?_
  obtain ⟨h5, c4, hv⟩ := y_bi_e hv
  refine z_thV hc hB (z_runIN (rest := [.ref (ad ob1)]) hc hB (mm_X9_init hSK l ad ob1 h2 c4) md_X9_init qmX11_241 rfl rfl ⟨Nat.le_of_ble_eq_true rfl, Nat.le_of_ble_eq_true rfl⟩ rfl hl.1 rfl (Nat.le_of_ble_eq_true rfl) dX11_tree_4 ⟨Nat.le_of_ble_eq_true rfl, Nat.le_of_ble_eq_true rfl⟩) (fun H locs hB => ?_)
  refine lv_astore_n (lv' := [(1, .ref (ad ob1)), (0, .ref (ad o0))]) hx hb dX11_tree_7 rfl hl (by decide) rfl (fun ls hl => ?_)
  refine lv_aload_n hx hb dX11_tree_8 rfl (lv_at hl 1 rfl) ?_
  obtain ⟨g6, hv⟩ := y_gd_e hv
  obtain ⟨ob7, eob7, hv⟩ := y_bi_e hv
  refine z_getR hc hB 10 2 g6 eob7 (by decide) (by decide) rfl (z_l1 hc qfX11_27) dX11_tree_9 ?_
  refine lv_sipush (v := (400 : Int32)) hx hb dX11_tree_12 (by decide) ?_
  obtain ⟨g10, hv⟩ := y_gd_e hv
  obtain ⟨h9, c8, hv⟩ := y_bi_e hv
  refine z_thV hc hB (z_runV (rest := []) hc hB 6 (mm_X6_open hSK l ad ob7 (400 : Int32) h5 c8) md_X6_open qmX11_84 g10 (by decide) rfl rfl rfl ⟨Nat.le_of_ble_eq_true rfl, Nat.le_of_ble_eq_true rfl⟩ rfl hl.1 rfl (Nat.le_of_ble_eq_true rfl) dX11_tree_15 ⟨Nat.le_of_ble_eq_true rfl, Nat.le_of_ble_eq_true rfl⟩) (fun H locs hB => ?_)
  refine lv_aload_n hx hb dX11_tree_18 rfl (lv_at hl 0 rfl) ?_
  refine lv_aload_n hx hb dX11_tree_19 rfl (lv_at hl 1 rfl) ?_
  obtain ⟨g11, hv⟩ := y_gd_e hv
  obtain ⟨ob12, eob12, hv⟩ := y_bi_e hv
  refine z_getR hc hB 10 2 g11 eob12 (by decide) (by decide) rfl (z_l1 hc qfX11_27) dX11_tree_20 ?_
  refine lv_aload_n hx hb dX11_tree_23 rfl (lv_at hl 1 rfl) ?_
  obtain ⟨ob13, eob13, hv⟩ := y_bi_e hv
  refine z_getR hc hB 10 3 g11 eob13 (by decide) (by decide) rfl (z_l1 hc qfX11_36) dX11_tree_24 ?_
  obtain ⟨g14, hv⟩ := y_gd_e hv
  obtain ⟨ob15, eob15, hv⟩ := y_bi_e hv
  refine z_getR hc hB 8 0 g14 eob15 (by decide) (by decide) rfl (z_l2 hc qfX11_106) dX11_tree_27 ?_
  obtain ⟨g16, hv⟩ := y_gd_e hv
  obtain ⟨ob17, eob17, hv⟩ := y_bi_e hv
  refine z_getR hc hB 2 0 g16 eob17 (by decide) (by decide) rfl (z_l2 hc qfX11_109) dX11_tree_30 ?_
  obtain ⟨g24, hv⟩ := y_gd_e hv
  obtain ⟨⟨r19, h23⟩, c18, hv⟩ := y_bi_e hv
  refine z_thI hc hB (z_runV (rest := []) hc hB 9 (mm_X9_readWhole hSK l ad ob1 ob12 ob17 h9 c18) md_X9_readWhole qmX11_242 g24 (by decide) rfl rfl rfl ⟨Nat.le_of_ble_eq_true rfl, Nat.le_of_ble_eq_true rfl⟩ rfl hl.1 rfl (Nat.le_of_ble_eq_true rfl) dX11_tree_33 ⟨Nat.le_of_ble_eq_true rfl, Nat.le_of_ble_eq_true rfl⟩) (fun H locs hB => ?_)
  refine lv_istore_n (lv' := [(2, .int r19), (1, .ref (ad ob1)), (0, .ref (ad o0))]) hx hb dX11_tree_36 rfl hl (by decide) rfl (fun ls hl => ?_)
  refine lv_aload_n hx hb dX11_tree_37 rfl (lv_at hl 2 rfl) ?_
  obtain ⟨g25, hv⟩ := y_gd_e hv
  obtain ⟨ob26, eob26, hv⟩ := y_bi_e hv
  refine z_getR hc hB 10 0 g25 eob26 (by decide) (by decide) rfl (z_l1 hc qfX11_15) dX11_tree_38 ?_
  refine lv_iconst (v := (0 : Int32)) hx hb dX11_tree_41 (by decide) ?_
  obtain ⟨g27, hv⟩ := y_gd_e hv
  obtain ⟨h28, eh28, hv⟩ := y_nm_e hv
  refine y_putI hc hB 1 1 eh28 g27 (z_l2 hc qfX11_80) dX11_tree_42 (by decide) (by decide) rfl rfl rfl rfl (fun H locs hB => ?_)
  refine lv_iload_n hx hb dX11_tree_45 rfl (lv_at hl 0 rfl) ?_
  refine lv_if_ne (tgt := 59) hx hb dX11_tree_46 (by decide) (fun c29 => ?_) (fun c29 => ?_)
  · replace hv := y_br_f hv c29
    refine lv_aload_n hx hb dX11_tree_59 rfl (lv_at hl 2 rfl) ?_
    obtain ⟨ob30, eob30, hv⟩ := y_bi_e hv
    refine z_getR hc hB 10 3 (by rw [eh28]; exact g25) eob30 (by decide) (by decide) rfl (z_l1 hc qfX11_36) dX11_tree_60 ?_
    refine lv_aload_n hx hb dX11_tree_63 rfl (lv_at hl 1 rfl) ?_
    obtain ⟨g31, hv⟩ := y_gd_e hv
    obtain ⟨g32, hv⟩ := y_gd_e hv
    obtain ⟨h33, eh33, hv⟩ := y_nm_e hv
    refine z_putN hc hB 8 1 (r := (some ob1)) rfl (z_hrS (k := 9) g32) eh33 g31 (z_l2 hc qfX11_246) dX11_tree_64 (by decide) (by decide) rfl rfl (fun r => by cases r <;> rfl) (fun r => by cases r <;> rfl) (fun H locs hB => ?_)
    refine lv_aload_n hx hb dX11_tree_67 rfl (lv_at hl 1 rfl) ?_
    refine z_getI hc hB 9 1 (by rw [eh33]; exact g32) (by decide) (by decide) rfl (z_l2 hc qfX11_250) dX11_tree_68 ?_
    replace hv := Option.some.inj hv
    subst hv
    obtain ⟨e1, e2⟩ := y_pr kt
    rw [← e1, ← e2]
    exact z_iret hc hB hr dX11_tree_71
  · replace hv := y_br_t hv c29
    refine lv_iconst (v := (-1 : Int32)) hx hb dX11_tree_49 (by decide) ?_
    refine lv_aload_n hx hb dX11_tree_50 rfl (lv_at hl 2 rfl) ?_
    obtain ⟨ob34, eob34, hv⟩ := y_bi_e hv
    refine z_getR hc hB 10 2 (by rw [eh28]; exact g25) eob34 (by decide) (by decide) rfl (z_l1 hc qfX11_27) dX11_tree_51 ?_
    obtain ⟨g35, hv⟩ := y_gd_e hv
    refine z_getI hc hB 6 3 g35 (by decide) (by decide) rfl (z_l2 hc qfX11_91) dX11_tree_54 ?_
    refine lv_isub hx hb dX11_tree_57 ?_
    replace hv := Option.some.inj hv
    subst hv
    obtain ⟨e1, e2⟩ := y_pr kt
    rw [← e1, ← e2]
    exact z_iret hc hB hr dX11_tree_58
theorem qmX11_255 : Cond.methodLink RX11 255 yX9_actBehind ∈ z_ws := List.mem_filter.mpr ⟨List.mem_append_right _ (List.mem_of_getElem? (i := 819) (by decide +kernel)), rfl⟩
theorem qc_X9_actBehind : Cond.code yX9_actBehind cX9_actBehind 5 (some .int) ∈ z_ws := List.mem_filter.mpr ⟨List.mem_append_right _ (List.mem_of_getElem? (i := 822) (by decide +kernel)), rfl⟩
theorem qi_X9_actBehind : Cond.instanceMethod yX9_actBehind ∈ z_ws := List.mem_filter.mpr ⟨List.mem_append_right _ (List.mem_of_getElem? (i := 820) (by decide +kernel)), rfl⟩
theorem qs_X9_actBehind : Cond.selects RX9 yX9_actBehind yX9_actBehind ∈ z_ws := List.mem_filter.mpr ⟨List.mem_append_right _ (List.mem_of_getElem? (i := 821) (by decide +kernel)), rfl⟩
theorem md_X9_actBehind : z_mdV yX9_actBehind cX9_actBehind 5 (some .int) 1 := ⟨⟨qn_RX9, qc_X9_actBehind, ⟨by decide +kernel, by decide +kernel, by decide +kernel⟩⟩, qi_X9_actBehind, qs_X9_actBehind⟩
theorem dX11_leads_0 : decode cX11_leads 0 = .ok (.aload_n 0, 1) := by decide +kernel
theorem dX11_leads_1 : decode cX11_leads 1 = .ok (.getfield 36, 3) := by decide +kernel
theorem dX11_leads_4 : decode cX11_leads 4 = .ok (.getfield 246, 3) := by decide +kernel
theorem dX11_leads_7 : decode cX11_leads 7 = .ok (.astore_n 1, 1) := by decide +kernel
theorem dX11_leads_8 : decode cX11_leads 8 = .ok (.aload_n 1, 1) := by decide +kernel
theorem dX11_leads_9 : decode cX11_leads 9 = .ok (.ifnonnull 7, 3) := by decide +kernel
theorem dX11_leads_12 : decode cX11_leads 12 = .ok (.iconst (-1), 1) := by decide +kernel
theorem dX11_leads_13 : decode cX11_leads 13 = .ok (.goto 14, 3) := by decide +kernel
theorem dX11_leads_16 : decode cX11_leads 16 = .ok (.aload_n 1, 1) := by decide +kernel
theorem dX11_leads_17 : decode cX11_leads 17 = .ok (.aload_n 0, 1) := by decide +kernel
theorem dX11_leads_18 : decode cX11_leads 18 = .ok (.getfield 36, 3) := by decide +kernel
theorem dX11_leads_21 : decode cX11_leads 21 = .ok (.getfield 106, 3) := by decide +kernel
theorem dX11_leads_24 : decode cX11_leads 24 = .ok (.invokevirtual 255, 3) := by decide +kernel
theorem dX11_leads_27 : decode cX11_leads 27 = .ok (.ireturn, 1) := by decide +kernel
abbrev rm_X11_leads : Room := { frames := 2, cells := 0, slots := 0, locals := 45 }
noncomputable def fX11_leads (o0 : Nat) (h : z_T) : Option (Int32) :=
  y_gd (z_ok h o0 10) <|
  y_bi (z_R h o0 3) fun ob2 =>
  y_gd (z_ok h ob2 8) <|
  y_op (z_R h ob2 1)
    (some (-1 : Int32))
    (fun ob4 =>
    y_bi (z_R h ob2 0) fun ob5 =>
    y_gd (z_ok h ob4 9) <|
    y_bi (fX9_actBehind ob4 ob5 h) fun r7 =>
    some r7)
set_option maxHeartbeats 4000000 in
set_option maxRecDepth 100000 in
theorem mm_X11_leads {G : z_Gt} (hSK : z_SK (z_S G)) (l : Launch) (ad : Nat → Nat) (o0 : Nat) (h : z_T) {r0 : Int32} (hv : fX11_leads o0 h = some r0) : z_Mi G (z_S G) l yX11_leads cX11_leads 2 (.int) rm_X11_leads 0 0 [.ref (ad o0)] ad h h r0 := by
  refine z_ofW hSK (by decide) (Nat.le_of_ble_eq_true rfl) ?_
  intro p e s m args below meth c ls hc hr hnm hB hl
  have hx := hc.1.1
  have hb := hc.1.2.1
  have hown := hc.1.2.2.2.1
  have hts := hc.1.2.2.2.2
  replace hc : z_C G (z_S G) ad (z_n h) p m c cX11_leads 2 s args RX11 meth := hc
  replace hown : s.vm.findClass RX11 = some m.cls := hown
  replace hl : lv_has ls 2 [(0, .ref (ad o0))] := hl
  show W p l e rm_X11_leads s m args below meth c s.heap [] 0 0 (MQ below (z_Qi G ad h (z_n h) s.heap.size r0) args s 0 0 (z_A ad (z_n h) s.heap.size)) (F0 m 0 ls [])
  obtain ⟨rs, kt⟩ : ∃ rs : Int32, rs = r0 := ⟨_, rfl⟩
  generalize hn0 : z_n h = n0 at hc hB ⊢
  rw [← kt] at hv
  refine lv_aload_n hx hb dX11_leads_0 rfl (lv_at hl 0 rfl) ?_
  obtain ⟨g1, hv⟩ := y_gd_e hv
  obtain ⟨ob2, eob2, hv⟩ := y_bi_e hv
  refine z_getR hc hB 10 3 g1 eob2 (by decide) (by decide) rfl (z_l1 hc qfX11_36) dX11_leads_1 ?_
  obtain ⟨g3, hv⟩ := y_gd_e hv
  rcases y_op_e hv with ⟨eo, hv⟩ | ⟨ob4, eo, hv⟩
  · refine z_getN hc hB 8 1 g3 eo (by decide) (by decide) rfl (z_l2 hc qfX11_246) dX11_leads_4 ?_
    refine lv_astore_nN (lv' := [(1, .null), (0, .ref (ad o0))]) hx hb dX11_leads_7 rfl hl (by decide) rfl (fun ls hl => ?_)
    refine lv_aload_nN hx hb dX11_leads_8 rfl (lv_at hl 0 rfl) ?_
    refine lv_ifnonnullN hx hb dX11_leads_9 ?_
    refine lv_iconst (v := (-1 : Int32)) hx hb dX11_leads_12 (by decide) ?_
    refine lv_goto (tgt := 27) hx hb dX11_leads_13 (by decide) ?_
    replace hv := Option.some.inj hv
    subst hv
    rw [← kt]
    exact z_iret hc hB hr dX11_leads_27
  · refine z_getR hc hB 8 1 g3 eo (by decide) (by decide) rfl (z_l2 hc qfX11_246) dX11_leads_4 ?_
    refine lv_astore_n (lv' := [(1, .ref (ad ob4)), (0, .ref (ad o0))]) hx hb dX11_leads_7 rfl hl (by decide) rfl (fun ls hl => ?_)
    refine lv_aload_n hx hb dX11_leads_8 rfl (lv_at hl 0 rfl) ?_
    refine lv_ifnonnull (tgt := 16) hx hb dX11_leads_9 (by decide) ?_
    refine lv_aload_n hx hb dX11_leads_16 rfl (lv_at hl 0 rfl) ?_
    refine lv_aload_n hx hb dX11_leads_17 rfl (lv_at hl 1 rfl) ?_
    refine z_getR hc hB 10 3 g1 eob2 (by decide) (by decide) rfl (z_l1 hc qfX11_36) dX11_leads_18 ?_
    obtain ⟨ob5, eob5, hv⟩ := y_bi_e hv
    refine z_getR hc hB 8 0 g3 eob5 (by decide) (by decide) rfl (z_l2 hc qfX11_106) dX11_leads_21 ?_
    obtain ⟨g11, hv⟩ := y_gd_e hv
    obtain ⟨r7, c6, hv⟩ := y_bi_e hv
    refine z_thI hc hB (z_runV hc hB 9 (mm_X9_actBehind hSK l ad ob4 ob5 h c6) md_X9_actBehind qmX11_255 g11 (by decide) rfl rfl rfl ⟨Nat.le_of_ble_eq_true rfl, Nat.le_of_ble_eq_true rfl⟩ rfl hl.1 rfl (Nat.le_of_ble_eq_true rfl) dX11_leads_24 ⟨Nat.le_of_ble_eq_true rfl, Nat.le_of_ble_eq_true rfl⟩) (fun H locs hB => ?_)
    replace hv := Option.some.inj hv
    subst hv
    rw [← kt]
    exact z_iret hc hB hr dX11_leads_27
theorem qmX11_269 : Cond.methodLink RX11 269 yX2_knownBehind ∈ z_ws := List.mem_filter.mpr ⟨List.mem_append_right _ (List.mem_of_getElem? (i := 832) (by decide +kernel)), rfl⟩
theorem qc_X2_knownBehind : Cond.code yX2_knownBehind cX2_knownBehind 10 (some .long) ∈ z_ws := List.mem_filter.mpr ⟨List.mem_append_right _ (List.mem_of_getElem? (i := 835) (by decide +kernel)), rfl⟩
theorem qi_X2_knownBehind : Cond.instanceMethod yX2_knownBehind ∈ z_ws := List.mem_filter.mpr ⟨List.mem_append_right _ (List.mem_of_getElem? (i := 833) (by decide +kernel)), rfl⟩
theorem qs_X2_knownBehind : Cond.selects RX2 yX2_knownBehind yX2_knownBehind ∈ z_ws := List.mem_filter.mpr ⟨List.mem_append_right _ (List.mem_of_getElem? (i := 834) (by decide +kernel)), rfl⟩
theorem md_X2_knownBehind : z_mdV yX2_knownBehind cX2_knownBehind 10 (some .long) 1 := ⟨⟨qn_RX2, qc_X2_knownBehind, ⟨by decide +kernel, by decide +kernel, by decide +kernel⟩⟩, qi_X2_knownBehind, qs_X2_knownBehind⟩
theorem dX11_next_0 : decode cX11_next 0 = .ok (.aload_n 0, 1) := by decide +kernel
theorem dX11_next_1 : decode cX11_next 1 = .ok (.getfield 36, 3) := by decide +kernel
theorem dX11_next_4 : decode cX11_next 4 = .ok (.getfield 106, 3) := by decide +kernel
theorem dX11_next_7 : decode cX11_next 7 = .ok (.astore_n 1, 1) := by decide +kernel
theorem dX11_next_8 : decode cX11_next 8 = .ok (.aload_n 1, 1) := by decide +kernel
theorem dX11_next_9 : decode cX11_next 9 = .ok (.invokevirtual 146, 3) := by decide +kernel
theorem dX11_next_12 : decode cX11_next 12 = .ok (.ifCond .eq 5, 3) := by decide +kernel
theorem dX11_next_15 : decode cX11_next 15 = .ok (.iconst (-1), 1) := by decide +kernel
theorem dX11_next_16 : decode cX11_next 16 = .ok (.ireturn, 1) := by decide +kernel
theorem dX11_next_17 : decode cX11_next 17 = .ok (.iconst (-1), 1) := by decide +kernel
theorem dX11_next_18 : decode cX11_next 18 = .ok (.istore_n 2, 1) := by decide +kernel
theorem dX11_next_19 : decode cX11_next 19 = .ok (.lconst 0, 1) := by decide +kernel
theorem dX11_next_20 : decode cX11_next 20 = .ok (.lstore_n 3, 1) := by decide +kernel
theorem dX11_next_21 : decode cX11_next 21 = .ok (.iconst 0, 1) := by decide +kernel
theorem dX11_next_22 : decode cX11_next 22 = .ok (.istore 5, 2) := by decide +kernel
theorem dX11_next_24 : decode cX11_next 24 = .ok (.iload 5, 2) := by decide +kernel
theorem dX11_next_26 : decode cX11_next 26 = .ok (.aload_n 1, 1) := by decide +kernel
theorem dX11_next_27 : decode cX11_next 27 = .ok (.getfield 109, 3) := by decide +kernel
theorem dX11_next_30 : decode cX11_next 30 = .ok (.getfield 217, 3) := by decide +kernel
theorem dX11_next_33 : decode cX11_next 33 = .ok (.if_icmp .ge 35, 3) := by decide +kernel
theorem dX11_next_36 : decode cX11_next 36 = .ok (.aload_n 1, 1) := by decide +kernel
theorem dX11_next_37 : decode cX11_next 37 = .ok (.iload 5, 2) := by decide +kernel
theorem dX11_next_39 : decode cX11_next 39 = .ok (.invokevirtual 269, 3) := by decide +kernel
theorem dX11_next_42 : decode cX11_next 42 = .ok (.lstore 6, 2) := by decide +kernel
theorem dX11_next_44 : decode cX11_next 44 = .ok (.iload_n 2, 1) := by decide +kernel
theorem dX11_next_45 : decode cX11_next 45 = .ok (.iconst (-1), 1) := by decide +kernel
theorem dX11_next_46 : decode cX11_next 46 = .ok (.if_icmp .eq 10, 3) := by decide +kernel
theorem dX11_next_49 : decode cX11_next 49 = .ok (.lload 6, 2) := by decide +kernel
theorem dX11_next_51 : decode cX11_next 51 = .ok (.lload_n 3, 1) := by decide +kernel
theorem dX11_next_52 : decode cX11_next 52 = .ok (.lcmp, 1) := by decide +kernel
theorem dX11_next_53 : decode cX11_next 53 = .ok (.ifCond .le 9, 3) := by decide +kernel
theorem dX11_next_56 : decode cX11_next 56 = .ok (.lload 6, 2) := by decide +kernel
theorem dX11_next_58 : decode cX11_next 58 = .ok (.lstore_n 3, 1) := by decide +kernel
theorem dX11_next_59 : decode cX11_next 59 = .ok (.iload 5, 2) := by decide +kernel
theorem dX11_next_61 : decode cX11_next 61 = .ok (.istore_n 2, 1) := by decide +kernel
theorem dX11_next_62 : decode cX11_next 62 = .ok (.iinc 5 1, 3) := by decide +kernel
theorem dX11_next_65 : decode cX11_next 65 = .ok (.goto (-41), 3) := by decide +kernel
theorem dX11_next_68 : decode cX11_next 68 = .ok (.iload_n 2, 1) := by decide +kernel
theorem dX11_next_69 : decode cX11_next 69 = .ok (.ireturn, 1) := by decide +kernel
abbrev rm_X11_next : Room := { frames := 5, cells := 0, slots := 0, locals := 121 }
noncomputable def fX11_next_b62 (o1 : Nat) (x2 : Int32) (l3 : Int64) (x5 : Int32) (h : z_T) : Option ((Int32 × Int64 × Int32) ⊕ (Int32)) :=
  y_nm (x5 + 1) fun v1 =>
  some (.inl (x2, l3, v1))
noncomputable def fX11_next_b56 (o1 : Nat) (x5 : Int32) (l6 : Int64) (h : z_T) : Option ((Int32 × Int64 × Int32) ⊕ (Int32)) :=
  fX11_next_b62 o1 x5 l6 x5 h
noncomputable def fX11_next_b24_i (o1 : Nat) (h : z_T) (x2 : Int32) (l3 : Int64) (x5 : Int32) : Option ((Int32 × Int64 × Int32) ⊕ (Int32)) :=
  y_gd (z_ok h o1 2) <|
  y_bi (z_R h o1 0) fun ob3 =>
  y_gd (z_ok h ob3 0) <|
  y_br ((z_I h ob3 1) ≤ x5)
    (y_mp <|
    some x2)
    (y_bi (fX2_knownBehind o1 x5 h) fun r9 =>
    y_br (x2 = (-1 : Int32))
      (fX11_next_b56 o1 x5 r9 h)
      (y_br ((lg_cmp r9 l3) ≤ 0)
        (fX11_next_b62 o1 x2 l3 x5 h)
        (fX11_next_b56 o1 x5 r9 h)))
noncomputable def fX11_next_b24 (o1 : Nat) (x2 : Int32) (l3 : Int64) (x5 : Int32) (h : z_T) : Option (Int32) := y_lp (fun q : Int32 × Int64 × Int32 => fX11_next_b24_i o1 h q.1 q.2.1 q.2.2) (x2, l3, x5)
noncomputable def fX11_next (o0 : Nat) (h : z_T) : Option (Int32) :=
  y_gd (z_ok h o0 10) <|
  y_bi (z_R h o0 3) fun ob15 =>
  y_gd (z_ok h ob15 8) <|
  y_bi (z_R h ob15 0) fun ob17 =>
  y_gd (z_ok h ob17 2) <|
  y_bi (fX2_isFull ob17 h) fun r19 =>
  y_br (r19 = 0)
    (fX11_next_b24 ob17 (-1 : Int32) (0 : Int64) (0 : Int32) h)
    (some (-1 : Int32))
set_option maxHeartbeats 4000000 in
set_option maxRecDepth 100000 in
theorem mm_X11_next {G : z_Gt} (hSK : z_SK (z_S G)) (l : Launch) (ad : Nat → Nat) (o0 : Nat) (h : z_T) {r0 : Int32} (hv : fX11_next o0 h = some r0) : z_Mi G (z_S G) l yX11_next cX11_next 8 (.int) rm_X11_next 0 0 [.ref (ad o0)] ad h h r0 := by
  refine z_ofW hSK (by decide) (Nat.le_of_ble_eq_true rfl) ?_
  intro p e s m args below meth c ls hc hr hnm hB hl
  have hx := hc.1.1
  have hb := hc.1.2.1
  have hown := hc.1.2.2.2.1
  have hts := hc.1.2.2.2.2
  replace hc : z_C G (z_S G) ad (z_n h) p m c cX11_next 8 s args RX11 meth := hc
  replace hown : s.vm.findClass RX11 = some m.cls := hown
  replace hl : lv_has ls 8 [(0, .ref (ad o0))] := hl
  show W p l e rm_X11_next s m args below meth c s.heap [] 0 0 (MQ below (z_Qi G ad h (z_n h) s.heap.size r0) args s 0 0 (z_A ad (z_n h) s.heap.size)) (F0 m 0 ls [])
  obtain ⟨rs, kt⟩ : ∃ rs : Int32, rs = r0 := ⟨_, rfl⟩
  generalize hn0 : z_n h = n0 at hc hB ⊢
  have L24 : ∀ (o1 : Nat) (nn24 : Nat) (x2 : Int32) (l3 : Int64) (x5 : Int32) (H : Heap) (locs : List Loc) (ls : Array Slot), z_B G ad n0 s h H locs → lv_has ls 8 [(1, .ref (ad o1)), (2, .int x2), (3, .long l3), (5, .int x5)] → ∀ vv24, y_lpN (fun q : Int32 × Int64 × Int32 => fX11_next_b24_i o1 h q.1 q.2.1 q.2.2) nn24 (x2, l3, x5) = some vv24 → vv24 = r0 → W p l e rm_X11_next s m args below meth c H locs 0 0 (MQ below (z_Qi G ad h n0 s.heap.size r0) args s 0 0 (z_A ad n0 s.heap.size)) (F0 m 24 ls []) := by
    intro o1 nn24
    induction nn24 with
    | zero => intro x2 l3 x5 H locs ls hB hl vv24 hv kv24; exact absurd hv (fun q => y_lpN_0 q)
    | succ nn24 ih24 =>
      intro x2 l3 x5 H locs ls hB hl vv24 hv kv24
      obtain ⟨w, hq, kw24⟩ := y_lpN_e hv
      clear hv
      have hv : fX11_next_b24_i o1 h x2 l3 x5 = some w := hq
      clear hq
      have b62 : ∀ (x2 : Int32) (l3 : Int64) (x5 : Int32) (H : Heap) (locs : List Loc) (ls : Array Slot), z_B G ad n0 s h H locs → lv_has ls 8 [(1, .ref (ad o1)), (2, .int x2), (3, .long l3), (5, .int x5)] → ∀ w, fX11_next_b62 o1 x2 l3 x5 h = some w → y_lq (fun q : Int32 × Int64 × Int32 => fX11_next_b24_i o1 h q.1 q.2.1 q.2.2) nn24 vv24 w → W p l e rm_X11_next s m args below meth c H locs 0 0 (MQ below (z_Qi G ad h n0 s.heap.size r0) args s 0 0 (z_A ad n0 s.heap.size)) (F0 m 62 ls []) := by
        intro x2 l3 x5 H locs ls hB hl w hv kw24
        obtain ⟨v1, ev1, hv⟩ := y_nm_e hv
        refine lv_iinc (v := v1) (lv' := [(5, .int v1), (1, .ref (ad o1)), (2, .int x2), (3, .long l3)]) hx hb dX11_next_62 hl (k := 3) rfl (by rw [ev1]; rfl) (by decide) rfl (fun ls hl => ?_)
        refine lv_goto (tgt := 24) hx hb dX11_next_65 (by decide) ?_
        replace hv := Option.some.inj hv
        subst hv
        exact ih24 x2 l3 v1 _ _ _ hB (lv_sub hl [1, 2, 3, 0] rfl) _ kw24 kv24
      have b56 : ∀ (x5 : Int32) (l6 : Int64) (H : Heap) (locs : List Loc) (ls : Array Slot), z_B G ad n0 s h H locs → lv_has ls 8 [(1, .ref (ad o1)), (5, .int x5), (6, .long l6)] → ∀ w, fX11_next_b56 o1 x5 l6 h = some w → y_lq (fun q : Int32 × Int64 × Int32 => fX11_next_b24_i o1 h q.1 q.2.1 q.2.2) nn24 vv24 w → W p l e rm_X11_next s m args below meth c H locs 0 0 (MQ below (z_Qi G ad h n0 s.heap.size r0) args s 0 0 (z_A ad n0 s.heap.size)) (F0 m 56 ls []) := by
        intro x5 l6 H locs ls hB hl w hv kw24
        refine lv_lload hx hb dX11_next_56 (lv_at hl 2 rfl) ?_
        refine lv_lstore_n (lv' := [(3, .long l6), (1, .ref (ad o1)), (5, .int x5), (6, .long l6)]) hx hb dX11_next_58 rfl hl (by decide) rfl (fun ls hl => ?_)
        refine lv_iload hx hb dX11_next_59 (lv_at hl 2 rfl) ?_
        refine lv_istore_n (lv' := [(2, .int x5), (3, .long l6), (1, .ref (ad o1)), (5, .int x5), (6, .long l6)]) hx hb dX11_next_61 rfl hl (by decide) rfl (fun ls hl => ?_)
        exact b62 x5 l6 x5 _ _ _ hB (lv_sub hl [2, 0, 1, 3] rfl) _ hv kw24
      refine lv_iload hx hb dX11_next_24 (lv_at hl 3 rfl) ?_
      refine lv_aload_n hx hb dX11_next_26 rfl (lv_at hl 0 rfl) ?_
      obtain ⟨g2, hv⟩ := y_gd_e hv
      obtain ⟨ob3, eob3, hv⟩ := y_bi_e hv
      refine z_getR hc hB 2 0 g2 eob3 (by decide) (by decide) rfl (z_l2 hc qfX11_109) dX11_next_27 ?_
      obtain ⟨g4, hv⟩ := y_gd_e hv
      refine z_getI hc hB 0 1 g4 (by decide) (by decide) rfl (z_l2 hc qfX11_217) dX11_next_30 ?_
      refine lv_icmp_ge (tgt := 68) hx hb dX11_next_33 (by decide) (fun c5 => ?_) (fun c5 => ?_)
      · replace hv := y_br_t hv c5
        obtain ⟨t6, hq, ew⟩ := y_mp_e hv
        clear hv; subst ew
        replace kw24 : t6 = _ := kw24
        subst kw24
        have hv := hq
        clear hq
        refine lv_iload_n hx hb dX11_next_68 rfl (lv_at hl 1 rfl) ?_
        replace hv := Option.some.inj hv
        subst hv
        rw [← kv24]
        exact z_iret hc hB hr dX11_next_69
      · replace hv := y_br_f hv c5
        refine lv_aload_n hx hb dX11_next_36 rfl (lv_at hl 0 rfl) ?_
        refine lv_iload hx hb dX11_next_37 (lv_at hl 3 rfl) ?_
        obtain ⟨r9, c7, hv⟩ := y_bi_e hv
        refine z_thL hc hB (z_runV hc hB 2 (mm_X2_knownBehind hSK l ad o1 x5 h c7) md_X2_knownBehind qmX11_269 g2 (by decide) rfl rfl rfl ⟨Nat.le_of_ble_eq_true rfl, Nat.le_of_ble_eq_true rfl⟩ rfl hl.1 rfl (Nat.le_of_ble_eq_true rfl) dX11_next_39 ⟨Nat.le_of_ble_eq_true rfl, Nat.le_of_ble_eq_true rfl⟩) (fun H locs hB => ?_)
        refine lv_lstore (lv' := [(6, .long r9), (1, .ref (ad o1)), (2, .int x2), (3, .long l3), (5, .int x5)]) hx hb dX11_next_42 hl (by decide) rfl (fun ls hl => ?_)
        refine lv_iload_n hx hb dX11_next_44 rfl (lv_at hl 2 rfl) ?_
        refine lv_iconst (v := (-1 : Int32)) hx hb dX11_next_45 (by decide) ?_
        refine lv_icmp_eq (tgt := 56) hx hb dX11_next_46 (by decide) (fun c12 => ?_) (fun c12 => ?_)
        · replace hv := y_br_t hv c12
          exact b56 x5 r9 _ _ _ hB (lv_sub hl [1, 4, 0] rfl) _ hv kw24
        · replace hv := y_br_f hv c12
          refine lv_lload hx hb dX11_next_49 (lv_at hl 0 rfl) ?_
          refine lv_lload_n hx hb dX11_next_51 rfl (lv_at hl 3 rfl) ?_
          refine W.lcmp hx hb dX11_next_52 ?_
          refine lv_if_le (tgt := 62) hx hb dX11_next_53 (by decide) (fun c13 => ?_) (fun c13 => ?_)
          · replace hv := y_br_t hv c13
            exact b62 x2 l3 x5 _ _ _ hB (lv_sub hl [1, 2, 3, 4] rfl) _ hv kw24
          · replace hv := y_br_f hv c13
            exact b56 x5 r9 _ _ _ hB (lv_sub hl [1, 4, 0] rfl) _ hv kw24
  rw [← kt] at hv
  refine lv_aload_n hx hb dX11_next_0 rfl (lv_at hl 0 rfl) ?_
  obtain ⟨g14, hv⟩ := y_gd_e hv
  obtain ⟨ob15, eob15, hv⟩ := y_bi_e hv
  refine z_getR hc hB 10 3 g14 eob15 (by decide) (by decide) rfl (z_l1 hc qfX11_36) dX11_next_1 ?_
  obtain ⟨g16, hv⟩ := y_gd_e hv
  obtain ⟨ob17, eob17, hv⟩ := y_bi_e hv
  refine z_getR hc hB 8 0 g16 eob17 (by decide) (by decide) rfl (z_l2 hc qfX11_106) dX11_next_4 ?_
  refine lv_astore_n (lv' := [(1, .ref (ad ob17)), (0, .ref (ad o0))]) hx hb dX11_next_7 rfl hl (by decide) rfl (fun ls hl => ?_)
  refine lv_aload_n hx hb dX11_next_8 rfl (lv_at hl 0 rfl) ?_
  obtain ⟨g23, hv⟩ := y_gd_e hv
  obtain ⟨r19, c18, hv⟩ := y_bi_e hv
  refine z_thI hc hB (z_runV hc hB 2 (mm_X2_isFull hSK l ad ob17 h c18) md_X2_isFull qmX11_146 g23 (by decide) rfl rfl rfl ⟨Nat.le_of_ble_eq_true rfl, Nat.le_of_ble_eq_true rfl⟩ rfl hl.1 rfl (Nat.le_of_ble_eq_true rfl) dX11_next_9 ⟨Nat.le_of_ble_eq_true rfl, Nat.le_of_ble_eq_true rfl⟩) (fun H locs hB => ?_)
  refine lv_if_eq (tgt := 17) hx hb dX11_next_12 (by decide) (fun c24 => ?_) (fun c24 => ?_)
  · replace hv := y_br_t hv c24
    refine lv_iconst (v := (-1 : Int32)) hx hb dX11_next_17 (by decide) ?_
    refine lv_istore_n (lv' := [(2, .int (-1 : Int32)), (1, .ref (ad ob17)), (0, .ref (ad o0))]) hx hb dX11_next_18 rfl hl (by decide) rfl (fun ls hl => ?_)
    refine lv_lconst (v := (0 : Int64)) hx hb dX11_next_19 (by decide) ?_
    refine lv_lstore_n (lv' := [(3, .long (0 : Int64)), (2, .int (-1 : Int32)), (1, .ref (ad ob17)), (0, .ref (ad o0))]) hx hb dX11_next_20 rfl hl (by decide) rfl (fun ls hl => ?_)
    refine lv_iconst (v := (0 : Int32)) hx hb dX11_next_21 (by decide) ?_
    refine lv_istore (lv' := [(5, .int (0 : Int32)), (3, .long (0 : Int64)), (2, .int (-1 : Int32)), (1, .ref (ad ob17)), (0, .ref (ad o0))]) hx hb dX11_next_22 hl (by decide) rfl (fun ls hl => ?_)
    obtain ⟨n, hv⟩ := y_lp_e hv
    exact L24 ob17 n (-1 : Int32) (0 : Int64) (0 : Int32) _ _ _ hB (lv_sub hl [3, 2, 1, 0] rfl) _ hv kt
  · replace hv := y_br_f hv c24
    refine lv_iconst (v := (-1 : Int32)) hx hb dX11_next_15 (by decide) ?_
    replace hv := Option.some.inj hv
    subst hv
    rw [← kt]
    exact z_iret hc hB hr dX11_next_16
theorem dX11_apart_0 : decode cX11_apart 0 = .ok (.aload_n 0, 1) := by decide +kernel
theorem dX11_apart_1 : decode cX11_apart 1 = .ok (.getfield 36, 3) := by decide +kernel
theorem dX11_apart_4 : decode cX11_apart 4 = .ok (.getfield 106, 3) := by decide +kernel
theorem dX11_apart_7 : decode cX11_apart 7 = .ok (.getfield 109, 3) := by decide +kernel
theorem dX11_apart_10 : decode cX11_apart 10 = .ok (.astore_n 3, 1) := by decide +kernel
theorem dX11_apart_11 : decode cX11_apart 11 = .ok (.aload_n 3, 1) := by decide +kernel
theorem dX11_apart_12 : decode cX11_apart 12 = .ok (.iload_n 1, 1) := by decide +kernel
theorem dX11_apart_13 : decode cX11_apart 13 = .ok (.invokevirtual 130, 3) := by decide +kernel
theorem dX11_apart_16 : decode cX11_apart 16 = .ok (.ifCond .eq 11, 3) := by decide +kernel
theorem dX11_apart_19 : decode cX11_apart 19 = .ok (.aload_n 3, 1) := by decide +kernel
theorem dX11_apart_20 : decode cX11_apart 20 = .ok (.iload_n 2, 1) := by decide +kernel
theorem dX11_apart_21 : decode cX11_apart 21 = .ok (.invokevirtual 130, 3) := by decide +kernel
theorem dX11_apart_24 : decode cX11_apart 24 = .ok (.ifCond .ne 5, 3) := by decide +kernel
theorem dX11_apart_27 : decode cX11_apart 27 = .ok (.iconst (-1), 1) := by decide +kernel
theorem dX11_apart_28 : decode cX11_apart 28 = .ok (.ireturn, 1) := by decide +kernel
theorem dX11_apart_29 : decode cX11_apart 29 = .ok (.aload_n 3, 1) := by decide +kernel
theorem dX11_apart_30 : decode cX11_apart 30 = .ok (.iload_n 1, 1) := by decide +kernel
theorem dX11_apart_31 : decode cX11_apart 31 = .ok (.iconst 1, 1) := by decide +kernel
theorem dX11_apart_32 : decode cX11_apart 32 = .ok (.iadd, 1) := by decide +kernel
theorem dX11_apart_33 : decode cX11_apart 33 = .ok (.invokevirtual 139, 3) := by decide +kernel
theorem dX11_apart_36 : decode cX11_apart 36 = .ok (.aload_n 3, 1) := by decide +kernel
theorem dX11_apart_37 : decode cX11_apart 37 = .ok (.iload_n 2, 1) := by decide +kernel
theorem dX11_apart_38 : decode cX11_apart 38 = .ok (.iconst 1, 1) := by decide +kernel
theorem dX11_apart_39 : decode cX11_apart 39 = .ok (.iadd, 1) := by decide +kernel
theorem dX11_apart_40 : decode cX11_apart 40 = .ok (.invokevirtual 139, 3) := by decide +kernel
theorem dX11_apart_43 : decode cX11_apart 43 = .ok (.ixor, 1) := by decide +kernel
theorem dX11_apart_44 : decode cX11_apart 44 = .ok (.invokestatic 197, 3) := by decide +kernel
theorem dX11_apart_47 : decode cX11_apart 47 = .ok (.ireturn, 1) := by decide +kernel
abbrev rm_X11_apart : Room := { frames := 1, cells := 0, slots := 0, locals := 21 }
noncomputable def fX11_apart (o0 : Nat) (x1 : Int32) (x2 : Int32) (h : z_T) : Option (Int32) :=
  y_gd (z_ok h o0 10) <|
  y_bi (z_R h o0 3) fun ob2 =>
  y_gd (z_ok h ob2 8) <|
  y_bi (z_R h ob2 0) fun ob4 =>
  y_gd (z_ok h ob4 2) <|
  y_bi (z_R h ob4 0) fun ob6 =>
  y_gd (z_ok h ob6 0) <|
  y_bi (fX0_hasDream ob6 x1 h) fun r8 =>
  y_br (r8 = 0)
    (some (-1 : Int32))
    (y_bi (fX0_hasDream ob6 x2 h) fun r15 =>
    y_br (r15 = 0)
      (some (-1 : Int32))
      (y_bi (fX0_keptIn ob6 (x1 + (1 : Int32)) h) fun r21 =>
      y_bi (fX0_keptIn ob6 (x2 + (1 : Int32)) h) fun r26 =>
      y_bi (fJ6_bitCount_0f7a4 (r21 ^^^ r26)) fun r31 =>
      some r31))
set_option maxHeartbeats 4000000 in
set_option maxRecDepth 100000 in
theorem mm_X11_apart {G : z_Gt} (hSK : z_SK (z_S G)) (l : Launch) (ad : Nat → Nat) (o0 : Nat) (x1 : Int32) (x2 : Int32) (h : z_T) {r0 : Int32} (hv : fX11_apart o0 x1 x2 h = some r0) : z_Mi G (z_S G) l yX11_apart cX11_apart 4 (.int) rm_X11_apart 0 0 [.ref (ad o0), .int x1, .int x2] ad h h r0 := by
  refine z_ofW hSK (by decide) (Nat.le_of_ble_eq_true rfl) ?_
  intro p e s m args below meth c ls hc hr hnm hB hl
  have hx := hc.1.1
  have hb := hc.1.2.1
  have hown := hc.1.2.2.2.1
  have hts := hc.1.2.2.2.2
  replace hc : z_C G (z_S G) ad (z_n h) p m c cX11_apart 4 s args RX11 meth := hc
  replace hown : s.vm.findClass RX11 = some m.cls := hown
  replace hl : lv_has ls 4 [(0, .ref (ad o0)), (1, .int x1), (2, .int x2)] := hl
  show W p l e rm_X11_apart s m args below meth c s.heap [] 0 0 (MQ below (z_Qi G ad h (z_n h) s.heap.size r0) args s 0 0 (z_A ad (z_n h) s.heap.size)) (F0 m 0 ls [])
  obtain ⟨rs, kt⟩ : ∃ rs : Int32, rs = r0 := ⟨_, rfl⟩
  generalize hn0 : z_n h = n0 at hc hB ⊢
  rw [← kt] at hv
  refine lv_aload_n hx hb dX11_apart_0 rfl (lv_at hl 0 rfl) ?_
  obtain ⟨g1, hv⟩ := y_gd_e hv
  obtain ⟨ob2, eob2, hv⟩ := y_bi_e hv
  refine z_getR hc hB 10 3 g1 eob2 (by decide) (by decide) rfl (z_l1 hc qfX11_36) dX11_apart_1 ?_
  obtain ⟨g3, hv⟩ := y_gd_e hv
  obtain ⟨ob4, eob4, hv⟩ := y_bi_e hv
  refine z_getR hc hB 8 0 g3 eob4 (by decide) (by decide) rfl (z_l2 hc qfX11_106) dX11_apart_4 ?_
  obtain ⟨g5, hv⟩ := y_gd_e hv
  obtain ⟨ob6, eob6, hv⟩ := y_bi_e hv
  refine z_getR hc hB 2 0 g5 eob6 (by decide) (by decide) rfl (z_l2 hc qfX11_109) dX11_apart_7 ?_
  refine lv_astore_n (lv' := [(3, .ref (ad ob6)), (0, .ref (ad o0)), (1, .int x1), (2, .int x2)]) hx hb dX11_apart_10 rfl hl (by decide) rfl (fun ls hl => ?_)
  refine lv_aload_n hx hb dX11_apart_11 rfl (lv_at hl 0 rfl) ?_
  refine lv_iload_n hx hb dX11_apart_12 rfl (lv_at hl 2 rfl) ?_
  obtain ⟨g12, hv⟩ := y_gd_e hv
  obtain ⟨r8, c7, hv⟩ := y_bi_e hv
  refine z_thI hc hB (z_runV hc hB 0 (mm_X0_hasDream hSK l ad ob6 x1 h c7) md_X0_hasDream qmX11_130 g12 (by decide) rfl rfl rfl ⟨Nat.le_of_ble_eq_true rfl, Nat.le_of_ble_eq_true rfl⟩ rfl hl.1 rfl (Nat.le_of_ble_eq_true rfl) dX11_apart_13 ⟨Nat.le_of_ble_eq_true rfl, Nat.le_of_ble_eq_true rfl⟩) (fun H locs hB => ?_)
  refine lv_if_eq (tgt := 27) hx hb dX11_apart_16 (by decide) (fun c13 => ?_) (fun c13 => ?_)
  · replace hv := y_br_t hv c13
    refine lv_iconst (v := (-1 : Int32)) hx hb dX11_apart_27 (by decide) ?_
    replace hv := Option.some.inj hv
    subst hv
    rw [← kt]
    exact z_iret hc hB hr dX11_apart_28
  · replace hv := y_br_f hv c13
    refine lv_aload_n hx hb dX11_apart_19 rfl (lv_at hl 0 rfl) ?_
    refine lv_iload_n hx hb dX11_apart_20 rfl (lv_at hl 3 rfl) ?_
    obtain ⟨r15, c14, hv⟩ := y_bi_e hv
    refine z_thI hc hB (z_runV hc hB 0 (mm_X0_hasDream hSK l ad ob6 x2 h c14) md_X0_hasDream qmX11_130 g12 (by decide) rfl rfl rfl ⟨Nat.le_of_ble_eq_true rfl, Nat.le_of_ble_eq_true rfl⟩ rfl hl.1 rfl (Nat.le_of_ble_eq_true rfl) dX11_apart_21 ⟨Nat.le_of_ble_eq_true rfl, Nat.le_of_ble_eq_true rfl⟩) (fun H locs hB => ?_)
    refine lv_if_ne (tgt := 29) hx hb dX11_apart_24 (by decide) (fun c19 => ?_) (fun c19 => ?_)
    · replace hv := y_br_f hv c19
      refine lv_aload_n hx hb dX11_apart_29 rfl (lv_at hl 0 rfl) ?_
      refine lv_iload_n hx hb dX11_apart_30 rfl (lv_at hl 2 rfl) ?_
      refine lv_iconst (v := (1 : Int32)) hx hb dX11_apart_31 (by decide) ?_
      refine lv_iadd hx hb dX11_apart_32 ?_
      obtain ⟨r21, c20, hv⟩ := y_bi_e hv
      refine z_thI hc hB (z_runV hc hB 0 (mm_X0_keptIn hSK l ad ob6 (x1 + (1 : Int32)) h c20) md_X0_keptIn qmX11_139 g12 (by decide) rfl rfl rfl ⟨Nat.le_of_ble_eq_true rfl, Nat.le_of_ble_eq_true rfl⟩ rfl hl.1 rfl (Nat.le_of_ble_eq_true rfl) dX11_apart_33 ⟨Nat.le_of_ble_eq_true rfl, Nat.le_of_ble_eq_true rfl⟩) (fun H locs hB => ?_)
      refine lv_aload_n hx hb dX11_apart_36 rfl (lv_at hl 0 rfl) ?_
      refine lv_iload_n hx hb dX11_apart_37 rfl (lv_at hl 3 rfl) ?_
      refine lv_iconst (v := (1 : Int32)) hx hb dX11_apart_38 (by decide) ?_
      refine lv_iadd hx hb dX11_apart_39 ?_
      obtain ⟨r26, c25, hv⟩ := y_bi_e hv
      refine z_thI hc hB (z_runV hc hB 0 (mm_X0_keptIn hSK l ad ob6 (x2 + (1 : Int32)) h c25) md_X0_keptIn qmX11_139 g12 (by decide) rfl rfl rfl ⟨Nat.le_of_ble_eq_true rfl, Nat.le_of_ble_eq_true rfl⟩ rfl hl.1 rfl (Nat.le_of_ble_eq_true rfl) dX11_apart_40 ⟨Nat.le_of_ble_eq_true rfl, Nat.le_of_ble_eq_true rfl⟩) (fun H locs hB => ?_)
      refine lv_ixor hx hb dX11_apart_43 ?_
      obtain ⟨r31, c30, hv⟩ := y_bi_e hv
      refine z_thI hc hB (z_runS hc hB (mm_J6_bitCount_0f7a4 hSK l ad (r21 ^^^ r26) h c30) md_J6_bitCount_0f7a4 qmX11_197 rfl rfl ⟨Nat.le_of_ble_eq_true rfl, Nat.le_of_ble_eq_true rfl⟩ rfl hl.1 rfl (Nat.le_of_ble_eq_true rfl) dX11_apart_44 ⟨Nat.le_of_ble_eq_true rfl, Nat.le_of_ble_eq_true rfl⟩) (fun H locs hB => ?_)
      replace hv := Option.some.inj hv
      subst hv
      rw [← kt]
      exact z_iret hc hB hr dX11_apart_47
    · replace hv := y_br_t hv c19
      refine lv_iconst (v := (-1 : Int32)) hx hb dX11_apart_27 (by decide) ?_
      replace hv := Option.some.inj hv
      subst hv
      rw [← kt]
      exact z_iret hc hB hr dX11_apart_28
theorem qfX11_68 : Cond.fieldLink RX11 68 "DreamTests" "told" "LDreamTests$Nights;" ∈ z_ws := List.mem_filter.mpr ⟨List.mem_append_right _ (List.mem_of_getElem? (i := 295) (by decide +kernel)), rfl⟩
theorem qmX11_276 : Cond.methodLink RX11 276 yX3_readLines ∈ z_ws := List.mem_filter.mpr ⟨List.mem_append_right _ (List.mem_of_getElem? (i := 847) (by decide +kernel)), rfl⟩
theorem qc_X3_readLines : Cond.code yX3_readLines cX3_readLines 4 (some .boolean) ∈ z_ws := List.mem_filter.mpr ⟨List.mem_append_right _ (List.mem_of_getElem? (i := 850) (by decide +kernel)), rfl⟩
theorem qi_X3_readLines : Cond.instanceMethod yX3_readLines ∈ z_ws := List.mem_filter.mpr ⟨List.mem_append_right _ (List.mem_of_getElem? (i := 848) (by decide +kernel)), rfl⟩
theorem qs_X3_readLines : Cond.selects RX3 yX3_readLines yX3_readLines ∈ z_ws := List.mem_filter.mpr ⟨List.mem_append_right _ (List.mem_of_getElem? (i := 849) (by decide +kernel)), rfl⟩
theorem md_X3_readLines : z_mdV yX3_readLines cX3_readLines 4 (some .boolean) 2 := ⟨⟨qn_RX3, qc_X3_readLines, ⟨by decide +kernel, by decide +kernel, by decide +kernel⟩⟩, qi_X3_readLines, qs_X3_readLines⟩
theorem qfX11_54 : Cond.fieldLink RX11 54 "DreamTests" "other" "LDreamTests$Night;" ∈ z_ws := List.mem_filter.mpr ⟨List.mem_append_right _ (List.mem_of_getElem? (i := 293) (by decide +kernel)), rfl⟩
theorem qmX11_278 : Cond.methodLink RX11 278 yX3_judge ∈ z_ws := List.mem_filter.mpr ⟨List.mem_append_right _ (List.mem_of_getElem? (i := 891) (by decide +kernel)), rfl⟩
theorem qc_X3_judge : Cond.code yX3_judge cX3_judge 3 (some .int) ∈ z_ws := List.mem_filter.mpr ⟨List.mem_append_right _ (List.mem_of_getElem? (i := 894) (by decide +kernel)), rfl⟩
theorem qi_X3_judge : Cond.instanceMethod yX3_judge ∈ z_ws := List.mem_filter.mpr ⟨List.mem_append_right _ (List.mem_of_getElem? (i := 892) (by decide +kernel)), rfl⟩
theorem qs_X3_judge : Cond.selects RX3 yX3_judge yX3_judge ∈ z_ws := List.mem_filter.mpr ⟨List.mem_append_right _ (List.mem_of_getElem? (i := 893) (by decide +kernel)), rfl⟩
theorem md_X3_judge : z_mdV yX3_judge cX3_judge 3 (some .int) 1 := ⟨⟨qn_RX3, qc_X3_judge, ⟨by decide +kernel, by decide +kernel, by decide +kernel⟩⟩, qi_X3_judge, qs_X3_judge⟩
theorem dX11_nights_0 : decode cX11_nights 0 = .ok (.aload_n 0, 1) := by decide +kernel
theorem dX11_nights_1 : decode cX11_nights 1 = .ok (.getfield 27, 3) := by decide +kernel
theorem dX11_nights_4 : decode cX11_nights 4 = .ok (.sipush 400, 3) := by decide +kernel
theorem dX11_nights_7 : decode cX11_nights 7 = .ok (.invokevirtual 84, 3) := by decide +kernel
theorem dX11_nights_10 : decode cX11_nights 10 = .ok (.aload_n 0, 1) := by decide +kernel
theorem dX11_nights_11 : decode cX11_nights 11 = .ok (.getfield 68, 3) := by decide +kernel
theorem dX11_nights_14 : decode cX11_nights 14 = .ok (.aload_n 0, 1) := by decide +kernel
theorem dX11_nights_15 : decode cX11_nights 15 = .ok (.getfield 27, 3) := by decide +kernel
theorem dX11_nights_18 : decode cX11_nights 18 = .ok (.aload_n 0, 1) := by decide +kernel
theorem dX11_nights_19 : decode cX11_nights 19 = .ok (.getfield 36, 3) := by decide +kernel
theorem dX11_nights_22 : decode cX11_nights 22 = .ok (.getfield 106, 3) := by decide +kernel
theorem dX11_nights_25 : decode cX11_nights 25 = .ok (.getfield 109, 3) := by decide +kernel
theorem dX11_nights_28 : decode cX11_nights 28 = .ok (.invokevirtual 276, 3) := by decide +kernel
theorem dX11_nights_31 : decode cX11_nights 31 = .ok (.istore_n 1, 1) := by decide +kernel
theorem dX11_nights_32 : decode cX11_nights 32 = .ok (.aload_n 0, 1) := by decide +kernel
theorem dX11_nights_33 : decode cX11_nights 33 = .ok (.getfield 15, 3) := by decide +kernel
theorem dX11_nights_36 : decode cX11_nights 36 = .ok (.iconst 0, 1) := by decide +kernel
theorem dX11_nights_37 : decode cX11_nights 37 = .ok (.putfield 80, 3) := by decide +kernel
theorem dX11_nights_40 : decode cX11_nights 40 = .ok (.iload_n 1, 1) := by decide +kernel
theorem dX11_nights_41 : decode cX11_nights 41 = .ok (.ifCond .ne 14, 3) := by decide +kernel
theorem dX11_nights_44 : decode cX11_nights 44 = .ok (.bipush (-2), 2) := by decide +kernel
theorem dX11_nights_46 : decode cX11_nights 46 = .ok (.aload_n 0, 1) := by decide +kernel
theorem dX11_nights_47 : decode cX11_nights 47 = .ok (.getfield 27, 3) := by decide +kernel
theorem dX11_nights_50 : decode cX11_nights 50 = .ok (.getfield 91, 3) := by decide +kernel
theorem dX11_nights_53 : decode cX11_nights 53 = .ok (.isub, 1) := by decide +kernel
theorem dX11_nights_54 : decode cX11_nights 54 = .ok (.ireturn, 1) := by decide +kernel
theorem dX11_nights_55 : decode cX11_nights 55 = .ok (.aload_n 0, 1) := by decide +kernel
theorem dX11_nights_56 : decode cX11_nights 56 = .ok (.getfield 54, 3) := by decide +kernel
theorem dX11_nights_59 : decode cX11_nights 59 = .ok (.aload_n 0, 1) := by decide +kernel
theorem dX11_nights_60 : decode cX11_nights 60 = .ok (.getfield 36, 3) := by decide +kernel
theorem dX11_nights_63 : decode cX11_nights 63 = .ok (.getfield 106, 3) := by decide +kernel
theorem dX11_nights_66 : decode cX11_nights 66 = .ok (.getfield 109, 3) := by decide +kernel
theorem dX11_nights_69 : decode cX11_nights 69 = .ok (.invokevirtual 165, 3) := by decide +kernel
theorem dX11_nights_72 : decode cX11_nights 72 = .ok (.aload_n 0, 1) := by decide +kernel
theorem dX11_nights_73 : decode cX11_nights 73 = .ok (.getfield 68, 3) := by decide +kernel
theorem dX11_nights_76 : decode cX11_nights 76 = .ok (.aload_n 0, 1) := by decide +kernel
theorem dX11_nights_77 : decode cX11_nights 77 = .ok (.getfield 54, 3) := by decide +kernel
theorem dX11_nights_80 : decode cX11_nights 80 = .ok (.invokevirtual 278, 3) := by decide +kernel
theorem dX11_nights_83 : decode cX11_nights 83 = .ok (.ireturn, 1) := by decide +kernel
abbrev rm_X11_nights : Room := { frames := 7, cells := 0, slots := 0, locals := 160 }
noncomputable def fX11_nights (o0 : Nat) (h : z_T) : Option (Int32 × z_T) :=
  y_gd (z_ok h o0 10) <|
  y_bi (z_R h o0 2) fun o2 =>
  y_gd (z_ok h o2 6) <|
  y_bi (fX6_open o2 (400 : Int32) h) fun h4 =>
  y_gd (z_ok h4 o0 10) <|
  y_bi (z_R h4 o0 8) fun o7 =>
  y_bi (z_R h4 o0 2) fun o8 =>
  y_bi (z_R h4 o0 3) fun o9 =>
  y_gd (z_ok h4 o9 8) <|
  y_bi (z_R h4 o9 0) fun o11 =>
  y_gd (z_ok h4 o11 2) <|
  y_bi (z_R h4 o11 0) fun o13 =>
  y_gd (z_ok h4 o7 3) <|
  y_bi (fX3_readLines o7 o8 o13 h4) fun ⟨r15, h19⟩ =>
  y_gd (z_ok h19 o0 10) <|
  y_bi (z_R h19 o0 0) fun o22 =>
  y_gd (z_ok h19 o22 1) <|
  y_nm (z_sI h19 o22 1 (0 : Int32)) fun h24 =>
  y_br (r15 = 0)
    (y_bi (z_R h24 o0 2) fun o45 =>
    y_gd (z_ok h24 o45 6) <|
    some (((-2 : Int32) - (z_I h24 o45 3)), h24))
    (y_bi (z_R h24 o0 6) fun o26 =>
    y_bi (z_R h24 o0 3) fun o27 =>
    y_gd (z_ok h24 o27 8) <|
    y_bi (z_R h24 o27 0) fun o29 =>
    y_gd (z_ok h24 o29 2) <|
    y_bi (z_R h24 o29 0) fun o31 =>
    y_gd (z_ok h24 o26 2) <|
    y_bi (fX2_begin o26 o31 h24) fun h33 =>
    y_gd (z_ok h33 o0 10) <|
    y_bi (z_R h33 o0 8) fun o36 =>
    y_bi (z_R h33 o0 6) fun o37 =>
    y_gd (z_ok h33 o36 3) <|
    y_bi (fX3_judge o36 o37 h33) fun ⟨r39, h43⟩ =>
    some (r39, h43))
set_option maxHeartbeats 4000000 in
set_option maxRecDepth 100000 in
theorem mm_X11_nights {G : z_Gt} (hSK : z_SK (z_S G)) (l : Launch) (ad : Nat → Nat) (o0 : Nat) (h : z_T) {r0 : Int32} {h9 : z_T} (hv : fX11_nights o0 h = some (r0, h9)) : z_Mi G (z_S G) l yX11_nights cX11_nights 2 (.int) rm_X11_nights 0 0 [.ref (ad o0)] ad h h9 r0 := by
  refine z_ofW hSK (by decide) (Nat.le_of_ble_eq_true rfl) ?_
  intro p e s m args below meth c ls hc hr hnm hB hl
  have hx := hc.1.1
  have hb := hc.1.2.1
  have hown := hc.1.2.2.2.1
  have hts := hc.1.2.2.2.2
  replace hc : z_C G (z_S G) ad (z_n h) p m c cX11_nights 2 s args RX11 meth := hc
  replace hown : s.vm.findClass RX11 = some m.cls := hown
  replace hl : lv_has ls 2 [(0, .ref (ad o0))] := hl
  show W p l e rm_X11_nights s m args below meth c s.heap [] 0 0 (MQ below (z_Qi G ad h9 (z_n h) s.heap.size r0) args s 0 0 (z_A ad (z_n h) s.heap.size)) (F0 m 0 ls [])
  obtain ⟨rs, kt⟩ : ∃ rs : Int32 × z_T, rs = (r0, h9) := ⟨_, rfl⟩
  generalize hn0 : z_n h = n0 at hc hB ⊢
  rw [← kt] at hv
  refine lv_aload_n hx hb dX11_nights_0 rfl (lv_at hl 0 rfl) ?_
  obtain ⟨g1, hv⟩ := y_gd_e hv
  obtain ⟨o2, eo2, hv⟩ := y_bi_e hv
  refine z_getR hc hB 10 2 g1 eo2 (by decide) (by decide) rfl (z_l1 hc qfX11_27) dX11_nights_1 ?_
  refine lv_sipush (v := (400 : Int32)) hx hb dX11_nights_4 (by decide) ?_
  obtain ⟨g5, hv⟩ := y_gd_e hv
  obtain ⟨h4, c3, hv⟩ := y_bi_e hv
  refine z_thV hc hB (z_runV hc hB 6 (mm_X6_open hSK l ad o2 (400 : Int32) h c3) md_X6_open qmX11_84 g5 (by decide) rfl rfl rfl ⟨Nat.le_of_ble_eq_true rfl, Nat.le_of_ble_eq_true rfl⟩ rfl hl.1 rfl (Nat.le_of_ble_eq_true rfl) dX11_nights_7 ⟨Nat.le_of_ble_eq_true rfl, Nat.le_of_ble_eq_true rfl⟩) (fun H locs hB => ?_)
  refine lv_aload_n hx hb dX11_nights_10 rfl (lv_at hl 0 rfl) ?_
  obtain ⟨g6, hv⟩ := y_gd_e hv
  obtain ⟨o7, eo7, hv⟩ := y_bi_e hv
  refine z_getR hc hB 10 8 g6 eo7 (by decide) (by decide) rfl (z_l1 hc qfX11_68) dX11_nights_11 ?_
  refine lv_aload_n hx hb dX11_nights_14 rfl (lv_at hl 0 rfl) ?_
  obtain ⟨o8, eo8, hv⟩ := y_bi_e hv
  refine z_getR hc hB 10 2 g6 eo8 (by decide) (by decide) rfl (z_l1 hc qfX11_27) dX11_nights_15 ?_
  refine lv_aload_n hx hb dX11_nights_18 rfl (lv_at hl 0 rfl) ?_
  obtain ⟨o9, eo9, hv⟩ := y_bi_e hv
  refine z_getR hc hB 10 3 g6 eo9 (by decide) (by decide) rfl (z_l1 hc qfX11_36) dX11_nights_19 ?_
  obtain ⟨g10, hv⟩ := y_gd_e hv
  obtain ⟨o11, eo11, hv⟩ := y_bi_e hv
  refine z_getR hc hB 8 0 g10 eo11 (by decide) (by decide) rfl (z_l2 hc qfX11_106) dX11_nights_22 ?_
  obtain ⟨g12, hv⟩ := y_gd_e hv
  obtain ⟨o13, eo13, hv⟩ := y_bi_e hv
  refine z_getR hc hB 2 0 g12 eo13 (by decide) (by decide) rfl (z_l2 hc qfX11_109) dX11_nights_25 ?_
  obtain ⟨g20, hv⟩ := y_gd_e hv
  obtain ⟨⟨r15, h19⟩, c14, hv⟩ := y_bi_e hv
  refine z_thI hc hB (z_runV hc hB 3 (mm_X3_readLines hSK l ad o7 o8 o13 h4 c14) md_X3_readLines qmX11_276 g20 (by decide) rfl rfl rfl ⟨Nat.le_of_ble_eq_true rfl, Nat.le_of_ble_eq_true rfl⟩ rfl hl.1 rfl (Nat.le_of_ble_eq_true rfl) dX11_nights_28 ⟨Nat.le_of_ble_eq_true rfl, Nat.le_of_ble_eq_true rfl⟩) (fun H locs hB => ?_)
  refine lv_istore_n (lv' := [(1, .int r15), (0, .ref (ad o0))]) hx hb dX11_nights_31 rfl hl (by decide) rfl (fun ls hl => ?_)
  refine lv_aload_n hx hb dX11_nights_32 rfl (lv_at hl 1 rfl) ?_
  obtain ⟨g21, hv⟩ := y_gd_e hv
  obtain ⟨o22, eo22, hv⟩ := y_bi_e hv
  refine z_getR hc hB 10 0 g21 eo22 (by decide) (by decide) rfl (z_l1 hc qfX11_15) dX11_nights_33 ?_
  refine lv_iconst (v := (0 : Int32)) hx hb dX11_nights_36 (by decide) ?_
  obtain ⟨g23, hv⟩ := y_gd_e hv
  obtain ⟨h24, eh24, hv⟩ := y_nm_e hv
  refine y_putI hc hB 1 1 eh24 g23 (z_l2 hc qfX11_80) dX11_nights_37 (by decide) (by decide) rfl rfl rfl rfl (fun H locs hB => ?_)
  refine lv_iload_n hx hb dX11_nights_40 rfl (lv_at hl 0 rfl) ?_
  refine lv_if_ne (tgt := 55) hx hb dX11_nights_41 (by decide) (fun c25 => ?_) (fun c25 => ?_)
  · replace hv := y_br_f hv c25
    refine lv_aload_n hx hb dX11_nights_55 rfl (lv_at hl 1 rfl) ?_
    obtain ⟨o26, eo26, hv⟩ := y_bi_e hv
    refine z_getR hc hB 10 6 (by rw [eh24]; exact g21) eo26 (by decide) (by decide) rfl (z_l1 hc qfX11_54) dX11_nights_56 ?_
    refine lv_aload_n hx hb dX11_nights_59 rfl (lv_at hl 1 rfl) ?_
    obtain ⟨o27, eo27, hv⟩ := y_bi_e hv
    refine z_getR hc hB 10 3 (by rw [eh24]; exact g21) eo27 (by decide) (by decide) rfl (z_l1 hc qfX11_36) dX11_nights_60 ?_
    obtain ⟨g28, hv⟩ := y_gd_e hv
    obtain ⟨o29, eo29, hv⟩ := y_bi_e hv
    refine z_getR hc hB 8 0 g28 eo29 (by decide) (by decide) rfl (z_l2 hc qfX11_106) dX11_nights_63 ?_
    obtain ⟨g30, hv⟩ := y_gd_e hv
    obtain ⟨o31, eo31, hv⟩ := y_bi_e hv
    refine z_getR hc hB 2 0 g30 eo31 (by decide) (by decide) rfl (z_l2 hc qfX11_109) dX11_nights_66 ?_
    obtain ⟨g34, hv⟩ := y_gd_e hv
    obtain ⟨h33, c32, hv⟩ := y_bi_e hv
    refine z_thV hc hB (z_runV hc hB 2 (mm_X2_begin hSK l ad o26 o31 h24 c32) md_X2_begin qmX11_165 g34 (by decide) rfl rfl rfl ⟨Nat.le_of_ble_eq_true rfl, Nat.le_of_ble_eq_true rfl⟩ rfl hl.1 rfl (Nat.le_of_ble_eq_true rfl) dX11_nights_69 ⟨Nat.le_of_ble_eq_true rfl, Nat.le_of_ble_eq_true rfl⟩) (fun H locs hB => ?_)
    refine lv_aload_n hx hb dX11_nights_72 rfl (lv_at hl 1 rfl) ?_
    obtain ⟨g35, hv⟩ := y_gd_e hv
    obtain ⟨o36, eo36, hv⟩ := y_bi_e hv
    refine z_getR hc hB 10 8 g35 eo36 (by decide) (by decide) rfl (z_l1 hc qfX11_68) dX11_nights_73 ?_
    refine lv_aload_n hx hb dX11_nights_76 rfl (lv_at hl 1 rfl) ?_
    obtain ⟨o37, eo37, hv⟩ := y_bi_e hv
    refine z_getR hc hB 10 6 g35 eo37 (by decide) (by decide) rfl (z_l1 hc qfX11_54) dX11_nights_77 ?_
    obtain ⟨g44, hv⟩ := y_gd_e hv
    obtain ⟨⟨r39, h43⟩, c38, hv⟩ := y_bi_e hv
    refine z_thI hc hB (z_runV hc hB 3 (mm_X3_judge hSK l ad o36 o37 h33 c38) md_X3_judge qmX11_278 g44 (by decide) rfl rfl rfl ⟨Nat.le_of_ble_eq_true rfl, Nat.le_of_ble_eq_true rfl⟩ rfl hl.1 rfl (Nat.le_of_ble_eq_true rfl) dX11_nights_80 ⟨Nat.le_of_ble_eq_true rfl, Nat.le_of_ble_eq_true rfl⟩) (fun H locs hB => ?_)
    replace hv := Option.some.inj hv
    subst hv
    obtain ⟨e1, e2⟩ := y_pr kt
    rw [← e1, ← e2]
    exact z_iret hc hB hr dX11_nights_83
  · replace hv := y_br_t hv c25
    refine lv_bipush (v := (-2 : Int32)) hx hb dX11_nights_44 (by decide) ?_
    refine lv_aload_n hx hb dX11_nights_46 rfl (lv_at hl 1 rfl) ?_
    obtain ⟨o45, eo45, hv⟩ := y_bi_e hv
    refine z_getR hc hB 10 2 (by rw [eh24]; exact g21) eo45 (by decide) (by decide) rfl (z_l1 hc qfX11_27) dX11_nights_47 ?_
    obtain ⟨g46, hv⟩ := y_gd_e hv
    refine z_getI hc hB 6 3 g46 (by decide) (by decide) rfl (z_l2 hc qfX11_91) dX11_nights_50 ?_
    refine lv_isub hx hb dX11_nights_53 ?_
    replace hv := Option.some.inj hv
    subst hv
    obtain ⟨e1, e2⟩ := y_pr kt
    rw [← e1, ← e2]
    exact z_iret hc hB hr dX11_nights_54
theorem qfX11_281 : Cond.fieldLinkNest RX11 281 "DreamTests$Nights" "why" "I" "DreamTests" ∈ z_nw := List.mem_filter.mpr ⟨List.mem_of_getElem? (i := 265) (by decide +kernel), rfl⟩
theorem qfX11_284 : Cond.fieldLinkNest RX11 284 "DreamTests$Nights" "began" "I" "DreamTests" ∈ z_nw := List.mem_filter.mpr ⟨List.mem_of_getElem? (i := 267) (by decide +kernel), rfl⟩
theorem qfX11_287 : Cond.fieldLinkNest RX11 287 "DreamTests$Nights" "answers" "I" "DreamTests" ∈ z_nw := List.mem_filter.mpr ⟨List.mem_of_getElem? (i := 269) (by decide +kernel), rfl⟩
theorem dX11_judged_0 : decode cX11_judged 0 = .ok (.iload_n 1, 1) := by decide +kernel
theorem dX11_judged_1 : decode cX11_judged 1 = .ok (.tableswitch 51 0 2 #[27, 35, 43], 27) := by decide +kernel
theorem dX11_judged_28 : decode cX11_judged 28 = .ok (.aload_n 0, 1) := by decide +kernel
theorem dX11_judged_29 : decode cX11_judged 29 = .ok (.getfield 68, 3) := by decide +kernel
theorem dX11_judged_32 : decode cX11_judged 32 = .ok (.getfield 281, 3) := by decide +kernel
theorem dX11_judged_35 : decode cX11_judged 35 = .ok (.ireturn, 1) := by decide +kernel
theorem dX11_judged_36 : decode cX11_judged 36 = .ok (.aload_n 0, 1) := by decide +kernel
theorem dX11_judged_37 : decode cX11_judged 37 = .ok (.getfield 68, 3) := by decide +kernel
theorem dX11_judged_40 : decode cX11_judged 40 = .ok (.getfield 284, 3) := by decide +kernel
theorem dX11_judged_43 : decode cX11_judged 43 = .ok (.ireturn, 1) := by decide +kernel
theorem dX11_judged_44 : decode cX11_judged 44 = .ok (.aload_n 0, 1) := by decide +kernel
theorem dX11_judged_45 : decode cX11_judged 45 = .ok (.getfield 68, 3) := by decide +kernel
theorem dX11_judged_48 : decode cX11_judged 48 = .ok (.getfield 287, 3) := by decide +kernel
theorem dX11_judged_51 : decode cX11_judged 51 = .ok (.ireturn, 1) := by decide +kernel
theorem dX11_judged_52 : decode cX11_judged 52 = .ok (.iconst (-1), 1) := by decide +kernel
theorem dX11_judged_53 : decode cX11_judged 53 = .ok (.ireturn, 1) := by decide +kernel
abbrev rm_X11_judged : Room := { frames := 0, cells := 0, slots := 0, locals := 0 }
noncomputable def fX11_judged (o0 : Nat) (x1 : Int32) (h : z_T) : Option (Int32) :=
  y_br (x1 = 0)
    (y_gd (z_ok h o0 10) <|
    y_bi (z_R h o0 8) fun o3 =>
    y_gd (z_ok h o3 3) <|
    some (z_I h o3 5))
    (y_br (x1 = 1)
      (y_gd (z_ok h o0 10) <|
      y_bi (z_R h o0 8) fun o7 =>
      y_gd (z_ok h o7 3) <|
      some (z_I h o7 6))
      (y_br (x1 = 2)
        (y_gd (z_ok h o0 10) <|
        y_bi (z_R h o0 8) fun o11 =>
        y_gd (z_ok h o11 3) <|
        some (z_I h o11 7))
        (some (-1 : Int32))))
set_option maxHeartbeats 4000000 in
set_option maxRecDepth 100000 in
theorem mm_X11_judged {G : z_Gt} (hSK : z_SK (z_S G)) (l : Launch) (ad : Nat → Nat) (o0 : Nat) (x1 : Int32) (h : z_T) {r0 : Int32} (hv : fX11_judged o0 x1 h = some r0) : z_Mi G (z_S G) l yX11_judged cX11_judged 2 (.int) rm_X11_judged 0 0 [.ref (ad o0), .int x1] ad h h r0 := by
  refine z_ofW hSK (by decide) (Nat.le_of_ble_eq_true rfl) ?_
  intro p e s m args below meth c ls hc hr hnm hB hl
  have hx := hc.1.1
  have hb := hc.1.2.1
  have hown := hc.1.2.2.2.1
  have hts := hc.1.2.2.2.2
  replace hc : z_C G (z_S G) ad (z_n h) p m c cX11_judged 2 s args RX11 meth := hc
  replace hown : s.vm.findClass RX11 = some m.cls := hown
  replace hl : lv_has ls 2 [(0, .ref (ad o0)), (1, .int x1)] := hl
  show W p l e rm_X11_judged s m args below meth c s.heap [] 0 0 (MQ below (z_Qi G ad h (z_n h) s.heap.size r0) args s 0 0 (z_A ad (z_n h) s.heap.size)) (F0 m 0 ls [])
  obtain ⟨rs, kt⟩ : ∃ rs : Int32, rs = r0 := ⟨_, rfl⟩
  generalize hn0 : z_n h = n0 at hc hB ⊢
  rw [← kt] at hv
  refine lv_iload_n hx hb dX11_judged_0 rfl (lv_at hl 1 rfl) ?_
  by_cases c1 : x1 = 0
  · replace hv := y_br_t hv c1
    refine lv_tableIn (off := 27) (tgt := 28) hx hb dX11_judged_1 (by rw [c1]; decide) (by rw [c1]; decide) (by rw [c1]; rfl) (by decide) ?_
    refine lv_aload_n hx hb dX11_judged_28 rfl (lv_at hl 0 rfl) ?_
    obtain ⟨g2, hv⟩ := y_gd_e hv
    obtain ⟨o3, eo3, hv⟩ := y_bi_e hv
    refine z_getR hc hB 10 8 g2 eo3 (by decide) (by decide) rfl (z_l1 hc qfX11_68) dX11_judged_29 ?_
    obtain ⟨g4, hv⟩ := y_gd_e hv
    refine z_getI hc hB 3 5 g4 (by decide) (by decide) rfl (z_l2 hc qfX11_281) dX11_judged_32 ?_
    replace hv := Option.some.inj hv
    subst hv
    rw [← kt]
    exact z_iret hc hB hr dX11_judged_35
  · replace hv := y_br_f hv c1
    by_cases c5 : x1 = 1
    · replace hv := y_br_t hv c5
      refine lv_tableIn (off := 35) (tgt := 36) hx hb dX11_judged_1 (by rw [c5]; decide) (by rw [c5]; decide) (by rw [c5]; rfl) (by decide) ?_
      refine lv_aload_n hx hb dX11_judged_36 rfl (lv_at hl 0 rfl) ?_
      obtain ⟨g6, hv⟩ := y_gd_e hv
      obtain ⟨o7, eo7, hv⟩ := y_bi_e hv
      refine z_getR hc hB 10 8 g6 eo7 (by decide) (by decide) rfl (z_l1 hc qfX11_68) dX11_judged_37 ?_
      obtain ⟨g8, hv⟩ := y_gd_e hv
      refine z_getI hc hB 3 6 g8 (by decide) (by decide) rfl (z_l2 hc qfX11_284) dX11_judged_40 ?_
      replace hv := Option.some.inj hv
      subst hv
      rw [← kt]
      exact z_iret hc hB hr dX11_judged_43
    · replace hv := y_br_f hv c5
      by_cases c9 : x1 = 2
      · replace hv := y_br_t hv c9
        refine lv_tableIn (off := 43) (tgt := 44) hx hb dX11_judged_1 (by rw [c9]; decide) (by rw [c9]; decide) (by rw [c9]; rfl) (by decide) ?_
        refine lv_aload_n hx hb dX11_judged_44 rfl (lv_at hl 0 rfl) ?_
        obtain ⟨g10, hv⟩ := y_gd_e hv
        obtain ⟨o11, eo11, hv⟩ := y_bi_e hv
        refine z_getR hc hB 10 8 g10 eo11 (by decide) (by decide) rfl (z_l1 hc qfX11_68) dX11_judged_45 ?_
        obtain ⟨g12, hv⟩ := y_gd_e hv
        refine z_getI hc hB 3 7 g12 (by decide) (by decide) rfl (z_l2 hc qfX11_287) dX11_judged_48 ?_
        replace hv := Option.some.inj hv
        subst hv
        rw [← kt]
        exact z_iret hc hB hr dX11_judged_51
      · replace hv := y_br_f hv c9
        refine lv_tableOut (tgt := 52) hx hb dX11_judged_1 (by have := y_nt (z := 0) (by decide) c1; have := y_nt (z := 1) (by decide) c5; have := y_nt (z := 2) (by decide) c9; omega) (by decide) ?_
        refine lv_iconst (v := (-1 : Int32)) hx hb dX11_judged_52 (by decide) ?_
        replace hv := Option.some.inj hv
        subst hv
        rw [← kt]
        exact z_iret hc hB hr dX11_judged_53
theorem qmX11_290 : Cond.methodLink RX11 290 yX0_canDraw ∈ z_ws := List.mem_filter.mpr ⟨List.mem_append_right _ (List.mem_of_getElem? (i := 920) (by decide +kernel)), rfl⟩
theorem qc_X0_canDraw : Cond.code yX0_canDraw cX0_canDraw 2 (some .boolean) ∈ z_ws := List.mem_filter.mpr ⟨List.mem_append_right _ (List.mem_of_getElem? (i := 923) (by decide +kernel)), rfl⟩
theorem qi_X0_canDraw : Cond.instanceMethod yX0_canDraw ∈ z_ws := List.mem_filter.mpr ⟨List.mem_append_right _ (List.mem_of_getElem? (i := 921) (by decide +kernel)), rfl⟩
theorem qs_X0_canDraw : Cond.selects RX0 yX0_canDraw yX0_canDraw ∈ z_ws := List.mem_filter.mpr ⟨List.mem_append_right _ (List.mem_of_getElem? (i := 922) (by decide +kernel)), rfl⟩
theorem md_X0_canDraw : z_mdV yX0_canDraw cX0_canDraw 2 (some .boolean) 1 := ⟨⟨qn_RX0, qc_X0_canDraw, ⟨by decide +kernel, by decide +kernel, by decide +kernel⟩⟩, qi_X0_canDraw, qs_X0_canDraw⟩
theorem qmX11_293 : Cond.methodLink RX11 293 yX2_draw ∈ z_ws := List.mem_filter.mpr ⟨List.mem_append_right _ (List.mem_of_getElem? (i := 924) (by decide +kernel)), rfl⟩
theorem qc_X2_draw : Cond.code yX2_draw cX2_draw 6 (some .int) ∈ z_ws := List.mem_filter.mpr ⟨List.mem_append_right _ (List.mem_of_getElem? (i := 927) (by decide +kernel)), rfl⟩
theorem qi_X2_draw : Cond.instanceMethod yX2_draw ∈ z_ws := List.mem_filter.mpr ⟨List.mem_append_right _ (List.mem_of_getElem? (i := 925) (by decide +kernel)), rfl⟩
theorem qs_X2_draw : Cond.selects RX2 yX2_draw yX2_draw ∈ z_ws := List.mem_filter.mpr ⟨List.mem_append_right _ (List.mem_of_getElem? (i := 926) (by decide +kernel)), rfl⟩
theorem md_X2_draw : z_mdV yX2_draw cX2_draw 6 (some .int) 2 := ⟨⟨qn_RX2, qc_X2_draw, ⟨by decide +kernel, by decide +kernel, by decide +kernel⟩⟩, qi_X2_draw, qs_X2_draw⟩
theorem dX11_drawn_0 : decode cX11_drawn 0 = .ok (.aload_n 0, 1) := by decide +kernel
theorem dX11_drawn_1 : decode cX11_drawn 1 = .ok (.getfield 36, 3) := by decide +kernel
theorem dX11_drawn_4 : decode cX11_drawn 4 = .ok (.getfield 106, 3) := by decide +kernel
theorem dX11_drawn_7 : decode cX11_drawn 7 = .ok (.astore_n 3, 1) := by decide +kernel
theorem dX11_drawn_8 : decode cX11_drawn 8 = .ok (.aload_n 3, 1) := by decide +kernel
theorem dX11_drawn_9 : decode cX11_drawn 9 = .ok (.getfield 109, 3) := by decide +kernel
theorem dX11_drawn_12 : decode cX11_drawn 12 = .ok (.iload_n 1, 1) := by decide +kernel
theorem dX11_drawn_13 : decode cX11_drawn 13 = .ok (.invokevirtual 290, 3) := by decide +kernel
theorem dX11_drawn_16 : decode cX11_drawn 16 = .ok (.ifCond .ne 5, 3) := by decide +kernel
theorem dX11_drawn_19 : decode cX11_drawn 19 = .ok (.iconst (-1), 1) := by decide +kernel
theorem dX11_drawn_20 : decode cX11_drawn 20 = .ok (.ireturn, 1) := by decide +kernel
theorem dX11_drawn_21 : decode cX11_drawn 21 = .ok (.aload_n 0, 1) := by decide +kernel
theorem dX11_drawn_22 : decode cX11_drawn 22 = .ok (.getfield 47, 3) := by decide +kernel
theorem dX11_drawn_25 : decode cX11_drawn 25 = .ok (.aload_n 3, 1) := by decide +kernel
theorem dX11_drawn_26 : decode cX11_drawn 26 = .ok (.invokevirtual 154, 3) := by decide +kernel
theorem dX11_drawn_29 : decode cX11_drawn 29 = .ok (.aload_n 3, 1) := by decide +kernel
theorem dX11_drawn_30 : decode cX11_drawn 30 = .ok (.iload_n 1, 1) := by decide +kernel
theorem dX11_drawn_31 : decode cX11_drawn 31 = .ok (.iload_n 2, 1) := by decide +kernel
theorem dX11_drawn_32 : decode cX11_drawn 32 = .ok (.invokevirtual 293, 3) := by decide +kernel
theorem dX11_drawn_35 : decode cX11_drawn 35 = .ok (.ireturn, 1) := by decide +kernel
abbrev rm_X11_drawn : Room := { frames := 6, cells := 0, slots := 0, locals := 140 }
noncomputable def fX11_drawn (o0 : Nat) (x1 : Int32) (x2 : Int32) (h : z_T) : Option (Int32 × z_T) :=
  y_gd (z_ok h o0 10) <|
  y_bi (z_R h o0 3) fun ob2 =>
  y_gd (z_ok h ob2 8) <|
  y_bi (z_R h ob2 0) fun ob4 =>
  y_gd (z_ok h ob4 2) <|
  y_bi (z_R h ob4 0) fun ob6 =>
  y_gd (z_ok h ob6 0) <|
  y_bi (fX0_canDraw ob6 x1 h) fun r8 =>
  y_br (r8 = 0)
    (some ((-1 : Int32), h))
    (y_bi (z_R h o0 5) fun ob14 =>
    y_gd (z_ok h ob14 4) <|
    y_bi (fX4_keep ob14 ob4 h) fun h16 =>
    y_gd (z_ok h16 ob4 2) <|
    y_bi (fX2_draw ob4 x1 x2 h16) fun ⟨r19, h23⟩ =>
    some (r19, h23))
set_option maxHeartbeats 4000000 in
set_option maxRecDepth 100000 in
theorem mm_X11_drawn {G : z_Gt} (hSK : z_SK (z_S G)) (l : Launch) (ad : Nat → Nat) (o0 : Nat) (x1 : Int32) (x2 : Int32) (h : z_T) {r0 : Int32} {h9 : z_T} (hv : fX11_drawn o0 x1 x2 h = some (r0, h9)) : z_Mi G (z_S G) l yX11_drawn cX11_drawn 4 (.int) rm_X11_drawn 0 0 [.ref (ad o0), .int x1, .int x2] ad h h9 r0 := by
  refine z_ofW hSK (by decide) (Nat.le_of_ble_eq_true rfl) ?_
  intro p e s m args below meth c ls hc hr hnm hB hl
  have hx := hc.1.1
  have hb := hc.1.2.1
  have hown := hc.1.2.2.2.1
  have hts := hc.1.2.2.2.2
  replace hc : z_C G (z_S G) ad (z_n h) p m c cX11_drawn 4 s args RX11 meth := hc
  replace hown : s.vm.findClass RX11 = some m.cls := hown
  replace hl : lv_has ls 4 [(0, .ref (ad o0)), (1, .int x1), (2, .int x2)] := hl
  show W p l e rm_X11_drawn s m args below meth c s.heap [] 0 0 (MQ below (z_Qi G ad h9 (z_n h) s.heap.size r0) args s 0 0 (z_A ad (z_n h) s.heap.size)) (F0 m 0 ls [])
  obtain ⟨rs, kt⟩ : ∃ rs : Int32 × z_T, rs = (r0, h9) := ⟨_, rfl⟩
  generalize hn0 : z_n h = n0 at hc hB ⊢
  rw [← kt] at hv
  refine lv_aload_n hx hb dX11_drawn_0 rfl (lv_at hl 0 rfl) ?_
  obtain ⟨g1, hv⟩ := y_gd_e hv
  obtain ⟨ob2, eob2, hv⟩ := y_bi_e hv
  refine z_getR hc hB 10 3 g1 eob2 (by decide) (by decide) rfl (z_l1 hc qfX11_36) dX11_drawn_1 ?_
  obtain ⟨g3, hv⟩ := y_gd_e hv
  obtain ⟨ob4, eob4, hv⟩ := y_bi_e hv
  refine z_getR hc hB 8 0 g3 eob4 (by decide) (by decide) rfl (z_l2 hc qfX11_106) dX11_drawn_4 ?_
  refine lv_astore_n (lv' := [(3, .ref (ad ob4)), (0, .ref (ad o0)), (1, .int x1), (2, .int x2)]) hx hb dX11_drawn_7 rfl hl (by decide) rfl (fun ls hl => ?_)
  refine lv_aload_n hx hb dX11_drawn_8 rfl (lv_at hl 0 rfl) ?_
  obtain ⟨g5, hv⟩ := y_gd_e hv
  obtain ⟨ob6, eob6, hv⟩ := y_bi_e hv
  refine z_getR hc hB 2 0 g5 eob6 (by decide) (by decide) rfl (z_l2 hc qfX11_109) dX11_drawn_9 ?_
  refine lv_iload_n hx hb dX11_drawn_12 rfl (lv_at hl 2 rfl) ?_
  obtain ⟨g12, hv⟩ := y_gd_e hv
  obtain ⟨r8, c7, hv⟩ := y_bi_e hv
  refine z_thI hc hB (z_runV hc hB 0 (mm_X0_canDraw hSK l ad ob6 x1 h c7) md_X0_canDraw qmX11_290 g12 (by decide) rfl rfl rfl ⟨Nat.le_of_ble_eq_true rfl, Nat.le_of_ble_eq_true rfl⟩ rfl hl.1 rfl (Nat.le_of_ble_eq_true rfl) dX11_drawn_13 ⟨Nat.le_of_ble_eq_true rfl, Nat.le_of_ble_eq_true rfl⟩) (fun H locs hB => ?_)
  refine lv_if_ne (tgt := 21) hx hb dX11_drawn_16 (by decide) (fun c13 => ?_) (fun c13 => ?_)
  · replace hv := y_br_f hv c13
    refine lv_aload_n hx hb dX11_drawn_21 rfl (lv_at hl 1 rfl) ?_
    obtain ⟨ob14, eob14, hv⟩ := y_bi_e hv
    refine z_getR hc hB 10 5 g1 eob14 (by decide) (by decide) rfl (z_l1 hc qfX11_47) dX11_drawn_22 ?_
    refine lv_aload_n hx hb dX11_drawn_25 rfl (lv_at hl 0 rfl) ?_
    obtain ⟨g17, hv⟩ := y_gd_e hv
    obtain ⟨h16, c15, hv⟩ := y_bi_e hv
    refine z_thV hc hB (z_runV hc hB 4 (mm_X4_keep hSK l ad ob14 ob4 h c15) md_X4_keep qmX11_154 g17 (by decide) rfl rfl rfl ⟨Nat.le_of_ble_eq_true rfl, Nat.le_of_ble_eq_true rfl⟩ rfl hl.1 rfl (Nat.le_of_ble_eq_true rfl) dX11_drawn_26 ⟨Nat.le_of_ble_eq_true rfl, Nat.le_of_ble_eq_true rfl⟩) (fun H locs hB => ?_)
    refine lv_aload_n hx hb dX11_drawn_29 rfl (lv_at hl 0 rfl) ?_
    refine lv_iload_n hx hb dX11_drawn_30 rfl (lv_at hl 2 rfl) ?_
    refine lv_iload_n hx hb dX11_drawn_31 rfl (lv_at hl 3 rfl) ?_
    obtain ⟨g24, hv⟩ := y_gd_e hv
    obtain ⟨⟨r19, h23⟩, c18, hv⟩ := y_bi_e hv
    refine z_thI hc hB (z_runV hc hB 2 (mm_X2_draw hSK l ad ob4 x1 x2 h16 c18) md_X2_draw qmX11_293 g24 (by decide) rfl rfl rfl ⟨Nat.le_of_ble_eq_true rfl, Nat.le_of_ble_eq_true rfl⟩ rfl hl.1 rfl (Nat.le_of_ble_eq_true rfl) dX11_drawn_32 ⟨Nat.le_of_ble_eq_true rfl, Nat.le_of_ble_eq_true rfl⟩) (fun H locs hB => ?_)
    replace hv := Option.some.inj hv
    subst hv
    obtain ⟨e1, e2⟩ := y_pr kt
    rw [← e1, ← e2]
    exact z_iret hc hB hr dX11_drawn_35
  · replace hv := y_br_t hv c13
    refine lv_iconst (v := (-1 : Int32)) hx hb dX11_drawn_19 (by decide) ?_
    replace hv := Option.some.inj hv
    subst hv
    obtain ⟨e1, e2⟩ := y_pr kt
    rw [← e1, ← e2]
    exact z_iret hc hB hr dX11_drawn_20
theorem dX11_wrongs_0 : decode cX11_wrongs 0 = .ok (.aload_n 0, 1) := by decide +kernel
theorem dX11_wrongs_1 : decode cX11_wrongs 1 = .ok (.getfield 36, 3) := by decide +kernel
theorem dX11_wrongs_4 : decode cX11_wrongs 4 = .ok (.getfield 106, 3) := by decide +kernel
theorem dX11_wrongs_7 : decode cX11_wrongs 7 = .ok (.getfield 109, 3) := by decide +kernel
theorem dX11_wrongs_10 : decode cX11_wrongs 10 = .ok (.astore 4, 2) := by decide +kernel
theorem dX11_wrongs_12 : decode cX11_wrongs 12 = .ok (.iload_n 1, 1) := by decide +kernel
theorem dX11_wrongs_13 : decode cX11_wrongs 13 = .ok (.iconst 1, 1) := by decide +kernel
theorem dX11_wrongs_14 : decode cX11_wrongs 14 = .ok (.if_icmp .lt 18, 3) := by decide +kernel
theorem dX11_wrongs_17 : decode cX11_wrongs 17 = .ok (.iload_n 1, 1) := by decide +kernel
theorem dX11_wrongs_18 : decode cX11_wrongs 18 = .ok (.bipush 60, 2) := by decide +kernel
theorem dX11_wrongs_20 : decode cX11_wrongs 20 = .ok (.if_icmp .gt 12, 3) := by decide +kernel
theorem dX11_wrongs_23 : decode cX11_wrongs 23 = .ok (.aload 4, 2) := by decide +kernel
theorem dX11_wrongs_25 : decode cX11_wrongs 25 = .ok (.iload_n 2, 1) := by decide +kernel
theorem dX11_wrongs_26 : decode cX11_wrongs 26 = .ok (.invokevirtual 290, 3) := by decide +kernel
theorem dX11_wrongs_29 : decode cX11_wrongs 29 = .ok (.ifCond .ne 5, 3) := by decide +kernel
theorem dX11_wrongs_32 : decode cX11_wrongs 32 = .ok (.iconst (-1), 1) := by decide +kernel
theorem dX11_wrongs_33 : decode cX11_wrongs 33 = .ok (.ireturn, 1) := by decide +kernel
theorem dX11_wrongs_34 : decode cX11_wrongs 34 = .ok (.aload_n 0, 1) := by decide +kernel
theorem dX11_wrongs_35 : decode cX11_wrongs 35 = .ok (.getfield 54, 3) := by decide +kernel
theorem dX11_wrongs_38 : decode cX11_wrongs 38 = .ok (.aload 4, 2) := by decide +kernel
theorem dX11_wrongs_40 : decode cX11_wrongs 40 = .ok (.invokevirtual 165, 3) := by decide +kernel
theorem dX11_wrongs_43 : decode cX11_wrongs 43 = .ok (.iconst 0, 1) := by decide +kernel
theorem dX11_wrongs_44 : decode cX11_wrongs 44 = .ok (.istore 5, 2) := by decide +kernel
theorem dX11_wrongs_46 : decode cX11_wrongs 46 = .ok (.iconst 0, 1) := by decide +kernel
theorem dX11_wrongs_47 : decode cX11_wrongs 47 = .ok (.istore 6, 2) := by decide +kernel
theorem dX11_wrongs_49 : decode cX11_wrongs 49 = .ok (.iload 6, 2) := by decide +kernel
theorem dX11_wrongs_51 : decode cX11_wrongs 51 = .ok (.iload_n 1, 1) := by decide +kernel
theorem dX11_wrongs_52 : decode cX11_wrongs 52 = .ok (.if_icmp .ge 46, 3) := by decide +kernel
theorem dX11_wrongs_55 : decode cX11_wrongs 55 = .ok (.aload_n 0, 1) := by decide +kernel
theorem dX11_wrongs_56 : decode cX11_wrongs 56 = .ok (.getfield 54, 3) := by decide +kernel
theorem dX11_wrongs_59 : decode cX11_wrongs 59 = .ok (.iload_n 2, 1) := by decide +kernel
theorem dX11_wrongs_60 : decode cX11_wrongs 60 = .ok (.iload_n 3, 1) := by decide +kernel
theorem dX11_wrongs_61 : decode cX11_wrongs 61 = .ok (.iload 6, 2) := by decide +kernel
theorem dX11_wrongs_63 : decode cX11_wrongs 63 = .ok (.iadd, 1) := by decide +kernel
theorem dX11_wrongs_64 : decode cX11_wrongs 64 = .ok (.invokevirtual 293, 3) := by decide +kernel
theorem dX11_wrongs_67 : decode cX11_wrongs 67 = .ok (.ifCond .ne 7, 3) := by decide +kernel
theorem dX11_wrongs_70 : decode cX11_wrongs 70 = .ok (.iconst 1, 1) := by decide +kernel
theorem dX11_wrongs_71 : decode cX11_wrongs 71 = .ok (.goto 4, 3) := by decide +kernel
theorem dX11_wrongs_74 : decode cX11_wrongs 74 = .ok (.iconst 0, 1) := by decide +kernel
theorem dX11_wrongs_75 : decode cX11_wrongs 75 = .ok (.istore 7, 2) := by decide +kernel
theorem dX11_wrongs_77 : decode cX11_wrongs 77 = .ok (.iload 7, 2) := by decide +kernel
theorem dX11_wrongs_79 : decode cX11_wrongs 79 = .ok (.aload_n 0, 1) := by decide +kernel
theorem dX11_wrongs_80 : decode cX11_wrongs 80 = .ok (.getfield 54, 3) := by decide +kernel
theorem dX11_wrongs_83 : decode cX11_wrongs 83 = .ok (.invokevirtual 191, 3) := by decide +kernel
theorem dX11_wrongs_86 : decode cX11_wrongs 86 = .ok (.if_icmp .eq 6, 3) := by decide +kernel
theorem dX11_wrongs_89 : decode cX11_wrongs 89 = .ok (.iinc 5 1, 3) := by decide +kernel
theorem dX11_wrongs_92 : decode cX11_wrongs 92 = .ok (.iinc 6 1, 3) := by decide +kernel
theorem dX11_wrongs_95 : decode cX11_wrongs 95 = .ok (.goto (-46), 3) := by decide +kernel
theorem dX11_wrongs_98 : decode cX11_wrongs 98 = .ok (.iload 5, 2) := by decide +kernel
theorem dX11_wrongs_100 : decode cX11_wrongs 100 = .ok (.ireturn, 1) := by decide +kernel
abbrev rm_X11_wrongs : Room := { frames := 6, cells := 0, slots := 0, locals := 140 }
noncomputable def fX11_wrongs_b92 (o0 : Nat) (x1 : Int32) (x2 : Int32) (x3 : Int32) (x5 : Int32) (x6 : Int32) (h : z_T) : Option ((Int32 × Int32 × z_T) ⊕ (Int32 × z_T)) :=
  y_nm (x6 + 1) fun v1 =>
  some (.inl (x5, v1, h))
noncomputable def fX11_wrongs_b75 (o0 : Nat) (x1 : Int32) (x2 : Int32) (x3 : Int32) (x5 : Int32) (x6 : Int32) (s0 : Int32) (h : z_T) : Option ((Int32 × Int32 × z_T) ⊕ (Int32 × z_T)) :=
  y_gd (z_ok h o0 10) <|
  y_bi (z_R h o0 6) fun ob3 =>
  y_gd (z_ok h ob3 2) <|
  y_bi (fX2_getsUp ob3 h) fun r5 =>
  y_br (s0 = r5)
    (fX11_wrongs_b92 o0 x1 x2 x3 x5 x6 h)
    (y_nm (x5 + 1) fun v11 =>
    fX11_wrongs_b92 o0 x1 x2 x3 v11 x6 h)
noncomputable def fX11_wrongs_b49_i (o0 : Nat) (x1 : Int32) (x2 : Int32) (x3 : Int32) (x5 : Int32) (x6 : Int32) (h : z_T) : Option ((Int32 × Int32 × z_T) ⊕ (Int32 × z_T)) :=
  y_br (x1 ≤ x6)
    (y_mp <|
    some (x5, h))
    (y_gd (z_ok h o0 10) <|
    y_bi (z_R h o0 6) fun ob15 =>
    y_gd (z_ok h ob15 2) <|
    y_bi (fX2_draw ob15 x2 (x3 + x6) h) fun ⟨r17, h21⟩ =>
    y_br (r17 = 0)
      (fX11_wrongs_b75 o0 x1 x2 x3 x5 x6 (1 : Int32) h21)
      (fX11_wrongs_b75 o0 x1 x2 x3 x5 x6 (0 : Int32) h21))
noncomputable def fX11_wrongs_b49 (o0 : Nat) (x1 : Int32) (x2 : Int32) (x3 : Int32) (x5 : Int32) (x6 : Int32) (h : z_T) : Option (Int32 × z_T) := y_lp (fun q : Int32 × Int32 × z_T => fX11_wrongs_b49_i o0 x1 x2 x3 q.1 q.2.1 q.2.2) (x5, x6, h)
noncomputable def fX11_wrongs (o0 : Nat) (x1 : Int32) (x2 : Int32) (x3 : Int32) (h : z_T) : Option (Int32 × z_T) :=
  y_gd (z_ok h o0 10) <|
  y_bi (z_R h o0 3) fun ob25 =>
  y_gd (z_ok h ob25 8) <|
  y_bi (z_R h ob25 0) fun ob27 =>
  y_gd (z_ok h ob27 2) <|
  y_bi (z_R h ob27 0) fun ob29 =>
  y_br (x1 < (1 : Int32))
    (some ((-1 : Int32), h))
    (y_br ((60 : Int32) < x1)
      (some ((-1 : Int32), h))
      (y_gd (z_ok h ob29 0) <|
      y_bi (fX0_canDraw ob29 x2 h) fun r33 =>
      y_br (r33 = 0)
        (some ((-1 : Int32), h))
        (y_bi (z_R h o0 6) fun ob39 =>
        y_gd (z_ok h ob39 2) <|
        y_bi (fX2_begin ob39 ob29 h) fun h41 =>
        fX11_wrongs_b49 o0 x1 x2 x3 (0 : Int32) (0 : Int32) h41)))
set_option maxHeartbeats 4000000 in
set_option maxRecDepth 100000 in
theorem mm_X11_wrongs {G : z_Gt} (hSK : z_SK (z_S G)) (l : Launch) (ad : Nat → Nat) (o0 : Nat) (x1 : Int32) (x2 : Int32) (x3 : Int32) (h : z_T) {r0 : Int32} {h9 : z_T} (hv : fX11_wrongs o0 x1 x2 x3 h = some (r0, h9)) : z_Mi G (z_S G) l yX11_wrongs cX11_wrongs 8 (.int) rm_X11_wrongs 0 0 [.ref (ad o0), .int x1, .int x2, .int x3] ad h h9 r0 := by
  refine z_ofW hSK (by decide) (Nat.le_of_ble_eq_true rfl) ?_
  intro p e s m args below meth c ls hc hr hnm hB hl
  have hx := hc.1.1
  have hb := hc.1.2.1
  have hown := hc.1.2.2.2.1
  have hts := hc.1.2.2.2.2
  replace hc : z_C G (z_S G) ad (z_n h) p m c cX11_wrongs 8 s args RX11 meth := hc
  replace hown : s.vm.findClass RX11 = some m.cls := hown
  replace hl : lv_has ls 8 [(0, .ref (ad o0)), (1, .int x1), (2, .int x2), (3, .int x3)] := hl
  show W p l e rm_X11_wrongs s m args below meth c s.heap [] 0 0 (MQ below (z_Qi G ad h9 (z_n h) s.heap.size r0) args s 0 0 (z_A ad (z_n h) s.heap.size)) (F0 m 0 ls [])
  obtain ⟨rs, kt⟩ : ∃ rs : Int32 × z_T, rs = (r0, h9) := ⟨_, rfl⟩
  generalize hn0 : z_n h = n0 at hc hB ⊢
  have L49 : ∀ (nn49 : Nat) (x5 : Int32) (x6 : Int32) (h : z_T) (H : Heap) (locs : List Loc) (ls : Array Slot), z_B G ad n0 s h H locs → lv_has ls 8 [(0, .ref (ad o0)), (1, .int x1), (2, .int x2), (3, .int x3), (5, .int x5), (6, .int x6)] → ∀ vv49, y_lpN (fun q : Int32 × Int32 × z_T => fX11_wrongs_b49_i o0 x1 x2 x3 q.1 q.2.1 q.2.2) nn49 (x5, x6, h) = some vv49 → vv49 = (r0, h9) → W p l e rm_X11_wrongs s m args below meth c H locs 0 0 (MQ below (z_Qi G ad h9 n0 s.heap.size r0) args s 0 0 (z_A ad n0 s.heap.size)) (F0 m 49 ls []) := by
    intro nn49
    induction nn49 with
    | zero => intro x5 x6 h H locs ls hB hl vv49 hv kv49; exact absurd hv (fun q => y_lpN_0 q)
    | succ nn49 ih49 =>
      intro x5 x6 h H locs ls hB hl vv49 hv kv49
      obtain ⟨w, hq, kw49⟩ := y_lpN_e hv
      clear hv
      have hv : fX11_wrongs_b49_i o0 x1 x2 x3 x5 x6 h = some w := hq
      clear hq
      have b92 : ∀ (x5 : Int32) (x6 : Int32) (h : z_T) (H : Heap) (locs : List Loc) (ls : Array Slot), z_B G ad n0 s h H locs → lv_has ls 8 [(0, .ref (ad o0)), (1, .int x1), (2, .int x2), (3, .int x3), (5, .int x5), (6, .int x6)] → ∀ w, fX11_wrongs_b92 o0 x1 x2 x3 x5 x6 h = some w → y_lq (fun q : Int32 × Int32 × z_T => fX11_wrongs_b49_i o0 x1 x2 x3 q.1 q.2.1 q.2.2) nn49 vv49 w → W p l e rm_X11_wrongs s m args below meth c H locs 0 0 (MQ below (z_Qi G ad h9 n0 s.heap.size r0) args s 0 0 (z_A ad n0 s.heap.size)) (F0 m 92 ls []) := by
        intro x5 x6 h H locs ls hB hl w hv kw49
        obtain ⟨v1, ev1, hv⟩ := y_nm_e hv
        refine lv_iinc (v := v1) (lv' := [(6, .int v1), (0, .ref (ad o0)), (1, .int x1), (2, .int x2), (3, .int x3), (5, .int x5)]) hx hb dX11_wrongs_92 hl (k := 5) rfl (by rw [ev1]; rfl) (by decide) rfl (fun ls hl => ?_)
        refine lv_goto (tgt := 49) hx hb dX11_wrongs_95 (by decide) ?_
        replace hv := Option.some.inj hv
        subst hv
        exact ih49 x5 v1 h _ _ _ hB (lv_sub hl [1, 2, 3, 4, 5, 0] rfl) _ kw49 kv49
      have b75 : ∀ (x5 : Int32) (x6 : Int32) (s0 : Int32) (h : z_T) (H : Heap) (locs : List Loc) (ls : Array Slot), z_B G ad n0 s h H locs → lv_has ls 8 [(0, .ref (ad o0)), (1, .int x1), (2, .int x2), (3, .int x3), (5, .int x5), (6, .int x6)] → ∀ w, fX11_wrongs_b75 o0 x1 x2 x3 x5 x6 s0 h = some w → y_lq (fun q : Int32 × Int32 × z_T => fX11_wrongs_b49_i o0 x1 x2 x3 q.1 q.2.1 q.2.2) nn49 vv49 w → W p l e rm_X11_wrongs s m args below meth c H locs 0 0 (MQ below (z_Qi G ad h9 n0 s.heap.size r0) args s 0 0 (z_A ad n0 s.heap.size)) (F0 m 75 ls [.int s0]) := by
        intro x5 x6 s0 h H locs ls hB hl w hv kw49
        refine lv_istore (lv' := [(7, .int s0), (0, .ref (ad o0)), (1, .int x1), (2, .int x2), (3, .int x3), (5, .int x5), (6, .int x6)]) hx hb dX11_wrongs_75 hl (by decide) rfl (fun ls hl => ?_)
        refine lv_iload hx hb dX11_wrongs_77 (lv_at hl 0 rfl) ?_
        refine lv_aload_n hx hb dX11_wrongs_79 rfl (lv_at hl 1 rfl) ?_
        obtain ⟨g2, hv⟩ := y_gd_e hv
        obtain ⟨ob3, eob3, hv⟩ := y_bi_e hv
        refine z_getR hc hB 10 6 g2 eob3 (by decide) (by decide) rfl (z_l1 hc qfX11_54) dX11_wrongs_80 ?_
        obtain ⟨g9, hv⟩ := y_gd_e hv
        obtain ⟨r5, c4, hv⟩ := y_bi_e hv
        refine z_thI hc hB (z_runV hc hB 2 (mm_X2_getsUp hSK l ad ob3 h c4) md_X2_getsUp qmX11_191 g9 (by decide) rfl rfl rfl ⟨Nat.le_of_ble_eq_true rfl, Nat.le_of_ble_eq_true rfl⟩ rfl hl.1 rfl (Nat.le_of_ble_eq_true rfl) dX11_wrongs_83 ⟨Nat.le_of_ble_eq_true rfl, Nat.le_of_ble_eq_true rfl⟩) (fun H locs hB => ?_)
        refine lv_icmp_eq (tgt := 92) hx hb dX11_wrongs_86 (by decide) (fun c10 => ?_) (fun c10 => ?_)
        · replace hv := y_br_t hv c10
          exact b92 x5 x6 h _ _ _ hB (lv_sub hl [1, 2, 3, 4, 5, 6] rfl) _ hv kw49
        · replace hv := y_br_f hv c10
          obtain ⟨v11, ev11, hv⟩ := y_nm_e hv
          refine lv_iinc (v := v11) (lv' := [(5, .int v11), (7, .int s0), (0, .ref (ad o0)), (1, .int x1), (2, .int x2), (3, .int x3), (6, .int x6)]) hx hb dX11_wrongs_89 hl (k := 5) rfl (by rw [ev11]; rfl) (by decide) rfl (fun ls hl => ?_)
          exact b92 v11 x6 h _ _ _ hB (lv_sub hl [2, 3, 4, 5, 0, 6] rfl) _ hv kw49
      refine lv_iload hx hb dX11_wrongs_49 (lv_at hl 5 rfl) ?_
      refine lv_iload_n hx hb dX11_wrongs_51 rfl (lv_at hl 1 rfl) ?_
      refine lv_icmp_ge (tgt := 98) hx hb dX11_wrongs_52 (by decide) (fun c12 => ?_) (fun c12 => ?_)
      · replace hv := y_br_t hv c12
        obtain ⟨t13, hq, ew⟩ := y_mp_e hv
        clear hv; subst ew
        replace kw49 : t13 = _ := kw49
        subst kw49
        have hv := hq
        clear hq
        refine lv_iload hx hb dX11_wrongs_98 (lv_at hl 4 rfl) ?_
        replace hv := Option.some.inj hv
        subst hv
        obtain ⟨e1, e2⟩ := y_pr kv49
        rw [← e1, ← e2]
        exact z_iret hc hB hr dX11_wrongs_100
      · replace hv := y_br_f hv c12
        refine lv_aload_n hx hb dX11_wrongs_55 rfl (lv_at hl 0 rfl) ?_
        obtain ⟨g14, hv⟩ := y_gd_e hv
        obtain ⟨ob15, eob15, hv⟩ := y_bi_e hv
        refine z_getR hc hB 10 6 g14 eob15 (by decide) (by decide) rfl (z_l1 hc qfX11_54) dX11_wrongs_56 ?_
        refine lv_iload_n hx hb dX11_wrongs_59 rfl (lv_at hl 2 rfl) ?_
        refine lv_iload_n hx hb dX11_wrongs_60 rfl (lv_at hl 3 rfl) ?_
        refine lv_iload hx hb dX11_wrongs_61 (lv_at hl 5 rfl) ?_
        refine lv_iadd hx hb dX11_wrongs_63 ?_
        obtain ⟨g22, hv⟩ := y_gd_e hv
        obtain ⟨⟨r17, h21⟩, c16, hv⟩ := y_bi_e hv
        refine z_thI hc hB (z_runV hc hB 2 (mm_X2_draw hSK l ad ob15 x2 (x3 + x6) h c16) md_X2_draw qmX11_293 g22 (by decide) rfl rfl rfl ⟨Nat.le_of_ble_eq_true rfl, Nat.le_of_ble_eq_true rfl⟩ rfl hl.1 rfl (Nat.le_of_ble_eq_true rfl) dX11_wrongs_64 ⟨Nat.le_of_ble_eq_true rfl, Nat.le_of_ble_eq_true rfl⟩) (fun H locs hB => ?_)
        refine lv_if_ne (tgt := 74) hx hb dX11_wrongs_67 (by decide) (fun c23 => ?_) (fun c23 => ?_)
        · replace hv := y_br_f hv c23
          refine lv_iconst (v := (0 : Int32)) hx hb dX11_wrongs_74 (by decide) ?_
          exact b75 x5 x6 (0 : Int32) h21 _ _ _ hB (lv_sub hl [0, 1, 2, 3, 4, 5] rfl) _ hv kw49
        · replace hv := y_br_t hv c23
          refine lv_iconst (v := (1 : Int32)) hx hb dX11_wrongs_70 (by decide) ?_
          refine lv_goto (tgt := 75) hx hb dX11_wrongs_71 (by decide) ?_
          exact b75 x5 x6 (1 : Int32) h21 _ _ _ hB (lv_sub hl [0, 1, 2, 3, 4, 5] rfl) _ hv kw49
  rw [← kt] at hv
  refine lv_aload_n hx hb dX11_wrongs_0 rfl (lv_at hl 0 rfl) ?_
  obtain ⟨g24, hv⟩ := y_gd_e hv
  obtain ⟨ob25, eob25, hv⟩ := y_bi_e hv
  refine z_getR hc hB 10 3 g24 eob25 (by decide) (by decide) rfl (z_l1 hc qfX11_36) dX11_wrongs_1 ?_
  obtain ⟨g26, hv⟩ := y_gd_e hv
  obtain ⟨ob27, eob27, hv⟩ := y_bi_e hv
  refine z_getR hc hB 8 0 g26 eob27 (by decide) (by decide) rfl (z_l2 hc qfX11_106) dX11_wrongs_4 ?_
  obtain ⟨g28, hv⟩ := y_gd_e hv
  obtain ⟨ob29, eob29, hv⟩ := y_bi_e hv
  refine z_getR hc hB 2 0 g28 eob29 (by decide) (by decide) rfl (z_l2 hc qfX11_109) dX11_wrongs_7 ?_
  refine lv_astore (lv' := [(4, .ref (ad ob29)), (0, .ref (ad o0)), (1, .int x1), (2, .int x2), (3, .int x3)]) hx hb dX11_wrongs_10 hl (by decide) rfl (fun ls hl => ?_)
  refine lv_iload_n hx hb dX11_wrongs_12 rfl (lv_at hl 2 rfl) ?_
  refine lv_iconst (v := (1 : Int32)) hx hb dX11_wrongs_13 (by decide) ?_
  refine lv_icmp_lt (tgt := 32) hx hb dX11_wrongs_14 (by decide) (fun c30 => ?_) (fun c30 => ?_)
  · replace hv := y_br_t hv c30
    refine lv_iconst (v := (-1 : Int32)) hx hb dX11_wrongs_32 (by decide) ?_
    replace hv := Option.some.inj hv
    subst hv
    obtain ⟨e1, e2⟩ := y_pr kt
    rw [← e1, ← e2]
    exact z_iret hc hB hr dX11_wrongs_33
  · replace hv := y_br_f hv c30
    refine lv_iload_n hx hb dX11_wrongs_17 rfl (lv_at hl 2 rfl) ?_
    refine lv_bipush (v := (60 : Int32)) hx hb dX11_wrongs_18 (by decide) ?_
    refine lv_icmp_gt (tgt := 32) hx hb dX11_wrongs_20 (by decide) (fun c31 => ?_) (fun c31 => ?_)
    · replace hv := y_br_t hv c31
      refine lv_iconst (v := (-1 : Int32)) hx hb dX11_wrongs_32 (by decide) ?_
      replace hv := Option.some.inj hv
      subst hv
      obtain ⟨e1, e2⟩ := y_pr kt
      rw [← e1, ← e2]
      exact z_iret hc hB hr dX11_wrongs_33
    · replace hv := y_br_f hv c31
      refine lv_aload hx hb dX11_wrongs_23 (lv_at hl 0 rfl) ?_
      refine lv_iload_n hx hb dX11_wrongs_25 rfl (lv_at hl 3 rfl) ?_
      obtain ⟨g37, hv⟩ := y_gd_e hv
      obtain ⟨r33, c32, hv⟩ := y_bi_e hv
      refine z_thI hc hB (z_runV hc hB 0 (mm_X0_canDraw hSK l ad ob29 x2 h c32) md_X0_canDraw qmX11_290 g37 (by decide) rfl rfl rfl ⟨Nat.le_of_ble_eq_true rfl, Nat.le_of_ble_eq_true rfl⟩ rfl hl.1 rfl (Nat.le_of_ble_eq_true rfl) dX11_wrongs_26 ⟨Nat.le_of_ble_eq_true rfl, Nat.le_of_ble_eq_true rfl⟩) (fun H locs hB => ?_)
      refine lv_if_ne (tgt := 34) hx hb dX11_wrongs_29 (by decide) (fun c38 => ?_) (fun c38 => ?_)
      · replace hv := y_br_f hv c38
        refine lv_aload_n hx hb dX11_wrongs_34 rfl (lv_at hl 1 rfl) ?_
        obtain ⟨ob39, eob39, hv⟩ := y_bi_e hv
        refine z_getR hc hB 10 6 g24 eob39 (by decide) (by decide) rfl (z_l1 hc qfX11_54) dX11_wrongs_35 ?_
        refine lv_aload hx hb dX11_wrongs_38 (lv_at hl 0 rfl) ?_
        obtain ⟨g42, hv⟩ := y_gd_e hv
        obtain ⟨h41, c40, hv⟩ := y_bi_e hv
        refine z_thV hc hB (z_runV hc hB 2 (mm_X2_begin hSK l ad ob39 ob29 h c40) md_X2_begin qmX11_165 g42 (by decide) rfl rfl rfl ⟨Nat.le_of_ble_eq_true rfl, Nat.le_of_ble_eq_true rfl⟩ rfl hl.1 rfl (Nat.le_of_ble_eq_true rfl) dX11_wrongs_40 ⟨Nat.le_of_ble_eq_true rfl, Nat.le_of_ble_eq_true rfl⟩) (fun H locs hB => ?_)
        refine lv_iconst (v := (0 : Int32)) hx hb dX11_wrongs_43 (by decide) ?_
        refine lv_istore (lv' := [(5, .int (0 : Int32)), (4, .ref (ad ob29)), (0, .ref (ad o0)), (1, .int x1), (2, .int x2), (3, .int x3)]) hx hb dX11_wrongs_44 hl (by decide) rfl (fun ls hl => ?_)
        refine lv_iconst (v := (0 : Int32)) hx hb dX11_wrongs_46 (by decide) ?_
        refine lv_istore (lv' := [(6, .int (0 : Int32)), (5, .int (0 : Int32)), (4, .ref (ad ob29)), (0, .ref (ad o0)), (1, .int x1), (2, .int x2), (3, .int x3)]) hx hb dX11_wrongs_47 hl (by decide) rfl (fun ls hl => ?_)
        obtain ⟨n, hv⟩ := y_lp_e hv
        exact L49 n (0 : Int32) (0 : Int32) h41 _ _ _ hB (lv_sub hl [3, 4, 5, 6, 1, 0] rfl) _ hv kt
      · replace hv := y_br_t hv c38
        refine lv_iconst (v := (-1 : Int32)) hx hb dX11_wrongs_32 (by decide) ?_
        replace hv := Option.some.inj hv
        subst hv
        obtain ⟨e1, e2⟩ := y_pr kt
        rw [← e1, ← e2]
        exact z_iret hc hB hr dX11_wrongs_33
theorem qlX11_296 : Cond.classLink RX11 296 "DreamTests$Sentence" ∈ z_ws := List.mem_filter.mpr ⟨List.mem_append_right _ (List.mem_of_getElem? (i := 950) (by decide +kernel)), rfl⟩
theorem qi_DreamTests_Sentence : Cond.instantiable "DreamTests$Sentence" 5 ∈ z_ws := List.mem_filter.mpr ⟨List.mem_append_right _ (List.mem_of_getElem? (i := 951) (by decide +kernel)), rfl⟩
theorem qmX11_298 : Cond.methodLinkNest RX11 298 yX7_init "DreamTests" ∈ z_nw := List.mem_filter.mpr ⟨List.mem_of_getElem? (i := 952) (by decide +kernel), rfl⟩
theorem qc_X7_init : Cond.code yX7_init cX7_init 1 none ∈ z_ws := List.mem_filter.mpr ⟨List.mem_append_right _ (List.mem_of_getElem? (i := 954) (by decide +kernel)), rfl⟩
theorem qi_X7_init : Cond.instanceMethod yX7_init ∈ z_ws := List.mem_filter.mpr ⟨List.mem_append_right _ (List.mem_of_getElem? (i := 953) (by decide +kernel)), rfl⟩
theorem md_X7_init : z_mdI yX7_init cX7_init 1 0 := ⟨⟨qn_RX7, qc_X7_init, ⟨by decide +kernel, by decide +kernel, by decide +kernel⟩⟩, rfl, qi_X7_init⟩
theorem qmX11_299 : Cond.methodLink RX11 299 yX7_readWhole ∈ z_ws := List.mem_filter.mpr ⟨List.mem_append_right _ (List.mem_of_getElem? (i := 973) (by decide +kernel)), rfl⟩
theorem qc_X7_readWhole : Cond.code yX7_readWhole cX7_readWhole 3 (some .boolean) ∈ z_ws := List.mem_filter.mpr ⟨List.mem_append_right _ (List.mem_of_getElem? (i := 976) (by decide +kernel)), rfl⟩
theorem qi_X7_readWhole : Cond.instanceMethod yX7_readWhole ∈ z_ws := List.mem_filter.mpr ⟨List.mem_append_right _ (List.mem_of_getElem? (i := 974) (by decide +kernel)), rfl⟩
theorem qs_X7_readWhole : Cond.selects RX7 yX7_readWhole yX7_readWhole ∈ z_ws := List.mem_filter.mpr ⟨List.mem_append_right _ (List.mem_of_getElem? (i := 975) (by decide +kernel)), rfl⟩
theorem md_X7_readWhole : z_mdV yX7_readWhole cX7_readWhole 3 (some .boolean) 2 := ⟨⟨qn_RX7, qc_X7_readWhole, ⟨by decide +kernel, by decide +kernel, by decide +kernel⟩⟩, qi_X7_readWhole, qs_X7_readWhole⟩
theorem qfX11_300 : Cond.fieldLinkNest RX11 300 "DreamTests$State" "sentence" "LDreamTests$Sentence;" "DreamTests" ∈ z_nw := List.mem_filter.mpr ⟨List.mem_of_getElem? (i := 191) (by decide +kernel), rfl⟩
theorem qfX11_304 : Cond.fieldLinkNest RX11 304 "DreamTests$Sentence" "ones" "I" "DreamTests" ∈ z_nw := List.mem_filter.mpr ⟨List.mem_of_getElem? (i := 961) (by decide +kernel), rfl⟩
theorem dX11_sentence_0 : decode cX11_sentence 0 = .ok (.new 296, 3) := by decide +kernel
theorem dX11_sentence_3 : decode cX11_sentence 3 = .ok (.dup, 1) := by decide +kernel
theorem dX11_sentence_4 : decode cX11_sentence 4 = .ok (.invokespecial 298, 3) := by decide +kernel
theorem dX11_sentence_7 : decode cX11_sentence 7 = .ok (.astore_n 1, 1) := by decide +kernel
theorem dX11_sentence_8 : decode cX11_sentence 8 = .ok (.aload_n 0, 1) := by decide +kernel
theorem dX11_sentence_9 : decode cX11_sentence 9 = .ok (.getfield 27, 3) := by decide +kernel
theorem dX11_sentence_12 : decode cX11_sentence 12 = .ok (.sipush 200, 3) := by decide +kernel
theorem dX11_sentence_15 : decode cX11_sentence 15 = .ok (.invokevirtual 84, 3) := by decide +kernel
theorem dX11_sentence_18 : decode cX11_sentence 18 = .ok (.aload_n 1, 1) := by decide +kernel
theorem dX11_sentence_19 : decode cX11_sentence 19 = .ok (.aload_n 0, 1) := by decide +kernel
theorem dX11_sentence_20 : decode cX11_sentence 20 = .ok (.getfield 27, 3) := by decide +kernel
theorem dX11_sentence_23 : decode cX11_sentence 23 = .ok (.aload_n 0, 1) := by decide +kernel
theorem dX11_sentence_24 : decode cX11_sentence 24 = .ok (.getfield 36, 3) := by decide +kernel
theorem dX11_sentence_27 : decode cX11_sentence 27 = .ok (.getfield 106, 3) := by decide +kernel
theorem dX11_sentence_30 : decode cX11_sentence 30 = .ok (.getfield 109, 3) := by decide +kernel
theorem dX11_sentence_33 : decode cX11_sentence 33 = .ok (.invokevirtual 299, 3) := by decide +kernel
theorem dX11_sentence_36 : decode cX11_sentence 36 = .ok (.istore_n 2, 1) := by decide +kernel
theorem dX11_sentence_37 : decode cX11_sentence 37 = .ok (.aload_n 0, 1) := by decide +kernel
theorem dX11_sentence_38 : decode cX11_sentence 38 = .ok (.getfield 15, 3) := by decide +kernel
theorem dX11_sentence_41 : decode cX11_sentence 41 = .ok (.iconst 0, 1) := by decide +kernel
theorem dX11_sentence_42 : decode cX11_sentence 42 = .ok (.putfield 80, 3) := by decide +kernel
theorem dX11_sentence_45 : decode cX11_sentence 45 = .ok (.iload_n 2, 1) := by decide +kernel
theorem dX11_sentence_46 : decode cX11_sentence 46 = .ok (.ifCond .ne 13, 3) := by decide +kernel
theorem dX11_sentence_49 : decode cX11_sentence 49 = .ok (.iconst (-1), 1) := by decide +kernel
theorem dX11_sentence_50 : decode cX11_sentence 50 = .ok (.aload_n 0, 1) := by decide +kernel
theorem dX11_sentence_51 : decode cX11_sentence 51 = .ok (.getfield 27, 3) := by decide +kernel
theorem dX11_sentence_54 : decode cX11_sentence 54 = .ok (.getfield 91, 3) := by decide +kernel
theorem dX11_sentence_57 : decode cX11_sentence 57 = .ok (.isub, 1) := by decide +kernel
theorem dX11_sentence_58 : decode cX11_sentence 58 = .ok (.ireturn, 1) := by decide +kernel
theorem dX11_sentence_59 : decode cX11_sentence 59 = .ok (.aload_n 0, 1) := by decide +kernel
theorem dX11_sentence_60 : decode cX11_sentence 60 = .ok (.getfield 36, 3) := by decide +kernel
theorem dX11_sentence_63 : decode cX11_sentence 63 = .ok (.aload_n 1, 1) := by decide +kernel
theorem dX11_sentence_64 : decode cX11_sentence 64 = .ok (.putfield 300, 3) := by decide +kernel
theorem dX11_sentence_67 : decode cX11_sentence 67 = .ok (.aload_n 1, 1) := by decide +kernel
theorem dX11_sentence_68 : decode cX11_sentence 68 = .ok (.getfield 304, 3) := by decide +kernel
theorem dX11_sentence_71 : decode cX11_sentence 71 = .ok (.ireturn, 1) := by decide +kernel
abbrev rm_X11_sentence : Room := { frames := 42, cells := 4, slots := 125, locals := 1043 }
noncomputable def fX11_sentence (o0 : Nat) (h : z_T) : Option (Int32 × z_T) :=
  y_nm (z_n h) fun ob1 =>
  y_nm (z_al h 7 0) fun h2 =>
  y_bi (fX7_init ob1 h2) fun h5 =>
  y_gd (z_ok h5 o0 10) <|
  y_bi (z_R h5 o0 2) fun ob7 =>
  y_gd (z_ok h5 ob7 6) <|
  y_bi (fX6_open ob7 (200 : Int32) h5) fun h9 =>
  y_gd (z_ok h9 o0 10) <|
  y_bi (z_R h9 o0 2) fun ob12 =>
  y_bi (z_R h9 o0 3) fun ob13 =>
  y_gd (z_ok h9 ob13 8) <|
  y_bi (z_R h9 ob13 0) fun ob15 =>
  y_gd (z_ok h9 ob15 2) <|
  y_bi (z_R h9 ob15 0) fun ob17 =>
  y_gd (z_ok h9 ob1 7) <|
  y_bi (fX7_readWhole ob1 ob12 ob17 h9) fun ⟨r19, h23⟩ =>
  y_gd (z_ok h23 o0 10) <|
  y_bi (z_R h23 o0 0) fun ob26 =>
  y_gd (z_ok h23 ob26 1) <|
  y_nm (z_sI h23 ob26 1 (0 : Int32)) fun h28 =>
  y_br (r19 = 0)
    (y_bi (z_R h28 o0 2) fun ob34 =>
    y_gd (z_ok h28 ob34 6) <|
    some (((-1 : Int32) - (z_I h28 ob34 3)), h28))
    (y_bi (z_R h28 o0 3) fun ob30 =>
    y_gd (z_ok h28 ob30 8) <|
    y_gd (z_ok h28 ob1 7) <|
    y_nm (z_sR h28 ob30 2 (some ob1)) fun h33 =>
    some ((z_I h33 ob1 4), h33))
set_option maxHeartbeats 4000000 in
set_option maxRecDepth 100000 in
theorem mm_X11_sentence {G : z_Gt} (hSK : z_SK (z_S G)) (l : Launch) (ad : Nat → Nat) (o0 : Nat) (h : z_T) {r0 : Int32} {h9 : z_T} (hv : fX11_sentence o0 h = some (r0, h9)) : z_Mi G (z_S G) l yX11_sentence cX11_sentence 3 (.int) rm_X11_sentence 4 125 [.ref (ad o0)] ad h h9 r0 := by
  refine z_ofW hSK (by decide) (Nat.le_of_ble_eq_true rfl) ?_
  intro p e s m args below meth c ls hc hr hnm hB hl
  have hx := hc.1.1
  have hb := hc.1.2.1
  have hown := hc.1.2.2.2.1
  have hts := hc.1.2.2.2.2
  replace hc : z_C G (z_S G) ad (z_n h) p m c cX11_sentence 3 s args RX11 meth := hc
  replace hown : s.vm.findClass RX11 = some m.cls := hown
  replace hl : lv_has ls 3 [(0, .ref (ad o0))] := hl
  show W p l e rm_X11_sentence s m args below meth c s.heap [] 0 0 (MQ below (z_Qi G ad h9 (z_n h) s.heap.size r0) args s 4 125 (z_A ad (z_n h) s.heap.size)) (F0 m 0 ls [])
  obtain ⟨rs, kt⟩ : ∃ rs : Int32 × z_T, rs = (r0, h9) := ⟨_, rfl⟩
  generalize hn0 : z_n h = n0 at hc hB ⊢
  rw [← kt] at hv
  obtain ⟨ob1, eob1, hv⟩ := y_nm_e hv
  obtain ⟨h2, eh2, hv⟩ := y_nm_e hv
  refine z_new hc hB 7 eh2 (by decide) qlX11_296 qi_DreamTests_Sentence qn_RX7 (Nat.le_of_ble_eq_true rfl) (Nat.le_of_ble_eq_true rfl) dX11_sentence_0 (fun H hB => ?_)
  rw [← eob1]
  have g3 : z_ok h2 ob1 7 = true := by rw [eh2, eob1]; exact z_al_ok
  refine lv_dup hx hb dX11_sentence_3 rfl ?_
  obtain ⟨h5, c4, hv⟩ := y_bi_e hv
  refine z_thV hc hB (z_runIN (rest := [.ref (ad ob1)]) hc hB (mm_X7_init hSK l ad ob1 h2 c4) md_X7_init qmX11_298 rfl rfl ⟨Nat.le_of_ble_eq_true rfl, Nat.le_of_ble_eq_true rfl⟩ rfl hl.1 rfl (Nat.le_of_ble_eq_true rfl) dX11_sentence_4 ⟨Nat.le_of_ble_eq_true rfl, Nat.le_of_ble_eq_true rfl⟩) (fun H locs hB => ?_)
  refine lv_astore_n (lv' := [(1, .ref (ad ob1)), (0, .ref (ad o0))]) hx hb dX11_sentence_7 rfl hl (by decide) rfl (fun ls hl => ?_)
  refine lv_aload_n hx hb dX11_sentence_8 rfl (lv_at hl 1 rfl) ?_
  obtain ⟨g6, hv⟩ := y_gd_e hv
  obtain ⟨ob7, eob7, hv⟩ := y_bi_e hv
  refine z_getR hc hB 10 2 g6 eob7 (by decide) (by decide) rfl (z_l1 hc qfX11_27) dX11_sentence_9 ?_
  refine lv_sipush (v := (200 : Int32)) hx hb dX11_sentence_12 (by decide) ?_
  obtain ⟨g10, hv⟩ := y_gd_e hv
  obtain ⟨h9, c8, hv⟩ := y_bi_e hv
  refine z_thV hc hB (z_runV (rest := []) hc hB 6 (mm_X6_open hSK l ad ob7 (200 : Int32) h5 c8) md_X6_open qmX11_84 g10 (by decide) rfl rfl rfl ⟨Nat.le_of_ble_eq_true rfl, Nat.le_of_ble_eq_true rfl⟩ rfl hl.1 rfl (Nat.le_of_ble_eq_true rfl) dX11_sentence_15 ⟨Nat.le_of_ble_eq_true rfl, Nat.le_of_ble_eq_true rfl⟩) (fun H locs hB => ?_)
  refine lv_aload_n hx hb dX11_sentence_18 rfl (lv_at hl 0 rfl) ?_
  refine lv_aload_n hx hb dX11_sentence_19 rfl (lv_at hl 1 rfl) ?_
  obtain ⟨g11, hv⟩ := y_gd_e hv
  obtain ⟨ob12, eob12, hv⟩ := y_bi_e hv
  refine z_getR hc hB 10 2 g11 eob12 (by decide) (by decide) rfl (z_l1 hc qfX11_27) dX11_sentence_20 ?_
  refine lv_aload_n hx hb dX11_sentence_23 rfl (lv_at hl 1 rfl) ?_
  obtain ⟨ob13, eob13, hv⟩ := y_bi_e hv
  refine z_getR hc hB 10 3 g11 eob13 (by decide) (by decide) rfl (z_l1 hc qfX11_36) dX11_sentence_24 ?_
  obtain ⟨g14, hv⟩ := y_gd_e hv
  obtain ⟨ob15, eob15, hv⟩ := y_bi_e hv
  refine z_getR hc hB 8 0 g14 eob15 (by decide) (by decide) rfl (z_l2 hc qfX11_106) dX11_sentence_27 ?_
  obtain ⟨g16, hv⟩ := y_gd_e hv
  obtain ⟨ob17, eob17, hv⟩ := y_bi_e hv
  refine z_getR hc hB 2 0 g16 eob17 (by decide) (by decide) rfl (z_l2 hc qfX11_109) dX11_sentence_30 ?_
  obtain ⟨g24, hv⟩ := y_gd_e hv
  obtain ⟨⟨r19, h23⟩, c18, hv⟩ := y_bi_e hv
  refine z_thI hc hB (z_runV (rest := []) hc hB 7 (mm_X7_readWhole hSK l ad ob1 ob12 ob17 h9 c18) md_X7_readWhole qmX11_299 g24 (by decide) rfl rfl rfl ⟨Nat.le_of_ble_eq_true rfl, Nat.le_of_ble_eq_true rfl⟩ rfl hl.1 rfl (Nat.le_of_ble_eq_true rfl) dX11_sentence_33 ⟨Nat.le_of_ble_eq_true rfl, Nat.le_of_ble_eq_true rfl⟩) (fun H locs hB => ?_)
  refine lv_istore_n (lv' := [(2, .int r19), (1, .ref (ad ob1)), (0, .ref (ad o0))]) hx hb dX11_sentence_36 rfl hl (by decide) rfl (fun ls hl => ?_)
  refine lv_aload_n hx hb dX11_sentence_37 rfl (lv_at hl 2 rfl) ?_
  obtain ⟨g25, hv⟩ := y_gd_e hv
  obtain ⟨ob26, eob26, hv⟩ := y_bi_e hv
  refine z_getR hc hB 10 0 g25 eob26 (by decide) (by decide) rfl (z_l1 hc qfX11_15) dX11_sentence_38 ?_
  refine lv_iconst (v := (0 : Int32)) hx hb dX11_sentence_41 (by decide) ?_
  obtain ⟨g27, hv⟩ := y_gd_e hv
  obtain ⟨h28, eh28, hv⟩ := y_nm_e hv
  refine y_putI hc hB 1 1 eh28 g27 (z_l2 hc qfX11_80) dX11_sentence_42 (by decide) (by decide) rfl rfl rfl rfl (fun H locs hB => ?_)
  refine lv_iload_n hx hb dX11_sentence_45 rfl (lv_at hl 0 rfl) ?_
  refine lv_if_ne (tgt := 59) hx hb dX11_sentence_46 (by decide) (fun c29 => ?_) (fun c29 => ?_)
  · replace hv := y_br_f hv c29
    refine lv_aload_n hx hb dX11_sentence_59 rfl (lv_at hl 2 rfl) ?_
    obtain ⟨ob30, eob30, hv⟩ := y_bi_e hv
    refine z_getR hc hB 10 3 (by rw [eh28]; exact g25) eob30 (by decide) (by decide) rfl (z_l1 hc qfX11_36) dX11_sentence_60 ?_
    refine lv_aload_n hx hb dX11_sentence_63 rfl (lv_at hl 1 rfl) ?_
    obtain ⟨g31, hv⟩ := y_gd_e hv
    obtain ⟨g32, hv⟩ := y_gd_e hv
    obtain ⟨h33, eh33, hv⟩ := y_nm_e hv
    refine z_putN hc hB 8 2 (r := (some ob1)) rfl (z_hrS (k := 7) g32) eh33 g31 (z_l2 hc qfX11_300) dX11_sentence_64 (by decide) (by decide) rfl rfl (fun r => by cases r <;> rfl) (fun r => by cases r <;> rfl) (fun H locs hB => ?_)
    refine lv_aload_n hx hb dX11_sentence_67 rfl (lv_at hl 1 rfl) ?_
    refine z_getI hc hB 7 4 (by rw [eh33]; exact g32) (by decide) (by decide) rfl (z_l2 hc qfX11_304) dX11_sentence_68 ?_
    replace hv := Option.some.inj hv
    subst hv
    obtain ⟨e1, e2⟩ := y_pr kt
    rw [← e1, ← e2]
    exact z_iret hc hB hr dX11_sentence_71
  · replace hv := y_br_t hv c29
    refine lv_iconst (v := (-1 : Int32)) hx hb dX11_sentence_49 (by decide) ?_
    refine lv_aload_n hx hb dX11_sentence_50 rfl (lv_at hl 2 rfl) ?_
    obtain ⟨ob34, eob34, hv⟩ := y_bi_e hv
    refine z_getR hc hB 10 2 (by rw [eh28]; exact g25) eob34 (by decide) (by decide) rfl (z_l1 hc qfX11_27) dX11_sentence_51 ?_
    obtain ⟨g35, hv⟩ := y_gd_e hv
    refine z_getI hc hB 6 3 g35 (by decide) (by decide) rfl (z_l2 hc qfX11_91) dX11_sentence_54 ?_
    refine lv_isub hx hb dX11_sentence_57 ?_
    replace hv := Option.some.inj hv
    subst hv
    obtain ⟨e1, e2⟩ := y_pr kt
    rw [← e1, ← e2]
    exact z_iret hc hB hr dX11_sentence_58
theorem dX11_nthOf_0 : decode cX11_nthOf 0 = .ok (.iconst 0, 1) := by decide +kernel
theorem dX11_nthOf_1 : decode cX11_nthOf 1 = .ok (.istore_n 2, 1) := by decide +kernel
theorem dX11_nthOf_2 : decode cX11_nthOf 2 = .ok (.iconst 0, 1) := by decide +kernel
theorem dX11_nthOf_3 : decode cX11_nthOf 3 = .ok (.istore_n 3, 1) := by decide +kernel
theorem dX11_nthOf_4 : decode cX11_nthOf 4 = .ok (.iload_n 3, 1) := by decide +kernel
theorem dX11_nthOf_5 : decode cX11_nthOf 5 = .ok (.bipush 8, 2) := by decide +kernel
theorem dX11_nthOf_7 : decode cX11_nthOf 7 = .ok (.if_icmp .ge 27, 3) := by decide +kernel
theorem dX11_nthOf_10 : decode cX11_nthOf 10 = .ok (.iload_n 0, 1) := by decide +kernel
theorem dX11_nthOf_11 : decode cX11_nthOf 11 = .ok (.iconst 1, 1) := by decide +kernel
theorem dX11_nthOf_12 : decode cX11_nthOf 12 = .ok (.iload_n 3, 1) := by decide +kernel
theorem dX11_nthOf_13 : decode cX11_nthOf 13 = .ok (.ishl, 1) := by decide +kernel
theorem dX11_nthOf_14 : decode cX11_nthOf 14 = .ok (.iand, 1) := by decide +kernel
theorem dX11_nthOf_15 : decode cX11_nthOf 15 = .ok (.ifCond .eq 13, 3) := by decide +kernel
theorem dX11_nthOf_18 : decode cX11_nthOf 18 = .ok (.iload_n 2, 1) := by decide +kernel
theorem dX11_nthOf_19 : decode cX11_nthOf 19 = .ok (.iload_n 1, 1) := by decide +kernel
theorem dX11_nthOf_20 : decode cX11_nthOf 20 = .ok (.if_icmp .ne 5, 3) := by decide +kernel
theorem dX11_nthOf_23 : decode cX11_nthOf 23 = .ok (.iload_n 3, 1) := by decide +kernel
theorem dX11_nthOf_24 : decode cX11_nthOf 24 = .ok (.ireturn, 1) := by decide +kernel
theorem dX11_nthOf_25 : decode cX11_nthOf 25 = .ok (.iinc 2 1, 3) := by decide +kernel
theorem dX11_nthOf_28 : decode cX11_nthOf 28 = .ok (.iinc 3 1, 3) := by decide +kernel
theorem dX11_nthOf_31 : decode cX11_nthOf 31 = .ok (.goto (-27), 3) := by decide +kernel
theorem dX11_nthOf_34 : decode cX11_nthOf 34 = .ok (.iconst (-1), 1) := by decide +kernel
theorem dX11_nthOf_35 : decode cX11_nthOf 35 = .ok (.ireturn, 1) := by decide +kernel
abbrev rm_X11_nthOf : Room := { frames := 0, cells := 0, slots := 0, locals := 0 }
noncomputable def fX11_nthOf_b28 (x0 : Int32) (x1 : Int32) (x2 : Int32) (x3 : Int32) : Option ((Int32 × Int32) ⊕ (Int32)) :=
  y_nm (x3 + 1) fun v1 =>
  some (.inl (x2, v1))
noncomputable def fX11_nthOf_b4_i (x0 : Int32) (x1 : Int32) (x2 : Int32) (x3 : Int32) : Option ((Int32 × Int32) ⊕ (Int32)) :=
  y_br ((8 : Int32) ≤ x3)
    (y_mp <|
    some (-1 : Int32))
    (y_br ((x0 &&& ((1 : Int32) <<< (x3 &&& 31))) = 0)
      (fX11_nthOf_b28 x0 x1 x2 x3)
      (y_br (x2 = x1)
        (y_mp <|
        some x3)
        (y_nm (x2 + 1) fun v6 =>
        fX11_nthOf_b28 x0 x1 v6 x3)))
noncomputable def fX11_nthOf_b4 (x0 : Int32) (x1 : Int32) (x2 : Int32) (x3 : Int32) : Option (Int32) := y_lp (fun q : Int32 × Int32 => fX11_nthOf_b4_i x0 x1 q.1 q.2) (x2, x3)
noncomputable def fX11_nthOf (x0 : Int32) (x1 : Int32) : Option (Int32) :=
  fX11_nthOf_b4 x0 x1 (0 : Int32) (0 : Int32)
set_option maxHeartbeats 4000000 in
set_option maxRecDepth 100000 in
theorem mm_X11_nthOf {G : z_Gt} (hSK : z_SK (z_S G)) (l : Launch) (ad : Nat → Nat) (x0 : Int32) (x1 : Int32) (h : z_T) {r0 : Int32} (hv : fX11_nthOf x0 x1 = some r0) : z_Mi G (z_S G) l yX11_nthOf cX11_nthOf 4 (.int) rm_X11_nthOf 0 0 [.int x0, .int x1] ad h h r0 := by
  refine z_ofW hSK (by decide) (Nat.le_of_ble_eq_true rfl) ?_
  intro p e s m args below meth c ls hc hr hnm hB hl
  have hx := hc.1.1
  have hb := hc.1.2.1
  have hown := hc.1.2.2.2.1
  have hts := hc.1.2.2.2.2
  replace hc : z_C G (z_S G) ad (z_n h) p m c cX11_nthOf 4 s args RX11 meth := hc
  replace hown : s.vm.findClass RX11 = some m.cls := hown
  replace hl : lv_has ls 4 [(0, .int x0), (1, .int x1)] := hl
  show W p l e rm_X11_nthOf s m args below meth c s.heap [] 0 0 (MQ below (z_Qi G ad h (z_n h) s.heap.size r0) args s 0 0 (z_A ad (z_n h) s.heap.size)) (F0 m 0 ls [])
  obtain ⟨rs, kt⟩ : ∃ rs : Int32, rs = r0 := ⟨_, rfl⟩
  generalize hn0 : z_n h = n0 at hc hB ⊢
  have L4 : ∀ (nn4 : Nat) (x2 : Int32) (x3 : Int32) (H : Heap) (locs : List Loc) (ls : Array Slot), z_B G ad n0 s h H locs → lv_has ls 4 [(0, .int x0), (1, .int x1), (2, .int x2), (3, .int x3)] → ∀ vv4, y_lpN (fun q : Int32 × Int32 => fX11_nthOf_b4_i x0 x1 q.1 q.2) nn4 (x2, x3) = some vv4 → vv4 = r0 → W p l e rm_X11_nthOf s m args below meth c H locs 0 0 (MQ below (z_Qi G ad h n0 s.heap.size r0) args s 0 0 (z_A ad n0 s.heap.size)) (F0 m 4 ls []) := by
    intro nn4
    induction nn4 with
    | zero => intro x2 x3 H locs ls hB hl vv4 hv kv4; exact absurd hv (fun q => y_lpN_0 q)
    | succ nn4 ih4 =>
      intro x2 x3 H locs ls hB hl vv4 hv kv4
      obtain ⟨w, hq, kw4⟩ := y_lpN_e hv
      clear hv
      have hv : fX11_nthOf_b4_i x0 x1 x2 x3 = some w := hq
      clear hq
      have b28 : ∀ (x2 : Int32) (x3 : Int32) (H : Heap) (locs : List Loc) (ls : Array Slot), z_B G ad n0 s h H locs → lv_has ls 4 [(0, .int x0), (1, .int x1), (2, .int x2), (3, .int x3)] → ∀ w, fX11_nthOf_b28 x0 x1 x2 x3 = some w → y_lq (fun q : Int32 × Int32 => fX11_nthOf_b4_i x0 x1 q.1 q.2) nn4 vv4 w → W p l e rm_X11_nthOf s m args below meth c H locs 0 0 (MQ below (z_Qi G ad h n0 s.heap.size r0) args s 0 0 (z_A ad n0 s.heap.size)) (F0 m 28 ls []) := by
        intro x2 x3 H locs ls hB hl w hv kw4
        obtain ⟨v1, ev1, hv⟩ := y_nm_e hv
        refine lv_iinc (v := v1) (lv' := [(3, .int v1), (0, .int x0), (1, .int x1), (2, .int x2)]) hx hb dX11_nthOf_28 hl (k := 3) rfl (by rw [ev1]; rfl) (by decide) rfl (fun ls hl => ?_)
        refine lv_goto (tgt := 4) hx hb dX11_nthOf_31 (by decide) ?_
        replace hv := Option.some.inj hv
        subst hv
        exact ih4 x2 v1 _ _ _ hB (lv_sub hl [1, 2, 3, 0] rfl) _ kw4 kv4
      refine lv_iload_n hx hb dX11_nthOf_4 rfl (lv_at hl 3 rfl) ?_
      refine lv_bipush (v := (8 : Int32)) hx hb dX11_nthOf_5 (by decide) ?_
      refine lv_icmp_ge (tgt := 34) hx hb dX11_nthOf_7 (by decide) (fun c2 => ?_) (fun c2 => ?_)
      · replace hv := y_br_t hv c2
        obtain ⟨t3, hq, ew⟩ := y_mp_e hv
        clear hv; subst ew
        replace kw4 : t3 = _ := kw4
        subst kw4
        have hv := hq
        clear hq
        refine lv_iconst (v := (-1 : Int32)) hx hb dX11_nthOf_34 (by decide) ?_
        replace hv := Option.some.inj hv
        subst hv
        rw [← kv4]
        exact z_iret hc hB hr dX11_nthOf_35
      · replace hv := y_br_f hv c2
        refine lv_iload_n hx hb dX11_nthOf_10 rfl (lv_at hl 0 rfl) ?_
        refine lv_iconst (v := (1 : Int32)) hx hb dX11_nthOf_11 (by decide) ?_
        refine lv_iload_n hx hb dX11_nthOf_12 rfl (lv_at hl 3 rfl) ?_
        refine lv_ishl hx hb dX11_nthOf_13 ?_
        refine lv_iand hx hb dX11_nthOf_14 ?_
        refine lv_if_eq (tgt := 28) hx hb dX11_nthOf_15 (by decide) (fun c4 => ?_) (fun c4 => ?_)
        · replace hv := y_br_t hv c4
          exact b28 x2 x3 _ _ _ hB (lv_sub hl [0, 1, 2, 3] rfl) _ hv kw4
        · replace hv := y_br_f hv c4
          refine lv_iload_n hx hb dX11_nthOf_18 rfl (lv_at hl 2 rfl) ?_
          refine lv_iload_n hx hb dX11_nthOf_19 rfl (lv_at hl 1 rfl) ?_
          refine lv_icmp_ne (tgt := 25) hx hb dX11_nthOf_20 (by decide) (fun c5 => ?_) (fun c5 => ?_)
          · replace hv := y_br_f hv c5
            obtain ⟨v6, ev6, hv⟩ := y_nm_e hv
            refine lv_iinc (v := v6) (lv' := [(2, .int v6), (0, .int x0), (1, .int x1), (3, .int x3)]) hx hb dX11_nthOf_25 hl (k := 2) rfl (by rw [ev6]; rfl) (by decide) rfl (fun ls hl => ?_)
            exact b28 v6 x3 _ _ _ hB (lv_sub hl [1, 2, 0, 3] rfl) _ hv kw4
          · replace hv := y_br_t hv c5
            obtain ⟨t7, hq, ew⟩ := y_mp_e hv
            clear hv; subst ew
            replace kw4 : t7 = _ := kw4
            subst kw4
            have hv := hq
            clear hq
            refine lv_iload_n hx hb dX11_nthOf_23 rfl (lv_at hl 3 rfl) ?_
            replace hv := Option.some.inj hv
            subst hv
            rw [← kv4]
            exact z_iret hc hB hr dX11_nthOf_24
  rw [← kt] at hv
  refine lv_iconst (v := (0 : Int32)) hx hb dX11_nthOf_0 (by decide) ?_
  refine lv_istore_n (lv' := [(2, .int (0 : Int32)), (0, .int x0), (1, .int x1)]) hx hb dX11_nthOf_1 rfl hl (by decide) rfl (fun ls hl => ?_)
  refine lv_iconst (v := (0 : Int32)) hx hb dX11_nthOf_2 (by decide) ?_
  refine lv_istore_n (lv' := [(3, .int (0 : Int32)), (2, .int (0 : Int32)), (0, .int x0), (1, .int x1)]) hx hb dX11_nthOf_3 rfl hl (by decide) rfl (fun ls hl => ?_)
  obtain ⟨n, hv⟩ := y_lp_e hv
  exact L4 n (0 : Int32) (0 : Int32) _ _ _ hB (lv_sub hl [2, 3, 1, 0] rfl) _ hv kt
theorem qmX11_307 : Cond.methodLink RX11 307 yX7_testsOf ∈ z_ws := List.mem_filter.mpr ⟨List.mem_append_right _ (List.mem_of_getElem? (i := 1040) (by decide +kernel)), rfl⟩
theorem qc_X7_testsOf : Cond.code yX7_testsOf cX7_testsOf 5 (some .int) ∈ z_ws := List.mem_filter.mpr ⟨List.mem_append_right _ (List.mem_of_getElem? (i := 1043) (by decide +kernel)), rfl⟩
theorem qi_X7_testsOf : Cond.instanceMethod yX7_testsOf ∈ z_ws := List.mem_filter.mpr ⟨List.mem_append_right _ (List.mem_of_getElem? (i := 1041) (by decide +kernel)), rfl⟩
theorem qs_X7_testsOf : Cond.selects RX7 yX7_testsOf yX7_testsOf ∈ z_ws := List.mem_filter.mpr ⟨List.mem_append_right _ (List.mem_of_getElem? (i := 1042) (by decide +kernel)), rfl⟩
theorem md_X7_testsOf : z_mdV yX7_testsOf cX7_testsOf 5 (some .int) 1 := ⟨⟨qn_RX7, qc_X7_testsOf, ⟨by decide +kernel, by decide +kernel, by decide +kernel⟩⟩, qi_X7_testsOf, qs_X7_testsOf⟩
theorem qmX11_310 : Cond.methodLink RX11 310 yX11_nthOf ∈ z_ws := List.mem_filter.mpr ⟨List.mem_append_right _ (List.mem_of_getElem? (i := 1048) (by decide +kernel)), rfl⟩
theorem qc_X11_nthOf : Cond.code yX11_nthOf cX11_nthOf 4 (some .int) ∈ z_ws := List.mem_filter.mpr ⟨List.mem_append_right _ (List.mem_of_getElem? (i := 1050) (by decide +kernel)), rfl⟩
theorem qs_X11_nthOf : Cond.static yX11_nthOf ∈ z_ws := List.mem_filter.mpr ⟨List.mem_append_right _ (List.mem_of_getElem? (i := 1049) (by decide +kernel)), rfl⟩
theorem md_X11_nthOf : z_mdS yX11_nthOf cX11_nthOf 4 (some .int) 2 := ⟨⟨qn_RX11, qc_X11_nthOf, ⟨by decide +kernel, by decide +kernel, by decide +kernel⟩⟩, qs_X11_nthOf⟩
theorem dX11_said_0 : decode cX11_said 0 = .ok (.aload_n 0, 1) := by decide +kernel
theorem dX11_said_1 : decode cX11_said 1 = .ok (.getfield 36, 3) := by decide +kernel
theorem dX11_said_4 : decode cX11_said 4 = .ok (.getfield 300, 3) := by decide +kernel
theorem dX11_said_7 : decode cX11_said 7 = .ok (.astore_n 2, 1) := by decide +kernel
theorem dX11_said_8 : decode cX11_said 8 = .ok (.aload_n 2, 1) := by decide +kernel
theorem dX11_said_9 : decode cX11_said 9 = .ok (.ifnull 8, 3) := by decide +kernel
theorem dX11_said_12 : decode cX11_said 12 = .ok (.iload_n 1, 1) := by decide +kernel
theorem dX11_said_13 : decode cX11_said 13 = .ok (.iconst (-1), 1) := by decide +kernel
theorem dX11_said_14 : decode cX11_said 14 = .ok (.if_icmp .ge 5, 3) := by decide +kernel
theorem dX11_said_17 : decode cX11_said 17 = .ok (.iconst (-1), 1) := by decide +kernel
theorem dX11_said_18 : decode cX11_said 18 = .ok (.ireturn, 1) := by decide +kernel
theorem dX11_said_19 : decode cX11_said 19 = .ok (.aload_n 2, 1) := by decide +kernel
theorem dX11_said_20 : decode cX11_said 20 = .ok (.aload_n 0, 1) := by decide +kernel
theorem dX11_said_21 : decode cX11_said 21 = .ok (.getfield 36, 3) := by decide +kernel
theorem dX11_said_24 : decode cX11_said 24 = .ok (.getfield 106, 3) := by decide +kernel
theorem dX11_said_27 : decode cX11_said 27 = .ok (.invokevirtual 307, 3) := by decide +kernel
theorem dX11_said_30 : decode cX11_said 30 = .ok (.istore_n 3, 1) := by decide +kernel
theorem dX11_said_31 : decode cX11_said 31 = .ok (.iload_n 1, 1) := by decide +kernel
theorem dX11_said_32 : decode cX11_said 32 = .ok (.iconst (-1), 1) := by decide +kernel
theorem dX11_said_33 : decode cX11_said 33 = .ok (.if_icmp .ne 10, 3) := by decide +kernel
theorem dX11_said_36 : decode cX11_said 36 = .ok (.iload_n 3, 1) := by decide +kernel
theorem dX11_said_37 : decode cX11_said 37 = .ok (.invokestatic 197, 3) := by decide +kernel
theorem dX11_said_40 : decode cX11_said 40 = .ok (.goto 8, 3) := by decide +kernel
theorem dX11_said_43 : decode cX11_said 43 = .ok (.iload_n 3, 1) := by decide +kernel
theorem dX11_said_44 : decode cX11_said 44 = .ok (.iload_n 1, 1) := by decide +kernel
theorem dX11_said_45 : decode cX11_said 45 = .ok (.invokestatic 310, 3) := by decide +kernel
theorem dX11_said_48 : decode cX11_said 48 = .ok (.ireturn, 1) := by decide +kernel
abbrev rm_X11_said : Room := { frames := 3, cells := 0, slots := 0, locals := 67 }
noncomputable def fX11_said (o0 : Nat) (x1 : Int32) (h : z_T) : Option (Int32 × z_T) :=
  y_gd (z_ok h o0 10) <|
  y_bi (z_R h o0 3) fun ob2 =>
  y_gd (z_ok h ob2 8) <|
  y_op (z_R h ob2 2)
    (some ((-1 : Int32), h))
    (fun ob4 =>
    y_br ((-1 : Int32) ≤ x1)
      (y_bi (z_R h ob2 0) fun ob6 =>
      y_gd (z_ok h ob4 7) <|
      y_bi (fX7_testsOf ob4 ob6 h) fun ⟨r8, h12⟩ =>
      y_br (x1 = (-1 : Int32))
        (y_bi (fJ6_bitCount_0f7a4 r8) fun r21 =>
        some (r21, h12))
        (y_bi (fX11_nthOf r8 x1) fun r16 =>
        some (r16, h12)))
      (some ((-1 : Int32), h)))
set_option maxHeartbeats 4000000 in
set_option maxRecDepth 100000 in
theorem mm_X11_said {G : z_Gt} (hSK : z_SK (z_S G)) (l : Launch) (ad : Nat → Nat) (o0 : Nat) (x1 : Int32) (h : z_T) {r0 : Int32} {h9 : z_T} (hv : fX11_said o0 x1 h = some (r0, h9)) : z_Mi G (z_S G) l yX11_said cX11_said 4 (.int) rm_X11_said 0 0 [.ref (ad o0), .int x1] ad h h9 r0 := by
  refine z_ofW hSK (by decide) (Nat.le_of_ble_eq_true rfl) ?_
  intro p e s m args below meth c ls hc hr hnm hB hl
  have hx := hc.1.1
  have hb := hc.1.2.1
  have hown := hc.1.2.2.2.1
  have hts := hc.1.2.2.2.2
  replace hc : z_C G (z_S G) ad (z_n h) p m c cX11_said 4 s args RX11 meth := hc
  replace hown : s.vm.findClass RX11 = some m.cls := hown
  replace hl : lv_has ls 4 [(0, .ref (ad o0)), (1, .int x1)] := hl
  show W p l e rm_X11_said s m args below meth c s.heap [] 0 0 (MQ below (z_Qi G ad h9 (z_n h) s.heap.size r0) args s 0 0 (z_A ad (z_n h) s.heap.size)) (F0 m 0 ls [])
  obtain ⟨rs, kt⟩ : ∃ rs : Int32 × z_T, rs = (r0, h9) := ⟨_, rfl⟩
  generalize hn0 : z_n h = n0 at hc hB ⊢
  rw [← kt] at hv
  refine lv_aload_n hx hb dX11_said_0 rfl (lv_at hl 0 rfl) ?_
  obtain ⟨g1, hv⟩ := y_gd_e hv
  obtain ⟨ob2, eob2, hv⟩ := y_bi_e hv
  refine z_getR hc hB 10 3 g1 eob2 (by decide) (by decide) rfl (z_l1 hc qfX11_36) dX11_said_1 ?_
  obtain ⟨g3, hv⟩ := y_gd_e hv
  rcases y_op_e hv with ⟨eo, hv⟩ | ⟨ob4, eo, hv⟩
  · refine z_getN hc hB 8 2 g3 eo (by decide) (by decide) rfl (z_l2 hc qfX11_300) dX11_said_4 ?_
    refine lv_astore_nN (lv' := [(2, .null), (0, .ref (ad o0)), (1, .int x1)]) hx hb dX11_said_7 rfl hl (by decide) rfl (fun ls hl => ?_)
    refine lv_aload_nN hx hb dX11_said_8 rfl (lv_at hl 0 rfl) ?_
    refine lv_ifnullN (tgt := 17) hx hb dX11_said_9 (by decide) ?_
    refine lv_iconst (v := (-1 : Int32)) hx hb dX11_said_17 (by decide) ?_
    replace hv := Option.some.inj hv
    subst hv
    obtain ⟨e1, e2⟩ := y_pr kt
    rw [← e1, ← e2]
    exact z_iret hc hB hr dX11_said_18
  · refine z_getR hc hB 8 2 g3 eo (by decide) (by decide) rfl (z_l2 hc qfX11_300) dX11_said_4 ?_
    refine lv_astore_n (lv' := [(2, .ref (ad ob4)), (0, .ref (ad o0)), (1, .int x1)]) hx hb dX11_said_7 rfl hl (by decide) rfl (fun ls hl => ?_)
    refine lv_aload_n hx hb dX11_said_8 rfl (lv_at hl 0 rfl) ?_
    refine lv_ifnull hx hb dX11_said_9 ?_
    refine lv_iload_n hx hb dX11_said_12 rfl (lv_at hl 2 rfl) ?_
    refine lv_iconst (v := (-1 : Int32)) hx hb dX11_said_13 (by decide) ?_
    refine lv_icmp_ge (tgt := 19) hx hb dX11_said_14 (by decide) (fun c5 => ?_) (fun c5 => ?_)
    · replace hv := y_br_t hv c5
      refine lv_aload_n hx hb dX11_said_19 rfl (lv_at hl 0 rfl) ?_
      refine lv_aload_n hx hb dX11_said_20 rfl (lv_at hl 1 rfl) ?_
      refine z_getR hc hB 10 3 g1 eob2 (by decide) (by decide) rfl (z_l1 hc qfX11_36) dX11_said_21 ?_
      obtain ⟨ob6, eob6, hv⟩ := y_bi_e hv
      refine z_getR hc hB 8 0 g3 eob6 (by decide) (by decide) rfl (z_l2 hc qfX11_106) dX11_said_24 ?_
      obtain ⟨g13, hv⟩ := y_gd_e hv
      obtain ⟨⟨r8, h12⟩, c7, hv⟩ := y_bi_e hv
      refine z_thI hc hB (z_runV hc hB 7 (mm_X7_testsOf hSK l ad ob4 ob6 h c7) md_X7_testsOf qmX11_307 g13 (by decide) rfl rfl rfl ⟨Nat.le_of_ble_eq_true rfl, Nat.le_of_ble_eq_true rfl⟩ rfl hl.1 rfl (Nat.le_of_ble_eq_true rfl) dX11_said_27 ⟨Nat.le_of_ble_eq_true rfl, Nat.le_of_ble_eq_true rfl⟩) (fun H locs hB => ?_)
      refine lv_istore_n (lv' := [(3, .int r8), (2, .ref (ad ob4)), (0, .ref (ad o0)), (1, .int x1)]) hx hb dX11_said_30 rfl hl (by decide) rfl (fun ls hl => ?_)
      refine lv_iload_n hx hb dX11_said_31 rfl (lv_at hl 3 rfl) ?_
      refine lv_iconst (v := (-1 : Int32)) hx hb dX11_said_32 (by decide) ?_
      refine lv_icmp_ne (tgt := 43) hx hb dX11_said_33 (by decide) (fun c14 => ?_) (fun c14 => ?_)
      · replace hv := y_br_f hv c14
        refine lv_iload_n hx hb dX11_said_43 rfl (lv_at hl 0 rfl) ?_
        refine lv_iload_n hx hb dX11_said_44 rfl (lv_at hl 3 rfl) ?_
        obtain ⟨r16, c15, hv⟩ := y_bi_e hv
        refine z_thI hc hB (z_runS hc hB (mm_X11_nthOf hSK l ad r8 x1 h12 c15) md_X11_nthOf qmX11_310 rfl rfl ⟨Nat.le_of_ble_eq_true rfl, Nat.le_of_ble_eq_true rfl⟩ rfl hl.1 rfl (Nat.le_of_ble_eq_true rfl) dX11_said_45 ⟨Nat.le_of_ble_eq_true rfl, Nat.le_of_ble_eq_true rfl⟩) (fun H locs hB => ?_)
        replace hv := Option.some.inj hv
        subst hv
        obtain ⟨e1, e2⟩ := y_pr kt
        rw [← e1, ← e2]
        exact z_iret hc hB hr dX11_said_48
      · replace hv := y_br_t hv c14
        refine lv_iload_n hx hb dX11_said_36 rfl (lv_at hl 0 rfl) ?_
        obtain ⟨r21, c20, hv⟩ := y_bi_e hv
        refine z_thI hc hB (z_runS hc hB (mm_J6_bitCount_0f7a4 hSK l ad r8 h12 c20) md_J6_bitCount_0f7a4 qmX11_197 rfl rfl ⟨Nat.le_of_ble_eq_true rfl, Nat.le_of_ble_eq_true rfl⟩ rfl hl.1 rfl (Nat.le_of_ble_eq_true rfl) dX11_said_37 ⟨Nat.le_of_ble_eq_true rfl, Nat.le_of_ble_eq_true rfl⟩) (fun H locs hB => ?_)
        refine lv_goto (tgt := 48) hx hb dX11_said_40 (by decide) ?_
        replace hv := Option.some.inj hv
        subst hv
        obtain ⟨e1, e2⟩ := y_pr kt
        rw [← e1, ← e2]
        exact z_iret hc hB hr dX11_said_48
    · replace hv := y_br_f hv c5
      refine lv_iconst (v := (-1 : Int32)) hx hb dX11_said_17 (by decide) ?_
      replace hv := Option.some.inj hv
      subst hv
      obtain ⟨e1, e2⟩ := y_pr kt
      rw [← e1, ← e2]
      exact z_iret hc hB hr dX11_said_18
theorem qfX11_40 : Cond.fieldLink RX11 40 "DreamTests" "images" "[LDreamTests$State;" ∈ z_ws := List.mem_filter.mpr ⟨List.mem_append_right _ (List.mem_of_getElem? (i := 291) (by decide +kernel)), rfl⟩
theorem qmX11_313 : Cond.methodLink RX11 313 yX8_copy ∈ z_ws := List.mem_filter.mpr ⟨List.mem_append_right _ (List.mem_of_getElem? (i := 1055) (by decide +kernel)), rfl⟩
theorem qc_X8_copy : Cond.code yX8_copy cX8_copy 2 none ∈ z_ws := List.mem_filter.mpr ⟨List.mem_append_right _ (List.mem_of_getElem? (i := 1058) (by decide +kernel)), rfl⟩
theorem qi_X8_copy : Cond.instanceMethod yX8_copy ∈ z_ws := List.mem_filter.mpr ⟨List.mem_append_right _ (List.mem_of_getElem? (i := 1056) (by decide +kernel)), rfl⟩
theorem qs_X8_copy : Cond.selects RX8 yX8_copy yX8_copy ∈ z_ws := List.mem_filter.mpr ⟨List.mem_append_right _ (List.mem_of_getElem? (i := 1057) (by decide +kernel)), rfl⟩
theorem md_X8_copy : z_mdV yX8_copy cX8_copy 2 none 1 := ⟨⟨qn_RX8, qc_X8_copy, ⟨by decide +kernel, by decide +kernel, by decide +kernel⟩⟩, qi_X8_copy, qs_X8_copy⟩
theorem qfX11_317 : Cond.fieldLinkNest RX11 317 "DreamTests$State" "kept" "Z" "DreamTests" ∈ z_nw := List.mem_filter.mpr ⟨List.mem_of_getElem? (i := 192) (by decide +kernel), rfl⟩
theorem dX11_image_0 : decode cX11_image 0 = .ok (.iload_n 1, 1) := by decide +kernel
theorem dX11_image_1 : decode cX11_image 1 = .ok (.ifCond .lt 12, 3) := by decide +kernel
theorem dX11_image_4 : decode cX11_image 4 = .ok (.iload_n 1, 1) := by decide +kernel
theorem dX11_image_5 : decode cX11_image 5 = .ok (.aload_n 0, 1) := by decide +kernel
theorem dX11_image_6 : decode cX11_image 6 = .ok (.getfield 40, 3) := by decide +kernel
theorem dX11_image_9 : decode cX11_image 9 = .ok (.arraylength, 1) := by decide +kernel
theorem dX11_image_10 : decode cX11_image 10 = .ok (.if_icmp .lt 5, 3) := by decide +kernel
theorem dX11_image_13 : decode cX11_image 13 = .ok (.iconst 0, 1) := by decide +kernel
theorem dX11_image_14 : decode cX11_image 14 = .ok (.ireturn, 1) := by decide +kernel
theorem dX11_image_15 : decode cX11_image 15 = .ok (.aload_n 0, 1) := by decide +kernel
theorem dX11_image_16 : decode cX11_image 16 = .ok (.getfield 40, 3) := by decide +kernel
theorem dX11_image_19 : decode cX11_image 19 = .ok (.iload_n 1, 1) := by decide +kernel
theorem dX11_image_20 : decode cX11_image 20 = .ok (.aaload, 1) := by decide +kernel
theorem dX11_image_21 : decode cX11_image 21 = .ok (.aload_n 0, 1) := by decide +kernel
theorem dX11_image_22 : decode cX11_image 22 = .ok (.getfield 36, 3) := by decide +kernel
theorem dX11_image_25 : decode cX11_image 25 = .ok (.invokevirtual 313, 3) := by decide +kernel
theorem dX11_image_28 : decode cX11_image 28 = .ok (.aload_n 0, 1) := by decide +kernel
theorem dX11_image_29 : decode cX11_image 29 = .ok (.getfield 40, 3) := by decide +kernel
theorem dX11_image_32 : decode cX11_image 32 = .ok (.iload_n 1, 1) := by decide +kernel
theorem dX11_image_33 : decode cX11_image 33 = .ok (.aaload, 1) := by decide +kernel
theorem dX11_image_34 : decode cX11_image 34 = .ok (.iconst 1, 1) := by decide +kernel
theorem dX11_image_35 : decode cX11_image 35 = .ok (.putfield 317, 3) := by decide +kernel
theorem dX11_image_38 : decode cX11_image 38 = .ok (.iconst 1, 1) := by decide +kernel
theorem dX11_image_39 : decode cX11_image 39 = .ok (.ireturn, 1) := by decide +kernel
abbrev rm_X11_image : Room := { frames := 3, cells := 0, slots := 0, locals := 102 }
noncomputable def fX11_image (o0 : Nat) (x1 : Int32) (h : z_T) : Option (Int32 × z_T) :=
  y_br (x1 < 0)
    (some ((0 : Int32), h))
    (y_gd (z_ok h o0 10) <|
    y_bi (z_R h o0 4) fun o3 =>
    y_gd (z_ok h o3 17) <|
    y_br (x1 < (nI (z_N h o3)))
      (y_gd (z_ix x1 (z_N h o3)) <|
      y_bi (z_R h o3 x1.toNatClampNeg) fun o7 =>
      y_bi (z_R h o0 3) fun o8 =>
      y_gd (z_ok h o7 8) <|
      y_bi (fX8_copy o7 o8 h) fun h10 =>
      y_gd (z_ok h10 o0 10) <|
      y_bi (z_R h10 o0 4) fun o13 =>
      y_gd (z_ok h10 o13 17) <|
      y_gd (z_ix x1 (z_N h10 o13)) <|
      y_bi (z_R h10 o13 x1.toNatClampNeg) fun o16 =>
      y_gd (z_ok h10 o16 8) <|
      y_nm (z_sI h10 o16 3 (1 : Int32)) fun h18 =>
      some ((1 : Int32), h18))
      (some ((0 : Int32), h)))
set_option maxHeartbeats 4000000 in
set_option maxRecDepth 100000 in
theorem mm_X11_image {G : z_Gt} (hSK : z_SK (z_S G)) (l : Launch) (ad : Nat → Nat) (o0 : Nat) (x1 : Int32) (h : z_T) {r0 : Int32} {h9 : z_T} (hv : fX11_image o0 x1 h = some (r0, h9)) : z_Mi G (z_S G) l yX11_image cX11_image 2 (.boolean) rm_X11_image 0 0 [.ref (ad o0), .int x1] ad h h9 r0 := by
  refine z_ofW hSK (by decide) (Nat.le_of_ble_eq_true rfl) ?_
  intro p e s m args below meth c ls hc hr hnm hB hl
  have hx := hc.1.1
  have hb := hc.1.2.1
  have hown := hc.1.2.2.2.1
  have hts := hc.1.2.2.2.2
  replace hc : z_C G (z_S G) ad (z_n h) p m c cX11_image 2 s args RX11 meth := hc
  replace hown : s.vm.findClass RX11 = some m.cls := hown
  replace hl : lv_has ls 2 [(0, .ref (ad o0)), (1, .int x1)] := hl
  show W p l e rm_X11_image s m args below meth c s.heap [] 0 0 (MQ below (z_Qi G ad h9 (z_n h) s.heap.size r0) args s 0 0 (z_A ad (z_n h) s.heap.size)) (F0 m 0 ls [])
  obtain ⟨rs, kt⟩ : ∃ rs : Int32 × z_T, rs = (r0, h9) := ⟨_, rfl⟩
  generalize hn0 : z_n h = n0 at hc hB ⊢
  rw [← kt] at hv
  refine lv_iload_n hx hb dX11_image_0 rfl (lv_at hl 1 rfl) ?_
  refine lv_if_lt (tgt := 13) hx hb dX11_image_1 (by decide) (fun c1 => ?_) (fun c1 => ?_)
  · replace hv := y_br_t hv c1
    refine lv_iconst (v := (0 : Int32)) hx hb dX11_image_13 (by decide) ?_
    replace hv := Option.some.inj hv
    subst hv
    obtain ⟨e1, e2⟩ := y_pr kt
    rw [← e1, ← e2]
    exact z_zret hc hB hr rfl dX11_image_14
  · replace hv := y_br_f hv c1
    refine lv_iload_n hx hb dX11_image_4 rfl (lv_at hl 1 rfl) ?_
    refine lv_aload_n hx hb dX11_image_5 rfl (lv_at hl 0 rfl) ?_
    obtain ⟨g2, hv⟩ := y_gd_e hv
    obtain ⟨o3, eo3, hv⟩ := y_bi_e hv
    refine z_getR hc hB 10 4 g2 eo3 (by decide) (by decide) rfl (z_l1 hc qfX11_40) dX11_image_6 ?_
    obtain ⟨g4, hv⟩ := y_gd_e hv
    refine z_alen hc hB 17 (by decide) (by decide) g4 dX11_image_9 ?_
    refine lv_icmp_lt (tgt := 15) hx hb dX11_image_10 (by decide) (fun c5 => ?_) (fun c5 => ?_)
    · replace hv := y_br_t hv c5
      refine lv_aload_n hx hb dX11_image_15 rfl (lv_at hl 0 rfl) ?_
      refine z_getR hc hB 10 4 g2 eo3 (by decide) (by decide) rfl (z_l1 hc qfX11_40) dX11_image_16 ?_
      refine lv_iload_n hx hb dX11_image_19 rfl (lv_at hl 1 rfl) ?_
      obtain ⟨i6, hv⟩ := y_gd_e hv
      obtain ⟨o7, eo7, hv⟩ := y_bi_e hv
      refine z_aald hc hB 17 (by decide) (by decide) rfl g4 i6 eo7 dX11_image_20 ?_
      refine lv_aload_n hx hb dX11_image_21 rfl (lv_at hl 0 rfl) ?_
      obtain ⟨o8, eo8, hv⟩ := y_bi_e hv
      refine z_getR hc hB 10 3 g2 eo8 (by decide) (by decide) rfl (z_l1 hc qfX11_36) dX11_image_22 ?_
      obtain ⟨g11, hv⟩ := y_gd_e hv
      obtain ⟨h10, c9, hv⟩ := y_bi_e hv
      refine z_thV hc hB (z_runV hc hB 8 (mm_X8_copy hSK l ad o7 o8 h c9) md_X8_copy qmX11_313 g11 (by decide) rfl rfl rfl ⟨Nat.le_of_ble_eq_true rfl, Nat.le_of_ble_eq_true rfl⟩ rfl hl.1 rfl (Nat.le_of_ble_eq_true rfl) dX11_image_25 ⟨Nat.le_of_ble_eq_true rfl, Nat.le_of_ble_eq_true rfl⟩) (fun H locs hB => ?_)
      refine lv_aload_n hx hb dX11_image_28 rfl (lv_at hl 0 rfl) ?_
      obtain ⟨g12, hv⟩ := y_gd_e hv
      obtain ⟨o13, eo13, hv⟩ := y_bi_e hv
      refine z_getR hc hB 10 4 g12 eo13 (by decide) (by decide) rfl (z_l1 hc qfX11_40) dX11_image_29 ?_
      refine lv_iload_n hx hb dX11_image_32 rfl (lv_at hl 1 rfl) ?_
      obtain ⟨g14, hv⟩ := y_gd_e hv
      obtain ⟨i15, hv⟩ := y_gd_e hv
      obtain ⟨o16, eo16, hv⟩ := y_bi_e hv
      refine z_aald hc hB 17 (by decide) (by decide) rfl g14 i15 eo16 dX11_image_33 ?_
      refine lv_iconst (v := (1 : Int32)) hx hb dX11_image_34 (by decide) ?_
      obtain ⟨g17, hv⟩ := y_gd_e hv
      obtain ⟨h18, eh18, hv⟩ := y_nm_e hv
      refine y_putI hc hB 8 3 eh18 g17 (z_l2 hc qfX11_317) dX11_image_35 (by decide) (by decide) rfl rfl rfl rfl (fun H locs hB => ?_)
      refine lv_iconst (v := (1 : Int32)) hx hb dX11_image_38 (by decide) ?_
      replace hv := Option.some.inj hv
      subst hv
      obtain ⟨e1, e2⟩ := y_pr kt
      rw [← e1, ← e2]
      exact z_zret hc hB hr rfl dX11_image_39
    · replace hv := y_br_f hv c5
      refine lv_iconst (v := (0 : Int32)) hx hb dX11_image_13 (by decide) ?_
      replace hv := Option.some.inj hv
      subst hv
      obtain ⟨e1, e2⟩ := y_pr kt
      rw [← e1, ← e2]
      exact z_zret hc hB hr rfl dX11_image_14
theorem dX11_restore_0 : decode cX11_restore 0 = .ok (.iload_n 1, 1) := by decide +kernel
theorem dX11_restore_1 : decode cX11_restore 1 = .ok (.ifCond .lt 24, 3) := by decide +kernel
theorem dX11_restore_4 : decode cX11_restore 4 = .ok (.iload_n 1, 1) := by decide +kernel
theorem dX11_restore_5 : decode cX11_restore 5 = .ok (.aload_n 0, 1) := by decide +kernel
theorem dX11_restore_6 : decode cX11_restore 6 = .ok (.getfield 40, 3) := by decide +kernel
theorem dX11_restore_9 : decode cX11_restore 9 = .ok (.arraylength, 1) := by decide +kernel
theorem dX11_restore_10 : decode cX11_restore 10 = .ok (.if_icmp .ge 15, 3) := by decide +kernel
theorem dX11_restore_13 : decode cX11_restore 13 = .ok (.aload_n 0, 1) := by decide +kernel
theorem dX11_restore_14 : decode cX11_restore 14 = .ok (.getfield 40, 3) := by decide +kernel
theorem dX11_restore_17 : decode cX11_restore 17 = .ok (.iload_n 1, 1) := by decide +kernel
theorem dX11_restore_18 : decode cX11_restore 18 = .ok (.aaload, 1) := by decide +kernel
theorem dX11_restore_19 : decode cX11_restore 19 = .ok (.getfield 317, 3) := by decide +kernel
theorem dX11_restore_22 : decode cX11_restore 22 = .ok (.ifCond .ne 5, 3) := by decide +kernel
theorem dX11_restore_25 : decode cX11_restore 25 = .ok (.iconst 0, 1) := by decide +kernel
theorem dX11_restore_26 : decode cX11_restore 26 = .ok (.ireturn, 1) := by decide +kernel
theorem dX11_restore_27 : decode cX11_restore 27 = .ok (.aload_n 0, 1) := by decide +kernel
theorem dX11_restore_28 : decode cX11_restore 28 = .ok (.getfield 36, 3) := by decide +kernel
theorem dX11_restore_31 : decode cX11_restore 31 = .ok (.aload_n 0, 1) := by decide +kernel
theorem dX11_restore_32 : decode cX11_restore 32 = .ok (.getfield 40, 3) := by decide +kernel
theorem dX11_restore_35 : decode cX11_restore 35 = .ok (.iload_n 1, 1) := by decide +kernel
theorem dX11_restore_36 : decode cX11_restore 36 = .ok (.aaload, 1) := by decide +kernel
theorem dX11_restore_37 : decode cX11_restore 37 = .ok (.invokevirtual 313, 3) := by decide +kernel
theorem dX11_restore_40 : decode cX11_restore 40 = .ok (.aload_n 0, 1) := by decide +kernel
theorem dX11_restore_41 : decode cX11_restore 41 = .ok (.getfield 47, 3) := by decide +kernel
theorem dX11_restore_44 : decode cX11_restore 44 = .ok (.iconst 0, 1) := by decide +kernel
theorem dX11_restore_45 : decode cX11_restore 45 = .ok (.putfield 97, 3) := by decide +kernel
theorem dX11_restore_48 : decode cX11_restore 48 = .ok (.iconst 1, 1) := by decide +kernel
theorem dX11_restore_49 : decode cX11_restore 49 = .ok (.ireturn, 1) := by decide +kernel
abbrev rm_X11_restore : Room := { frames := 3, cells := 0, slots := 0, locals := 102 }
noncomputable def fX11_restore (o0 : Nat) (x1 : Int32) (h : z_T) : Option (Int32 × z_T) :=
  y_br (x1 < 0)
    (some ((0 : Int32), h))
    (y_gd (z_ok h o0 10) <|
    y_bi (z_R h o0 4) fun o3 =>
    y_gd (z_ok h o3 17) <|
    y_br ((nI (z_N h o3)) ≤ x1)
      (some ((0 : Int32), h))
      (y_gd (z_ix x1 (z_N h o3)) <|
      y_bi (z_R h o3 x1.toNatClampNeg) fun o7 =>
      y_gd (z_ok h o7 8) <|
      y_br ((z_I h o7 3) = 0)
        (some ((0 : Int32), h))
        (y_bi (z_R h o0 3) fun o10 =>
        y_gd (z_ix x1 (z_N h o3)) <|
        y_bi (z_R h o3 x1.toNatClampNeg) fun o12 =>
        y_gd (z_ok h o10 8) <|
        y_bi (fX8_copy o10 o12 h) fun h14 =>
        y_gd (z_ok h14 o0 10) <|
        y_bi (z_R h14 o0 5) fun o17 =>
        y_gd (z_ok h14 o17 4) <|
        y_nm (z_sI h14 o17 2 (0 : Int32)) fun h19 =>
        some ((1 : Int32), h19))))
set_option maxHeartbeats 4000000 in
set_option maxRecDepth 100000 in
theorem mm_X11_restore {G : z_Gt} (hSK : z_SK (z_S G)) (l : Launch) (ad : Nat → Nat) (o0 : Nat) (x1 : Int32) (h : z_T) {r0 : Int32} {h9 : z_T} (hv : fX11_restore o0 x1 h = some (r0, h9)) : z_Mi G (z_S G) l yX11_restore cX11_restore 2 (.boolean) rm_X11_restore 0 0 [.ref (ad o0), .int x1] ad h h9 r0 := by
  refine z_ofW hSK (by decide) (Nat.le_of_ble_eq_true rfl) ?_
  intro p e s m args below meth c ls hc hr hnm hB hl
  have hx := hc.1.1
  have hb := hc.1.2.1
  have hown := hc.1.2.2.2.1
  have hts := hc.1.2.2.2.2
  replace hc : z_C G (z_S G) ad (z_n h) p m c cX11_restore 2 s args RX11 meth := hc
  replace hown : s.vm.findClass RX11 = some m.cls := hown
  replace hl : lv_has ls 2 [(0, .ref (ad o0)), (1, .int x1)] := hl
  show W p l e rm_X11_restore s m args below meth c s.heap [] 0 0 (MQ below (z_Qi G ad h9 (z_n h) s.heap.size r0) args s 0 0 (z_A ad (z_n h) s.heap.size)) (F0 m 0 ls [])
  obtain ⟨rs, kt⟩ : ∃ rs : Int32 × z_T, rs = (r0, h9) := ⟨_, rfl⟩
  generalize hn0 : z_n h = n0 at hc hB ⊢
  rw [← kt] at hv
  refine lv_iload_n hx hb dX11_restore_0 rfl (lv_at hl 1 rfl) ?_
  refine lv_if_lt (tgt := 25) hx hb dX11_restore_1 (by decide) (fun c1 => ?_) (fun c1 => ?_)
  · replace hv := y_br_t hv c1
    refine lv_iconst (v := (0 : Int32)) hx hb dX11_restore_25 (by decide) ?_
    replace hv := Option.some.inj hv
    subst hv
    obtain ⟨e1, e2⟩ := y_pr kt
    rw [← e1, ← e2]
    exact z_zret hc hB hr rfl dX11_restore_26
  · replace hv := y_br_f hv c1
    refine lv_iload_n hx hb dX11_restore_4 rfl (lv_at hl 1 rfl) ?_
    refine lv_aload_n hx hb dX11_restore_5 rfl (lv_at hl 0 rfl) ?_
    obtain ⟨g2, hv⟩ := y_gd_e hv
    obtain ⟨o3, eo3, hv⟩ := y_bi_e hv
    refine z_getR hc hB 10 4 g2 eo3 (by decide) (by decide) rfl (z_l1 hc qfX11_40) dX11_restore_6 ?_
    obtain ⟨g4, hv⟩ := y_gd_e hv
    refine z_alen hc hB 17 (by decide) (by decide) g4 dX11_restore_9 ?_
    refine lv_icmp_ge (tgt := 25) hx hb dX11_restore_10 (by decide) (fun c5 => ?_) (fun c5 => ?_)
    · replace hv := y_br_t hv c5
      refine lv_iconst (v := (0 : Int32)) hx hb dX11_restore_25 (by decide) ?_
      replace hv := Option.some.inj hv
      subst hv
      obtain ⟨e1, e2⟩ := y_pr kt
      rw [← e1, ← e2]
      exact z_zret hc hB hr rfl dX11_restore_26
    · replace hv := y_br_f hv c5
      refine lv_aload_n hx hb dX11_restore_13 rfl (lv_at hl 0 rfl) ?_
      refine z_getR hc hB 10 4 g2 eo3 (by decide) (by decide) rfl (z_l1 hc qfX11_40) dX11_restore_14 ?_
      refine lv_iload_n hx hb dX11_restore_17 rfl (lv_at hl 1 rfl) ?_
      obtain ⟨i6, hv⟩ := y_gd_e hv
      obtain ⟨o7, eo7, hv⟩ := y_bi_e hv
      refine z_aald hc hB 17 (by decide) (by decide) rfl g4 i6 eo7 dX11_restore_18 ?_
      obtain ⟨g8, hv⟩ := y_gd_e hv
      refine z_getI hc hB 8 3 g8 (by decide) (by decide) rfl (z_l2 hc qfX11_317) dX11_restore_19 ?_
      refine lv_if_ne (tgt := 27) hx hb dX11_restore_22 (by decide) (fun c9 => ?_) (fun c9 => ?_)
      · replace hv := y_br_f hv c9
        refine lv_aload_n hx hb dX11_restore_27 rfl (lv_at hl 0 rfl) ?_
        obtain ⟨o10, eo10, hv⟩ := y_bi_e hv
        refine z_getR hc hB 10 3 g2 eo10 (by decide) (by decide) rfl (z_l1 hc qfX11_36) dX11_restore_28 ?_
        refine lv_aload_n hx hb dX11_restore_31 rfl (lv_at hl 0 rfl) ?_
        refine z_getR hc hB 10 4 g2 eo3 (by decide) (by decide) rfl (z_l1 hc qfX11_40) dX11_restore_32 ?_
        refine lv_iload_n hx hb dX11_restore_35 rfl (lv_at hl 1 rfl) ?_
        obtain ⟨i11, hv⟩ := y_gd_e hv
        obtain ⟨o12, eo12, hv⟩ := y_bi_e hv
        refine z_aald hc hB 17 (by decide) (by decide) rfl g4 i11 eo12 dX11_restore_36 ?_
        obtain ⟨g15, hv⟩ := y_gd_e hv
        obtain ⟨h14, c13, hv⟩ := y_bi_e hv
        refine z_thV hc hB (z_runV hc hB 8 (mm_X8_copy hSK l ad o10 o12 h c13) md_X8_copy qmX11_313 g15 (by decide) rfl rfl rfl ⟨Nat.le_of_ble_eq_true rfl, Nat.le_of_ble_eq_true rfl⟩ rfl hl.1 rfl (Nat.le_of_ble_eq_true rfl) dX11_restore_37 ⟨Nat.le_of_ble_eq_true rfl, Nat.le_of_ble_eq_true rfl⟩) (fun H locs hB => ?_)
        refine lv_aload_n hx hb dX11_restore_40 rfl (lv_at hl 0 rfl) ?_
        obtain ⟨g16, hv⟩ := y_gd_e hv
        obtain ⟨o17, eo17, hv⟩ := y_bi_e hv
        refine z_getR hc hB 10 5 g16 eo17 (by decide) (by decide) rfl (z_l1 hc qfX11_47) dX11_restore_41 ?_
        refine lv_iconst (v := (0 : Int32)) hx hb dX11_restore_44 (by decide) ?_
        obtain ⟨g18, hv⟩ := y_gd_e hv
        obtain ⟨h19, eh19, hv⟩ := y_nm_e hv
        refine y_putI hc hB 4 2 eh19 g18 (z_l2 hc qfX11_97) dX11_restore_45 (by decide) (by decide) rfl rfl rfl rfl (fun H locs hB => ?_)
        refine lv_iconst (v := (1 : Int32)) hx hb dX11_restore_48 (by decide) ?_
        replace hv := Option.some.inj hv
        subst hv
        obtain ⟨e1, e2⟩ := y_pr kt
        rw [← e1, ← e2]
        exact z_zret hc hB hr rfl dX11_restore_49
      · replace hv := y_br_t hv c9
        refine lv_iconst (v := (0 : Int32)) hx hb dX11_restore_25 (by decide) ?_
        replace hv := Option.some.inj hv
        subst hv
        obtain ⟨e1, e2⟩ := y_pr kt
        rw [← e1, ← e2]
        exact z_zret hc hB hr rfl dX11_restore_26
theorem qfX11_320 : Cond.fieldLinkNest RX11 320 "DreamTests$Book" "dreams" "I" "DreamTests" ∈ z_nw := List.mem_filter.mpr ⟨List.mem_of_getElem? (i := 48) (by decide +kernel), rfl⟩
theorem qmX11_323 : Cond.methodLink RX11 323 yX0_setting ∈ z_ws := List.mem_filter.mpr ⟨List.mem_append_right _ (List.mem_of_getElem? (i := 1068) (by decide +kernel)), rfl⟩
theorem dX11_count_0 : decode cX11_count 0 = .ok (.aload_n 0, 1) := by decide +kernel
theorem dX11_count_1 : decode cX11_count 1 = .ok (.getfield 36, 3) := by decide +kernel
theorem dX11_count_4 : decode cX11_count 4 = .ok (.getfield 106, 3) := by decide +kernel
theorem dX11_count_7 : decode cX11_count 7 = .ok (.getfield 109, 3) := by decide +kernel
theorem dX11_count_10 : decode cX11_count 10 = .ok (.astore_n 2, 1) := by decide +kernel
theorem dX11_count_11 : decode cX11_count 11 = .ok (.iload_n 1, 1) := by decide +kernel
theorem dX11_count_12 : decode cX11_count 12 = .ok (.tableswitch 85 0 9 #[56, 61, 85, 85, 85, 85, 85, 85, 66, 77], 56) := by decide +kernel
theorem dX11_count_68 : decode cX11_count 68 = .ok (.aload_n 2, 1) := by decide +kernel
theorem dX11_count_69 : decode cX11_count 69 = .ok (.getfield 217, 3) := by decide +kernel
theorem dX11_count_72 : decode cX11_count 72 = .ok (.ireturn, 1) := by decide +kernel
theorem dX11_count_73 : decode cX11_count 73 = .ok (.aload_n 2, 1) := by decide +kernel
theorem dX11_count_74 : decode cX11_count 74 = .ok (.getfield 320, 3) := by decide +kernel
theorem dX11_count_77 : decode cX11_count 77 = .ok (.ireturn, 1) := by decide +kernel
theorem dX11_count_78 : decode cX11_count 78 = .ok (.aload_n 0, 1) := by decide +kernel
theorem dX11_count_79 : decode cX11_count 79 = .ok (.getfield 36, 3) := by decide +kernel
theorem dX11_count_82 : decode cX11_count 82 = .ok (.getfield 106, 3) := by decide +kernel
theorem dX11_count_85 : decode cX11_count 85 = .ok (.getfield 162, 3) := by decide +kernel
theorem dX11_count_88 : decode cX11_count 88 = .ok (.ireturn, 1) := by decide +kernel
theorem dX11_count_89 : decode cX11_count 89 = .ok (.aload_n 0, 1) := by decide +kernel
theorem dX11_count_90 : decode cX11_count 90 = .ok (.getfield 15, 3) := by decide +kernel
theorem dX11_count_93 : decode cX11_count 93 = .ok (.getfield 80, 3) := by decide +kernel
theorem dX11_count_96 : decode cX11_count 96 = .ok (.ireturn, 1) := by decide +kernel
theorem dX11_count_97 : decode cX11_count 97 = .ok (.iload_n 1, 1) := by decide +kernel
theorem dX11_count_98 : decode cX11_count 98 = .ok (.iconst 2, 1) := by decide +kernel
theorem dX11_count_99 : decode cX11_count 99 = .ok (.if_icmp .lt 19, 3) := by decide +kernel
theorem dX11_count_102 : decode cX11_count 102 = .ok (.iload_n 1, 1) := by decide +kernel
theorem dX11_count_103 : decode cX11_count 103 = .ok (.bipush 7, 2) := by decide +kernel
theorem dX11_count_105 : decode cX11_count 105 = .ok (.if_icmp .gt 13, 3) := by decide +kernel
theorem dX11_count_108 : decode cX11_count 108 = .ok (.aload_n 2, 1) := by decide +kernel
theorem dX11_count_109 : decode cX11_count 109 = .ok (.iload_n 1, 1) := by decide +kernel
theorem dX11_count_110 : decode cX11_count 110 = .ok (.iconst 2, 1) := by decide +kernel
theorem dX11_count_111 : decode cX11_count 111 = .ok (.isub, 1) := by decide +kernel
theorem dX11_count_112 : decode cX11_count 112 = .ok (.invokevirtual 323, 3) := by decide +kernel
theorem dX11_count_115 : decode cX11_count 115 = .ok (.goto 4, 3) := by decide +kernel
theorem dX11_count_118 : decode cX11_count 118 = .ok (.iconst (-1), 1) := by decide +kernel
theorem dX11_count_119 : decode cX11_count 119 = .ok (.ireturn, 1) := by decide +kernel
abbrev rm_X11_count : Room := { frames := 1, cells := 0, slots := 0, locals := 21 }
noncomputable def fX11_count_b118  (h : z_T) : Option (Int32) :=
  some (-1 : Int32)
noncomputable def fX11_count (o0 : Nat) (x1 : Int32) (h : z_T) : Option (Int32) :=
  y_gd (z_ok h o0 10) <|
  y_bi (z_R h o0 3) fun ob2 =>
  y_gd (z_ok h ob2 8) <|
  y_bi (z_R h ob2 0) fun ob4 =>
  y_gd (z_ok h ob4 2) <|
  y_bi (z_R h ob4 0) fun ob6 =>
  y_br (x1 = 0)
    (y_gd (z_ok h ob6 0) <|
    some (z_I h ob6 1))
    (y_br (x1 = 1)
      (y_gd (z_ok h ob6 0) <|
      some (z_I h ob6 2))
      (y_br (x1 = 2)
        (y_br (x1 < (2 : Int32))
          (fX11_count_b118 h)
          (y_br ((7 : Int32) < x1)
            (fX11_count_b118 h)
            (y_gd (z_ok h ob6 0) <|
            y_bi (fX0_setting ob6 (x1 - (2 : Int32)) h) fun r15 =>
            some r15)))
        (y_br (x1 = 3)
          (y_br (x1 < (2 : Int32))
            (fX11_count_b118 h)
            (y_br ((7 : Int32) < x1)
              (fX11_count_b118 h)
              (y_gd (z_ok h ob6 0) <|
              y_bi (fX0_setting ob6 (x1 - (2 : Int32)) h) fun r24 =>
              some r24)))
          (y_br (x1 = 4)
            (y_br (x1 < (2 : Int32))
              (fX11_count_b118 h)
              (y_br ((7 : Int32) < x1)
                (fX11_count_b118 h)
                (y_gd (z_ok h ob6 0) <|
                y_bi (fX0_setting ob6 (x1 - (2 : Int32)) h) fun r33 =>
                some r33)))
            (y_br (x1 = 5)
              (y_br (x1 < (2 : Int32))
                (fX11_count_b118 h)
                (y_br ((7 : Int32) < x1)
                  (fX11_count_b118 h)
                  (y_gd (z_ok h ob6 0) <|
                  y_bi (fX0_setting ob6 (x1 - (2 : Int32)) h) fun r42 =>
                  some r42)))
              (y_br (x1 = 6)
                (y_br (x1 < (2 : Int32))
                  (fX11_count_b118 h)
                  (y_br ((7 : Int32) < x1)
                    (fX11_count_b118 h)
                    (y_gd (z_ok h ob6 0) <|
                    y_bi (fX0_setting ob6 (x1 - (2 : Int32)) h) fun r51 =>
                    some r51)))
                (y_br (x1 = 7)
                  (y_br (x1 < (2 : Int32))
                    (fX11_count_b118 h)
                    (y_br ((7 : Int32) < x1)
                      (fX11_count_b118 h)
                      (y_gd (z_ok h ob6 0) <|
                      y_bi (fX0_setting ob6 (x1 - (2 : Int32)) h) fun r60 =>
                      some r60)))
                  (y_br (x1 = 8)
                    (some (z_I h ob4 1))
                    (y_br (x1 = 9)
                      (y_bi (z_R h o0 0) fun ob67 =>
                      y_gd (z_ok h ob67 1) <|
                      some (z_I h ob67 1))
                      (y_br (x1 < (2 : Int32))
                        (fX11_count_b118 h)
                        (y_br ((7 : Int32) < x1)
                          (fX11_count_b118 h)
                          (y_gd (z_ok h ob6 0) <|
                          y_bi (fX0_setting ob6 (x1 - (2 : Int32)) h) fun r72 =>
                          some r72))))))))))))
set_option maxHeartbeats 4000000 in
set_option maxRecDepth 100000 in
theorem mm_X11_count {G : z_Gt} (hSK : z_SK (z_S G)) (l : Launch) (ad : Nat → Nat) (o0 : Nat) (x1 : Int32) (h : z_T) {r0 : Int32} (hv : fX11_count o0 x1 h = some r0) : z_Mi G (z_S G) l yX11_count cX11_count 3 (.int) rm_X11_count 0 0 [.ref (ad o0), .int x1] ad h h r0 := by
  refine z_ofW hSK (by decide) (Nat.le_of_ble_eq_true rfl) ?_
  intro p e s m args below meth c ls hc hr hnm hB hl
  have hx := hc.1.1
  have hb := hc.1.2.1
  have hown := hc.1.2.2.2.1
  have hts := hc.1.2.2.2.2
  replace hc : z_C G (z_S G) ad (z_n h) p m c cX11_count 3 s args RX11 meth := hc
  replace hown : s.vm.findClass RX11 = some m.cls := hown
  replace hl : lv_has ls 3 [(0, .ref (ad o0)), (1, .int x1)] := hl
  show W p l e rm_X11_count s m args below meth c s.heap [] 0 0 (MQ below (z_Qi G ad h (z_n h) s.heap.size r0) args s 0 0 (z_A ad (z_n h) s.heap.size)) (F0 m 0 ls [])
  obtain ⟨rs, kt⟩ : ∃ rs : Int32, rs = r0 := ⟨_, rfl⟩
  generalize hn0 : z_n h = n0 at hc hB ⊢
  have b118 : ∀ (H : Heap) (locs : List Loc) (ls : Array Slot), z_B G ad n0 s h H locs → lv_has ls 3 [] → ∀ w, fX11_count_b118 h = some w → w = r0 → W p l e rm_X11_count s m args below meth c H locs 0 0 (MQ below (z_Qi G ad h n0 s.heap.size r0) args s 0 0 (z_A ad n0 s.heap.size)) (F0 m 118 ls []) := by
    intro H locs ls hB hl w hv kb
    refine lv_iconst (v := (-1 : Int32)) hx hb dX11_count_118 (by decide) ?_
    replace hv := Option.some.inj hv
    subst hv
    rw [← kb]
    exact z_iret hc hB hr dX11_count_119
  rw [← kt] at hv
  refine lv_aload_n hx hb dX11_count_0 rfl (lv_at hl 0 rfl) ?_
  obtain ⟨g1, hv⟩ := y_gd_e hv
  obtain ⟨ob2, eob2, hv⟩ := y_bi_e hv
  refine z_getR hc hB 10 3 g1 eob2 (by decide) (by decide) rfl (z_l1 hc qfX11_36) dX11_count_1 ?_
  obtain ⟨g3, hv⟩ := y_gd_e hv
  obtain ⟨ob4, eob4, hv⟩ := y_bi_e hv
  refine z_getR hc hB 8 0 g3 eob4 (by decide) (by decide) rfl (z_l2 hc qfX11_106) dX11_count_4 ?_
  obtain ⟨g5, hv⟩ := y_gd_e hv
  obtain ⟨ob6, eob6, hv⟩ := y_bi_e hv
  refine z_getR hc hB 2 0 g5 eob6 (by decide) (by decide) rfl (z_l2 hc qfX11_109) dX11_count_7 ?_
  refine lv_astore_n (lv' := [(2, .ref (ad ob6)), (0, .ref (ad o0)), (1, .int x1)]) hx hb dX11_count_10 rfl hl (by decide) rfl (fun ls hl => ?_)
  refine lv_iload_n hx hb dX11_count_11 rfl (lv_at hl 2 rfl) ?_
  by_cases c7 : x1 = 0
  · replace hv := y_br_t hv c7
    refine lv_tableIn (off := 56) (tgt := 68) hx hb dX11_count_12 (by rw [c7]; decide) (by rw [c7]; decide) (by rw [c7]; rfl) (by decide) ?_
    refine lv_aload_n hx hb dX11_count_68 rfl (lv_at hl 0 rfl) ?_
    obtain ⟨g8, hv⟩ := y_gd_e hv
    refine z_getI hc hB 0 1 g8 (by decide) (by decide) rfl (z_l2 hc qfX11_217) dX11_count_69 ?_
    replace hv := Option.some.inj hv
    subst hv
    rw [← kt]
    exact z_iret hc hB hr dX11_count_72
  · replace hv := y_br_f hv c7
    by_cases c9 : x1 = 1
    · replace hv := y_br_t hv c9
      refine lv_tableIn (off := 61) (tgt := 73) hx hb dX11_count_12 (by rw [c9]; decide) (by rw [c9]; decide) (by rw [c9]; rfl) (by decide) ?_
      refine lv_aload_n hx hb dX11_count_73 rfl (lv_at hl 0 rfl) ?_
      obtain ⟨g10, hv⟩ := y_gd_e hv
      refine z_getI hc hB 0 2 g10 (by decide) (by decide) rfl (z_l2 hc qfX11_320) dX11_count_74 ?_
      replace hv := Option.some.inj hv
      subst hv
      rw [← kt]
      exact z_iret hc hB hr dX11_count_77
    · replace hv := y_br_f hv c9
      by_cases c11 : x1 = 2
      · replace hv := y_br_t hv c11
        refine lv_tableIn (off := 85) (tgt := 97) hx hb dX11_count_12 (by rw [c11]; decide) (by rw [c11]; decide) (by rw [c11]; rfl) (by decide) ?_
        refine lv_iload_n hx hb dX11_count_97 rfl (lv_at hl 2 rfl) ?_
        refine lv_iconst (v := (2 : Int32)) hx hb dX11_count_98 (by decide) ?_
        refine lv_icmp_lt (tgt := 118) hx hb dX11_count_99 (by decide) (fun c12 => ?_) (fun c12 => ?_)
        · replace hv := y_br_t hv c12
          exact b118 _ _ _ hB (lv_sub hl [] rfl) _ hv kt
        · replace hv := y_br_f hv c12
          refine lv_iload_n hx hb dX11_count_102 rfl (lv_at hl 2 rfl) ?_
          refine lv_bipush (v := (7 : Int32)) hx hb dX11_count_103 (by decide) ?_
          refine lv_icmp_gt (tgt := 118) hx hb dX11_count_105 (by decide) (fun c13 => ?_) (fun c13 => ?_)
          · replace hv := y_br_t hv c13
            exact b118 _ _ _ hB (lv_sub hl [] rfl) _ hv kt
          · replace hv := y_br_f hv c13
            refine lv_aload_n hx hb dX11_count_108 rfl (lv_at hl 0 rfl) ?_
            refine lv_iload_n hx hb dX11_count_109 rfl (lv_at hl 2 rfl) ?_
            refine lv_iconst (v := (2 : Int32)) hx hb dX11_count_110 (by decide) ?_
            refine lv_isub hx hb dX11_count_111 ?_
            obtain ⟨g19, hv⟩ := y_gd_e hv
            obtain ⟨r15, c14, hv⟩ := y_bi_e hv
            refine z_thI hc hB (z_runV hc hB 0 (mm_X0_setting hSK l ad ob6 (x1 - (2 : Int32)) h c14) md_X0_setting qmX11_323 g19 (by decide) rfl rfl rfl ⟨Nat.le_of_ble_eq_true rfl, Nat.le_of_ble_eq_true rfl⟩ rfl hl.1 rfl (Nat.le_of_ble_eq_true rfl) dX11_count_112 ⟨Nat.le_of_ble_eq_true rfl, Nat.le_of_ble_eq_true rfl⟩) (fun H locs hB => ?_)
            refine lv_goto (tgt := 119) hx hb dX11_count_115 (by decide) ?_
            replace hv := Option.some.inj hv
            subst hv
            rw [← kt]
            exact z_iret hc hB hr dX11_count_119
      · replace hv := y_br_f hv c11
        by_cases c20 : x1 = 3
        · replace hv := y_br_t hv c20
          refine lv_tableIn (off := 85) (tgt := 97) hx hb dX11_count_12 (by rw [c20]; decide) (by rw [c20]; decide) (by rw [c20]; rfl) (by decide) ?_
          refine lv_iload_n hx hb dX11_count_97 rfl (lv_at hl 2 rfl) ?_
          refine lv_iconst (v := (2 : Int32)) hx hb dX11_count_98 (by decide) ?_
          refine lv_icmp_lt (tgt := 118) hx hb dX11_count_99 (by decide) (fun c21 => ?_) (fun c21 => ?_)
          · replace hv := y_br_t hv c21
            exact b118 _ _ _ hB (lv_sub hl [] rfl) _ hv kt
          · replace hv := y_br_f hv c21
            refine lv_iload_n hx hb dX11_count_102 rfl (lv_at hl 2 rfl) ?_
            refine lv_bipush (v := (7 : Int32)) hx hb dX11_count_103 (by decide) ?_
            refine lv_icmp_gt (tgt := 118) hx hb dX11_count_105 (by decide) (fun c22 => ?_) (fun c22 => ?_)
            · replace hv := y_br_t hv c22
              exact b118 _ _ _ hB (lv_sub hl [] rfl) _ hv kt
            · replace hv := y_br_f hv c22
              refine lv_aload_n hx hb dX11_count_108 rfl (lv_at hl 0 rfl) ?_
              refine lv_iload_n hx hb dX11_count_109 rfl (lv_at hl 2 rfl) ?_
              refine lv_iconst (v := (2 : Int32)) hx hb dX11_count_110 (by decide) ?_
              refine lv_isub hx hb dX11_count_111 ?_
              obtain ⟨g28, hv⟩ := y_gd_e hv
              obtain ⟨r24, c23, hv⟩ := y_bi_e hv
              refine z_thI hc hB (z_runV hc hB 0 (mm_X0_setting hSK l ad ob6 (x1 - (2 : Int32)) h c23) md_X0_setting qmX11_323 g28 (by decide) rfl rfl rfl ⟨Nat.le_of_ble_eq_true rfl, Nat.le_of_ble_eq_true rfl⟩ rfl hl.1 rfl (Nat.le_of_ble_eq_true rfl) dX11_count_112 ⟨Nat.le_of_ble_eq_true rfl, Nat.le_of_ble_eq_true rfl⟩) (fun H locs hB => ?_)
              refine lv_goto (tgt := 119) hx hb dX11_count_115 (by decide) ?_
              replace hv := Option.some.inj hv
              subst hv
              rw [← kt]
              exact z_iret hc hB hr dX11_count_119
        · replace hv := y_br_f hv c20
          by_cases c29 : x1 = 4
          · replace hv := y_br_t hv c29
            refine lv_tableIn (off := 85) (tgt := 97) hx hb dX11_count_12 (by rw [c29]; decide) (by rw [c29]; decide) (by rw [c29]; rfl) (by decide) ?_
            refine lv_iload_n hx hb dX11_count_97 rfl (lv_at hl 2 rfl) ?_
            refine lv_iconst (v := (2 : Int32)) hx hb dX11_count_98 (by decide) ?_
            refine lv_icmp_lt (tgt := 118) hx hb dX11_count_99 (by decide) (fun c30 => ?_) (fun c30 => ?_)
            · replace hv := y_br_t hv c30
              exact b118 _ _ _ hB (lv_sub hl [] rfl) _ hv kt
            · replace hv := y_br_f hv c30
              refine lv_iload_n hx hb dX11_count_102 rfl (lv_at hl 2 rfl) ?_
              refine lv_bipush (v := (7 : Int32)) hx hb dX11_count_103 (by decide) ?_
              refine lv_icmp_gt (tgt := 118) hx hb dX11_count_105 (by decide) (fun c31 => ?_) (fun c31 => ?_)
              · replace hv := y_br_t hv c31
                exact b118 _ _ _ hB (lv_sub hl [] rfl) _ hv kt
              · replace hv := y_br_f hv c31
                refine lv_aload_n hx hb dX11_count_108 rfl (lv_at hl 0 rfl) ?_
                refine lv_iload_n hx hb dX11_count_109 rfl (lv_at hl 2 rfl) ?_
                refine lv_iconst (v := (2 : Int32)) hx hb dX11_count_110 (by decide) ?_
                refine lv_isub hx hb dX11_count_111 ?_
                obtain ⟨g37, hv⟩ := y_gd_e hv
                obtain ⟨r33, c32, hv⟩ := y_bi_e hv
                refine z_thI hc hB (z_runV hc hB 0 (mm_X0_setting hSK l ad ob6 (x1 - (2 : Int32)) h c32) md_X0_setting qmX11_323 g37 (by decide) rfl rfl rfl ⟨Nat.le_of_ble_eq_true rfl, Nat.le_of_ble_eq_true rfl⟩ rfl hl.1 rfl (Nat.le_of_ble_eq_true rfl) dX11_count_112 ⟨Nat.le_of_ble_eq_true rfl, Nat.le_of_ble_eq_true rfl⟩) (fun H locs hB => ?_)
                refine lv_goto (tgt := 119) hx hb dX11_count_115 (by decide) ?_
                replace hv := Option.some.inj hv
                subst hv
                rw [← kt]
                exact z_iret hc hB hr dX11_count_119
          · replace hv := y_br_f hv c29
            by_cases c38 : x1 = 5
            · replace hv := y_br_t hv c38
              refine lv_tableIn (off := 85) (tgt := 97) hx hb dX11_count_12 (by rw [c38]; decide) (by rw [c38]; decide) (by rw [c38]; rfl) (by decide) ?_
              refine lv_iload_n hx hb dX11_count_97 rfl (lv_at hl 2 rfl) ?_
              refine lv_iconst (v := (2 : Int32)) hx hb dX11_count_98 (by decide) ?_
              refine lv_icmp_lt (tgt := 118) hx hb dX11_count_99 (by decide) (fun c39 => ?_) (fun c39 => ?_)
              · replace hv := y_br_t hv c39
                exact b118 _ _ _ hB (lv_sub hl [] rfl) _ hv kt
              · replace hv := y_br_f hv c39
                refine lv_iload_n hx hb dX11_count_102 rfl (lv_at hl 2 rfl) ?_
                refine lv_bipush (v := (7 : Int32)) hx hb dX11_count_103 (by decide) ?_
                refine lv_icmp_gt (tgt := 118) hx hb dX11_count_105 (by decide) (fun c40 => ?_) (fun c40 => ?_)
                · replace hv := y_br_t hv c40
                  exact b118 _ _ _ hB (lv_sub hl [] rfl) _ hv kt
                · replace hv := y_br_f hv c40
                  refine lv_aload_n hx hb dX11_count_108 rfl (lv_at hl 0 rfl) ?_
                  refine lv_iload_n hx hb dX11_count_109 rfl (lv_at hl 2 rfl) ?_
                  refine lv_iconst (v := (2 : Int32)) hx hb dX11_count_110 (by decide) ?_
                  refine lv_isub hx hb dX11_count_111 ?_
                  obtain ⟨g46, hv⟩ := y_gd_e hv
                  obtain ⟨r42, c41, hv⟩ := y_bi_e hv
                  refine z_thI hc hB (z_runV hc hB 0 (mm_X0_setting hSK l ad ob6 (x1 - (2 : Int32)) h c41) md_X0_setting qmX11_323 g46 (by decide) rfl rfl rfl ⟨Nat.le_of_ble_eq_true rfl, Nat.le_of_ble_eq_true rfl⟩ rfl hl.1 rfl (Nat.le_of_ble_eq_true rfl) dX11_count_112 ⟨Nat.le_of_ble_eq_true rfl, Nat.le_of_ble_eq_true rfl⟩) (fun H locs hB => ?_)
                  refine lv_goto (tgt := 119) hx hb dX11_count_115 (by decide) ?_
                  replace hv := Option.some.inj hv
                  subst hv
                  rw [← kt]
                  exact z_iret hc hB hr dX11_count_119
            · replace hv := y_br_f hv c38
              by_cases c47 : x1 = 6
              · replace hv := y_br_t hv c47
                refine lv_tableIn (off := 85) (tgt := 97) hx hb dX11_count_12 (by rw [c47]; decide) (by rw [c47]; decide) (by rw [c47]; rfl) (by decide) ?_
                refine lv_iload_n hx hb dX11_count_97 rfl (lv_at hl 2 rfl) ?_
                refine lv_iconst (v := (2 : Int32)) hx hb dX11_count_98 (by decide) ?_
                refine lv_icmp_lt (tgt := 118) hx hb dX11_count_99 (by decide) (fun c48 => ?_) (fun c48 => ?_)
                · replace hv := y_br_t hv c48
                  exact b118 _ _ _ hB (lv_sub hl [] rfl) _ hv kt
                · replace hv := y_br_f hv c48
                  refine lv_iload_n hx hb dX11_count_102 rfl (lv_at hl 2 rfl) ?_
                  refine lv_bipush (v := (7 : Int32)) hx hb dX11_count_103 (by decide) ?_
                  refine lv_icmp_gt (tgt := 118) hx hb dX11_count_105 (by decide) (fun c49 => ?_) (fun c49 => ?_)
                  · replace hv := y_br_t hv c49
                    exact b118 _ _ _ hB (lv_sub hl [] rfl) _ hv kt
                  · replace hv := y_br_f hv c49
                    refine lv_aload_n hx hb dX11_count_108 rfl (lv_at hl 0 rfl) ?_
                    refine lv_iload_n hx hb dX11_count_109 rfl (lv_at hl 2 rfl) ?_
                    refine lv_iconst (v := (2 : Int32)) hx hb dX11_count_110 (by decide) ?_
                    refine lv_isub hx hb dX11_count_111 ?_
                    obtain ⟨g55, hv⟩ := y_gd_e hv
                    obtain ⟨r51, c50, hv⟩ := y_bi_e hv
                    refine z_thI hc hB (z_runV hc hB 0 (mm_X0_setting hSK l ad ob6 (x1 - (2 : Int32)) h c50) md_X0_setting qmX11_323 g55 (by decide) rfl rfl rfl ⟨Nat.le_of_ble_eq_true rfl, Nat.le_of_ble_eq_true rfl⟩ rfl hl.1 rfl (Nat.le_of_ble_eq_true rfl) dX11_count_112 ⟨Nat.le_of_ble_eq_true rfl, Nat.le_of_ble_eq_true rfl⟩) (fun H locs hB => ?_)
                    refine lv_goto (tgt := 119) hx hb dX11_count_115 (by decide) ?_
                    replace hv := Option.some.inj hv
                    subst hv
                    rw [← kt]
                    exact z_iret hc hB hr dX11_count_119
              · replace hv := y_br_f hv c47
                by_cases c56 : x1 = 7
                · replace hv := y_br_t hv c56
                  refine lv_tableIn (off := 85) (tgt := 97) hx hb dX11_count_12 (by rw [c56]; decide) (by rw [c56]; decide) (by rw [c56]; rfl) (by decide) ?_
                  refine lv_iload_n hx hb dX11_count_97 rfl (lv_at hl 2 rfl) ?_
                  refine lv_iconst (v := (2 : Int32)) hx hb dX11_count_98 (by decide) ?_
                  refine lv_icmp_lt (tgt := 118) hx hb dX11_count_99 (by decide) (fun c57 => ?_) (fun c57 => ?_)
                  · replace hv := y_br_t hv c57
                    exact b118 _ _ _ hB (lv_sub hl [] rfl) _ hv kt
                  · replace hv := y_br_f hv c57
                    refine lv_iload_n hx hb dX11_count_102 rfl (lv_at hl 2 rfl) ?_
                    refine lv_bipush (v := (7 : Int32)) hx hb dX11_count_103 (by decide) ?_
                    refine lv_icmp_gt (tgt := 118) hx hb dX11_count_105 (by decide) (fun c58 => ?_) (fun c58 => ?_)
                    · replace hv := y_br_t hv c58
                      exact b118 _ _ _ hB (lv_sub hl [] rfl) _ hv kt
                    · replace hv := y_br_f hv c58
                      refine lv_aload_n hx hb dX11_count_108 rfl (lv_at hl 0 rfl) ?_
                      refine lv_iload_n hx hb dX11_count_109 rfl (lv_at hl 2 rfl) ?_
                      refine lv_iconst (v := (2 : Int32)) hx hb dX11_count_110 (by decide) ?_
                      refine lv_isub hx hb dX11_count_111 ?_
                      obtain ⟨g64, hv⟩ := y_gd_e hv
                      obtain ⟨r60, c59, hv⟩ := y_bi_e hv
                      refine z_thI hc hB (z_runV hc hB 0 (mm_X0_setting hSK l ad ob6 (x1 - (2 : Int32)) h c59) md_X0_setting qmX11_323 g64 (by decide) rfl rfl rfl ⟨Nat.le_of_ble_eq_true rfl, Nat.le_of_ble_eq_true rfl⟩ rfl hl.1 rfl (Nat.le_of_ble_eq_true rfl) dX11_count_112 ⟨Nat.le_of_ble_eq_true rfl, Nat.le_of_ble_eq_true rfl⟩) (fun H locs hB => ?_)
                      refine lv_goto (tgt := 119) hx hb dX11_count_115 (by decide) ?_
                      replace hv := Option.some.inj hv
                      subst hv
                      rw [← kt]
                      exact z_iret hc hB hr dX11_count_119
                · replace hv := y_br_f hv c56
                  by_cases c65 : x1 = 8
                  · replace hv := y_br_t hv c65
                    refine lv_tableIn (off := 66) (tgt := 78) hx hb dX11_count_12 (by rw [c65]; decide) (by rw [c65]; decide) (by rw [c65]; rfl) (by decide) ?_
                    refine lv_aload_n hx hb dX11_count_78 rfl (lv_at hl 1 rfl) ?_
                    refine z_getR hc hB 10 3 g1 eob2 (by decide) (by decide) rfl (z_l1 hc qfX11_36) dX11_count_79 ?_
                    refine z_getR hc hB 8 0 g3 eob4 (by decide) (by decide) rfl (z_l2 hc qfX11_106) dX11_count_82 ?_
                    refine z_getI hc hB 2 1 g5 (by decide) (by decide) rfl (z_l2 hc qfX11_162) dX11_count_85 ?_
                    replace hv := Option.some.inj hv
                    subst hv
                    rw [← kt]
                    exact z_iret hc hB hr dX11_count_88
                  · replace hv := y_br_f hv c65
                    by_cases c66 : x1 = 9
                    · replace hv := y_br_t hv c66
                      refine lv_tableIn (off := 77) (tgt := 89) hx hb dX11_count_12 (by rw [c66]; decide) (by rw [c66]; decide) (by rw [c66]; rfl) (by decide) ?_
                      refine lv_aload_n hx hb dX11_count_89 rfl (lv_at hl 1 rfl) ?_
                      obtain ⟨ob67, eob67, hv⟩ := y_bi_e hv
                      refine z_getR hc hB 10 0 g1 eob67 (by decide) (by decide) rfl (z_l1 hc qfX11_15) dX11_count_90 ?_
                      obtain ⟨g68, hv⟩ := y_gd_e hv
                      refine z_getI hc hB 1 1 g68 (by decide) (by decide) rfl (z_l2 hc qfX11_80) dX11_count_93 ?_
                      replace hv := Option.some.inj hv
                      subst hv
                      rw [← kt]
                      exact z_iret hc hB hr dX11_count_96
                    · replace hv := y_br_f hv c66
                      refine lv_tableOut (tgt := 97) hx hb dX11_count_12 (by have := y_nt (z := 0) (by decide) c7; have := y_nt (z := 1) (by decide) c9; have := y_nt (z := 2) (by decide) c11; have := y_nt (z := 3) (by decide) c20; have := y_nt (z := 4) (by decide) c29; have := y_nt (z := 5) (by decide) c38; have := y_nt (z := 6) (by decide) c47; have := y_nt (z := 7) (by decide) c56; have := y_nt (z := 8) (by decide) c65; have := y_nt (z := 9) (by decide) c66; omega) (by decide) ?_
                      refine lv_iload_n hx hb dX11_count_97 rfl (lv_at hl 2 rfl) ?_
                      refine lv_iconst (v := (2 : Int32)) hx hb dX11_count_98 (by decide) ?_
                      refine lv_icmp_lt (tgt := 118) hx hb dX11_count_99 (by decide) (fun c69 => ?_) (fun c69 => ?_)
                      · replace hv := y_br_t hv c69
                        exact b118 _ _ _ hB (lv_sub hl [] rfl) _ hv kt
                      · replace hv := y_br_f hv c69
                        refine lv_iload_n hx hb dX11_count_102 rfl (lv_at hl 2 rfl) ?_
                        refine lv_bipush (v := (7 : Int32)) hx hb dX11_count_103 (by decide) ?_
                        refine lv_icmp_gt (tgt := 118) hx hb dX11_count_105 (by decide) (fun c70 => ?_) (fun c70 => ?_)
                        · replace hv := y_br_t hv c70
                          exact b118 _ _ _ hB (lv_sub hl [] rfl) _ hv kt
                        · replace hv := y_br_f hv c70
                          refine lv_aload_n hx hb dX11_count_108 rfl (lv_at hl 0 rfl) ?_
                          refine lv_iload_n hx hb dX11_count_109 rfl (lv_at hl 2 rfl) ?_
                          refine lv_iconst (v := (2 : Int32)) hx hb dX11_count_110 (by decide) ?_
                          refine lv_isub hx hb dX11_count_111 ?_
                          obtain ⟨g76, hv⟩ := y_gd_e hv
                          obtain ⟨r72, c71, hv⟩ := y_bi_e hv
                          refine z_thI hc hB (z_runV hc hB 0 (mm_X0_setting hSK l ad ob6 (x1 - (2 : Int32)) h c71) md_X0_setting qmX11_323 g76 (by decide) rfl rfl rfl ⟨Nat.le_of_ble_eq_true rfl, Nat.le_of_ble_eq_true rfl⟩ rfl hl.1 rfl (Nat.le_of_ble_eq_true rfl) dX11_count_112 ⟨Nat.le_of_ble_eq_true rfl, Nat.le_of_ble_eq_true rfl⟩) (fun H locs hB => ?_)
                          refine lv_goto (tgt := 119) hx hb dX11_count_115 (by decide) ?_
                          replace hv := Option.some.inj hv
                          subst hv
                          rw [← kt]
                          exact z_iret hc hB hr dX11_count_119
