/-! the methods of the class: the rows that decode, a function each, the walk (by gen5.py) -/
theorem qfX3_60 : Cond.fieldLink RX3 60 "DreamTests$Word" "UP" "LDreamTests$Word;" ∈ z_ws := List.mem_filter.mpr ⟨List.mem_append_right _ (List.mem_of_getElem? (i := 875) (by decide +kernel)), rfl⟩
theorem qmX3_66 : Cond.methodLink RX3 66 yX3_readAct ∈ z_ws := List.mem_filter.mpr ⟨List.mem_append_right _ (List.mem_of_getElem? (i := 877) (by decide +kernel)), rfl⟩
theorem qc_X3_readAct : Cond.code yX3_readAct cX3_readAct 3 (some .boolean) ∈ z_ws := List.mem_filter.mpr ⟨List.mem_append_right _ (List.mem_of_getElem? (i := 880) (by decide +kernel)), rfl⟩
theorem qi_X3_readAct : Cond.instanceMethod yX3_readAct ∈ z_ws := List.mem_filter.mpr ⟨List.mem_append_right _ (List.mem_of_getElem? (i := 879) (by decide +kernel)), rfl⟩
theorem qs_X3_readAct : Cond.selects RX3 yX3_readAct yX3_readAct ∈ z_ws := List.mem_filter.mpr ⟨List.mem_append_left _ (List.mem_of_getElem? (i := 18) (by decide +kernel)), rfl⟩
theorem md_X3_readAct : z_mdV yX3_readAct cX3_readAct 3 (some .boolean) 2 := ⟨⟨qn_RX3, qc_X3_readAct, ⟨by decide +kernel, by decide +kernel, by decide +kernel⟩⟩, qi_X3_readAct, qs_X3_readAct⟩
theorem qfX3_44 : Cond.fieldLink RX3 44 "DreamTests$Word" "IN" "LDreamTests$Word;" ∈ z_ws := List.mem_filter.mpr ⟨List.mem_append_right _ (List.mem_of_getElem? (i := 855) (by decide +kernel)), rfl⟩
theorem qfX3_63 : Cond.fieldLink RX3 63 "DreamTests$Word" "BED" "LDreamTests$Word;" ∈ z_ws := List.mem_filter.mpr ⟨List.mem_append_right _ (List.mem_of_getElem? (i := 876) (by decide +kernel)), rfl⟩
theorem qmX3_70 : Cond.methodLink RX3 70 yX3_readAnswer ∈ z_ws := List.mem_filter.mpr ⟨List.mem_append_right _ (List.mem_of_getElem? (i := 881) (by decide +kernel)), rfl⟩
theorem qc_X3_readAnswer : Cond.code yX3_readAnswer cX3_readAnswer 5 (some .boolean) ∈ z_ws := List.mem_filter.mpr ⟨List.mem_append_right _ (List.mem_of_getElem? (i := 884) (by decide +kernel)), rfl⟩
theorem qi_X3_readAnswer : Cond.instanceMethod yX3_readAnswer ∈ z_ws := List.mem_filter.mpr ⟨List.mem_append_right _ (List.mem_of_getElem? (i := 883) (by decide +kernel)), rfl⟩
theorem qs_X3_readAnswer : Cond.selects RX3 yX3_readAnswer yX3_readAnswer ∈ z_ws := List.mem_filter.mpr ⟨List.mem_append_left _ (List.mem_of_getElem? (i := 19) (by decide +kernel)), rfl⟩
theorem md_X3_readAnswer : z_mdV yX3_readAnswer cX3_readAnswer 5 (some .boolean) 2 := ⟨⟨qn_RX3, qc_X3_readAnswer, ⟨by decide +kernel, by decide +kernel, by decide +kernel⟩⟩, qi_X3_readAnswer, qs_X3_readAnswer⟩
theorem qmX3_54 : Cond.methodLink RX3 54 yX3_readIn ∈ z_ws := List.mem_filter.mpr ⟨List.mem_append_right _ (List.mem_of_getElem? (i := 858) (by decide +kernel)), rfl⟩
theorem qc_X3_readIn : Cond.code yX3_readIn cX3_readIn 5 (some .boolean) ∈ z_ws := List.mem_filter.mpr ⟨List.mem_append_right _ (List.mem_of_getElem? (i := 861) (by decide +kernel)), rfl⟩
theorem qi_X3_readIn : Cond.instanceMethod yX3_readIn ∈ z_ws := List.mem_filter.mpr ⟨List.mem_append_right _ (List.mem_of_getElem? (i := 860) (by decide +kernel)), rfl⟩
theorem qs_X3_readIn : Cond.selects RX3 yX3_readIn yX3_readIn ∈ z_ws := List.mem_filter.mpr ⟨List.mem_append_left _ (List.mem_of_getElem? (i := 16) (by decide +kernel)), rfl⟩
theorem md_X3_readIn : z_mdV yX3_readIn cX3_readIn 5 (some .boolean) 2 := ⟨⟨qn_RX3, qc_X3_readIn, ⟨by decide +kernel, by decide +kernel, by decide +kernel⟩⟩, qi_X3_readIn, qs_X3_readIn⟩
theorem dX3_readLine_0 : decode cX3_readLine 0 = .ok (.aload_n 1, 1) := by decide +kernel
theorem dX3_readLine_1 : decode cX3_readLine 1 = .ok (.getstatic 44, 3) := by decide +kernel
theorem dX3_readLine_4 : decode cX3_readLine 4 = .ok (.invokevirtual 50, 3) := by decide +kernel
theorem dX3_readLine_7 : decode cX3_readLine 7 = .ok (.ifCond .eq 10, 3) := by decide +kernel
theorem dX3_readLine_10 : decode cX3_readLine 10 = .ok (.aload_n 0, 1) := by decide +kernel
theorem dX3_readLine_11 : decode cX3_readLine 11 = .ok (.aload_n 1, 1) := by decide +kernel
theorem dX3_readLine_12 : decode cX3_readLine 12 = .ok (.aload_n 2, 1) := by decide +kernel
theorem dX3_readLine_13 : decode cX3_readLine 13 = .ok (.invokevirtual 54, 3) := by decide +kernel
theorem dX3_readLine_16 : decode cX3_readLine 16 = .ok (.ireturn, 1) := by decide +kernel
theorem dX3_readLine_17 : decode cX3_readLine 17 = .ok (.aload_n 0, 1) := by decide +kernel
theorem dX3_readLine_18 : decode cX3_readLine 18 = .ok (.getfield 28, 3) := by decide +kernel
theorem dX3_readLine_21 : decode cX3_readLine 21 = .ok (.ifCond .ne 9, 3) := by decide +kernel
theorem dX3_readLine_24 : decode cX3_readLine 24 = .ok (.aload_n 1, 1) := by decide +kernel
theorem dX3_readLine_25 : decode cX3_readLine 25 = .ok (.iconst 1, 1) := by decide +kernel
theorem dX3_readLine_26 : decode cX3_readLine 26 = .ok (.invokevirtual 57, 3) := by decide +kernel
theorem dX3_readLine_29 : decode cX3_readLine 29 = .ok (.ireturn, 1) := by decide +kernel
theorem dX3_readLine_30 : decode cX3_readLine 30 = .ok (.aload_n 1, 1) := by decide +kernel
theorem dX3_readLine_31 : decode cX3_readLine 31 = .ok (.getstatic 60, 3) := by decide +kernel
theorem dX3_readLine_34 : decode cX3_readLine 34 = .ok (.invokevirtual 50, 3) := by decide +kernel
theorem dX3_readLine_37 : decode cX3_readLine 37 = .ok (.ifCond .ne 13, 3) := by decide +kernel
theorem dX3_readLine_40 : decode cX3_readLine 40 = .ok (.aload_n 1, 1) := by decide +kernel
theorem dX3_readLine_41 : decode cX3_readLine 41 = .ok (.getstatic 63, 3) := by decide +kernel
theorem dX3_readLine_44 : decode cX3_readLine 44 = .ok (.invokevirtual 50, 3) := by decide +kernel
theorem dX3_readLine_47 : decode cX3_readLine 47 = .ok (.ifCond .eq 24, 3) := by decide +kernel
theorem dX3_readLine_50 : decode cX3_readLine 50 = .ok (.aload_n 0, 1) := by decide +kernel
theorem dX3_readLine_51 : decode cX3_readLine 51 = .ok (.aload_n 1, 1) := by decide +kernel
theorem dX3_readLine_52 : decode cX3_readLine 52 = .ok (.aload_n 1, 1) := by decide +kernel
theorem dX3_readLine_53 : decode cX3_readLine 53 = .ok (.getstatic 60, 3) := by decide +kernel
theorem dX3_readLine_56 : decode cX3_readLine 56 = .ok (.invokevirtual 50, 3) := by decide +kernel
theorem dX3_readLine_59 : decode cX3_readLine 59 = .ok (.ifCond .eq 7, 3) := by decide +kernel
theorem dX3_readLine_62 : decode cX3_readLine 62 = .ok (.iconst 2, 1) := by decide +kernel
theorem dX3_readLine_63 : decode cX3_readLine 63 = .ok (.goto 4, 3) := by decide +kernel
theorem dX3_readLine_66 : decode cX3_readLine 66 = .ok (.iconst 3, 1) := by decide +kernel
theorem dX3_readLine_67 : decode cX3_readLine 67 = .ok (.invokevirtual 66, 3) := by decide +kernel
theorem dX3_readLine_70 : decode cX3_readLine 70 = .ok (.ireturn, 1) := by decide +kernel
theorem dX3_readLine_71 : decode cX3_readLine 71 = .ok (.aload_n 0, 1) := by decide +kernel
theorem dX3_readLine_72 : decode cX3_readLine 72 = .ok (.aload_n 1, 1) := by decide +kernel
theorem dX3_readLine_73 : decode cX3_readLine 73 = .ok (.aload_n 2, 1) := by decide +kernel
theorem dX3_readLine_74 : decode cX3_readLine 74 = .ok (.invokevirtual 70, 3) := by decide +kernel
theorem dX3_readLine_77 : decode cX3_readLine 77 = .ok (.ireturn, 1) := by decide +kernel
abbrev rm_X3_readLine : Room := { frames := 4, cells := 0, slots := 0, locals := 93 }
noncomputable def fX3_readLine_b50 (o0 : Nat) (o1 : Nat) (h : z_T) : Option (Int32 × z_T) :=
  y_gd (z_ok h o1 6) <|
  y_bi (fX6_isAt o1 12 h) fun r2 =>
  y_br (r2 = 0)
    (y_gd (z_ok h o0 3) <|
    y_bi (fX3_readAct o0 o1 (3 : Int32) h) fun ⟨r9, h13⟩ =>
    y_gd (y_b r9) <|
    some (r9, h13))
    (y_gd (z_ok h o0 3) <|
    y_bi (fX3_readAct o0 o1 (2 : Int32) h) fun ⟨r17, h21⟩ =>
    y_gd (y_b r17) <|
    some (r17, h21))
noncomputable def fX3_readLine (o0 : Nat) (o1 : Nat) (o2 : Nat) (h : z_T) : Option (Int32 × z_T) :=
  y_gd (z_ok h o1 6) <|
  y_bi (fX6_isAt o1 9 h) fun r25 =>
  y_br (r25 = 0)
    (y_gd (z_ok h o0 3) <|
    y_br ((z_I h o0 2) = 0)
      (y_bi (fX6_fail o1 (1 : Int32) h) fun ⟨r53, h57⟩ =>
      y_gd (y_b r53) <|
      some (r53, h57))
      (y_bi (fX6_isAt o1 12 h) fun r34 =>
      y_br (r34 = 0)
        (y_bi (fX6_isAt o1 13 h) fun r40 =>
        y_br (r40 = 0)
          (y_bi (fX3_readAnswer o0 o1 o2 h) fun ⟨r46, h50⟩ =>
          y_gd (y_b r46) <|
          some (r46, h50))
          (fX3_readLine_b50 o0 o1 h))
        (fX3_readLine_b50 o0 o1 h)))
    (y_gd (z_ok h o0 3) <|
    y_bi (fX3_readIn o0 o1 o2 h) fun ⟨r60, h64⟩ =>
    y_gd (y_b r60) <|
    some (r60, h64))
set_option maxHeartbeats 4000000 in
set_option maxRecDepth 100000 in
theorem mm_X3_readLine {G : z_Gt} (hSK : z_SK (z_S G)) (l : Launch) (ad : Nat → Nat) (o0 : Nat) (o1 : Nat) (o2 : Nat) (h : z_T) {r0 : Int32} {h9 : z_T} (hv : fX3_readLine o0 o1 o2 h = some (r0, h9)) : z_Mi G (z_S G) l yX3_readLine cX3_readLine 3 (.boolean) rm_X3_readLine 0 0 [.ref (ad o0), .ref (ad o1), .ref (ad o2)] ad h h9 r0 := by
  refine z_ofW hSK (by decide) (Nat.le_of_ble_eq_true rfl) ?_
  intro p e s m args below meth c ls hc hr hnm hB hl
  have hx := hc.1.1
  have hb := hc.1.2.1
  have hown := hc.1.2.2.2.1
  have hts := hc.1.2.2.2.2
  replace hc : z_C G (z_S G) ad (z_n h) p m c cX3_readLine 3 s args RX3 meth := hc
  replace hown : s.vm.findClass RX3 = some m.cls := hown
  replace hl : lv_has ls 3 [(0, .ref (ad o0)), (1, .ref (ad o1)), (2, .ref (ad o2))] := hl
  show W p l e rm_X3_readLine s m args below meth c s.heap [] 0 0 (MQ below (z_Qi G ad h9 (z_n h) s.heap.size r0) args s 0 0 (z_A ad (z_n h) s.heap.size)) (F0 m 0 ls [])
  obtain ⟨rs, kt⟩ : ∃ rs : Int32 × z_T, rs = (r0, h9) := ⟨_, rfl⟩
  generalize hn0 : z_n h = n0 at hc hB ⊢
  have b50 : ∀ (h : z_T) (H : Heap) (locs : List Loc) (ls : Array Slot), z_B G ad n0 s h H locs → lv_has ls 3 [(0, .ref (ad o0)), (1, .ref (ad o1))] → ∀ w, fX3_readLine_b50 o0 o1 h = some w → w = (r0, h9) → W p l e rm_X3_readLine s m args below meth c H locs 0 0 (MQ below (z_Qi G ad h9 n0 s.heap.size r0) args s 0 0 (z_A ad n0 s.heap.size)) (F0 m 50 ls []) := by
    intro h H locs ls hB hl w hv kb
    refine lv_aload_n hx hb dX3_readLine_50 rfl (lv_at hl 0 rfl) ?_
    refine lv_aload_n hx hb dX3_readLine_51 rfl (lv_at hl 1 rfl) ?_
    refine lv_aload_n hx hb dX3_readLine_52 rfl (lv_at hl 1 rfl) ?_
    refine z_gets hc hB (hc.2.1.2.2.2.1.1 12 (by decide)) qfX3_60 dX3_readLine_53 ?_
    obtain ⟨g6, hv⟩ := y_gd_e hv
    obtain ⟨r2, c1, hv⟩ := y_bi_e hv
    refine z_thI hc hB (z_runV hc hB 6 (mm_X6_isAt hSK l ad o1 12 h c1) md_X6_isAt qmX3_50 g6 (by decide) rfl rfl rfl ⟨Nat.le_of_ble_eq_true rfl, Nat.le_of_ble_eq_true rfl⟩ rfl hl.1 rfl (Nat.le_of_ble_eq_true rfl) dX3_readLine_56 ⟨Nat.le_of_ble_eq_true rfl, Nat.le_of_ble_eq_true rfl⟩) (fun H locs hB => ?_)
    refine lv_if_eq (tgt := 66) hx hb dX3_readLine_59 (by decide) (fun c7 => ?_) (fun c7 => ?_)
    · replace hv := y_br_t hv c7
      refine lv_iconst (v := (3 : Int32)) hx hb dX3_readLine_66 (by decide) ?_
      obtain ⟨g14, hv⟩ := y_gd_e hv
      obtain ⟨⟨r9, h13⟩, c8, hv⟩ := y_bi_e hv
      refine z_thI hc hB (z_runV hc hB 3 (mm_X3_readAct hSK l ad o0 o1 (3 : Int32) h c8) md_X3_readAct qmX3_66 g14 (by decide) rfl rfl rfl ⟨Nat.le_of_ble_eq_true rfl, Nat.le_of_ble_eq_true rfl⟩ rfl hl.1 rfl (Nat.le_of_ble_eq_true rfl) dX3_readLine_67 ⟨Nat.le_of_ble_eq_true rfl, Nat.le_of_ble_eq_true rfl⟩) (fun H locs hB => ?_)
      obtain ⟨y15, hv⟩ := y_gd_e hv
      replace hv := Option.some.inj hv
      subst hv
      obtain ⟨e1, e2⟩ := y_pr kb
      rw [← e1, ← e2]
      exact z_zret hc hB hr (y_b_n y15) dX3_readLine_70
    · replace hv := y_br_f hv c7
      refine lv_iconst (v := (2 : Int32)) hx hb dX3_readLine_62 (by decide) ?_
      refine lv_goto (tgt := 67) hx hb dX3_readLine_63 (by decide) ?_
      obtain ⟨g22, hv⟩ := y_gd_e hv
      obtain ⟨⟨r17, h21⟩, c16, hv⟩ := y_bi_e hv
      refine z_thI hc hB (z_runV hc hB 3 (mm_X3_readAct hSK l ad o0 o1 (2 : Int32) h c16) md_X3_readAct qmX3_66 g22 (by decide) rfl rfl rfl ⟨Nat.le_of_ble_eq_true rfl, Nat.le_of_ble_eq_true rfl⟩ rfl hl.1 rfl (Nat.le_of_ble_eq_true rfl) dX3_readLine_67 ⟨Nat.le_of_ble_eq_true rfl, Nat.le_of_ble_eq_true rfl⟩) (fun H locs hB => ?_)
      obtain ⟨y23, hv⟩ := y_gd_e hv
      replace hv := Option.some.inj hv
      subst hv
      obtain ⟨e1, e2⟩ := y_pr kb
      rw [← e1, ← e2]
      exact z_zret hc hB hr (y_b_n y23) dX3_readLine_70
  rw [← kt] at hv
  refine lv_aload_n hx hb dX3_readLine_0 rfl (lv_at hl 1 rfl) ?_
  refine z_gets hc hB (hc.2.1.2.2.2.1.1 9 (by decide)) qfX3_44 dX3_readLine_1 ?_
  obtain ⟨g29, hv⟩ := y_gd_e hv
  obtain ⟨r25, c24, hv⟩ := y_bi_e hv
  refine z_thI hc hB (z_runV hc hB 6 (mm_X6_isAt hSK l ad o1 9 h c24) md_X6_isAt qmX3_50 g29 (by decide) rfl rfl rfl ⟨Nat.le_of_ble_eq_true rfl, Nat.le_of_ble_eq_true rfl⟩ rfl hl.1 rfl (Nat.le_of_ble_eq_true rfl) dX3_readLine_4 ⟨Nat.le_of_ble_eq_true rfl, Nat.le_of_ble_eq_true rfl⟩) (fun H locs hB => ?_)
  refine lv_if_eq (tgt := 17) hx hb dX3_readLine_7 (by decide) (fun c30 => ?_) (fun c30 => ?_)
  · replace hv := y_br_t hv c30
    refine lv_aload_n hx hb dX3_readLine_17 rfl (lv_at hl 0 rfl) ?_
    obtain ⟨g31, hv⟩ := y_gd_e hv
    refine z_getI hc hB 3 2 g31 (by decide) (by decide) rfl (z_l1 hc qfX3_28) dX3_readLine_18 ?_
    refine lv_if_ne (tgt := 30) hx hb dX3_readLine_21 (by decide) (fun c32 => ?_) (fun c32 => ?_)
    · replace hv := y_br_f hv c32
      refine lv_aload_n hx hb dX3_readLine_30 rfl (lv_at hl 1 rfl) ?_
      refine z_gets hc hB (hc.2.1.2.2.2.1.1 12 (by decide)) qfX3_60 dX3_readLine_31 ?_
      obtain ⟨r34, c33, hv⟩ := y_bi_e hv
      refine z_thI hc hB (z_runV hc hB 6 (mm_X6_isAt hSK l ad o1 12 h c33) md_X6_isAt qmX3_50 g29 (by decide) rfl rfl rfl ⟨Nat.le_of_ble_eq_true rfl, Nat.le_of_ble_eq_true rfl⟩ rfl hl.1 rfl (Nat.le_of_ble_eq_true rfl) dX3_readLine_34 ⟨Nat.le_of_ble_eq_true rfl, Nat.le_of_ble_eq_true rfl⟩) (fun H locs hB => ?_)
      refine lv_if_ne (tgt := 50) hx hb dX3_readLine_37 (by decide) (fun c38 => ?_) (fun c38 => ?_)
      · replace hv := y_br_f hv c38
        exact b50 h _ _ _ hB (lv_sub hl [0, 1] rfl) _ hv kt
      · replace hv := y_br_t hv c38
        refine lv_aload_n hx hb dX3_readLine_40 rfl (lv_at hl 1 rfl) ?_
        refine z_gets hc hB (hc.2.1.2.2.2.1.1 13 (by decide)) qfX3_63 dX3_readLine_41 ?_
        obtain ⟨r40, c39, hv⟩ := y_bi_e hv
        refine z_thI hc hB (z_runV hc hB 6 (mm_X6_isAt hSK l ad o1 13 h c39) md_X6_isAt qmX3_50 g29 (by decide) rfl rfl rfl ⟨Nat.le_of_ble_eq_true rfl, Nat.le_of_ble_eq_true rfl⟩ rfl hl.1 rfl (Nat.le_of_ble_eq_true rfl) dX3_readLine_44 ⟨Nat.le_of_ble_eq_true rfl, Nat.le_of_ble_eq_true rfl⟩) (fun H locs hB => ?_)
        refine lv_if_eq (tgt := 71) hx hb dX3_readLine_47 (by decide) (fun c44 => ?_) (fun c44 => ?_)
        · replace hv := y_br_t hv c44
          refine lv_aload_n hx hb dX3_readLine_71 rfl (lv_at hl 0 rfl) ?_
          refine lv_aload_n hx hb dX3_readLine_72 rfl (lv_at hl 1 rfl) ?_
          refine lv_aload_n hx hb dX3_readLine_73 rfl (lv_at hl 2 rfl) ?_
          obtain ⟨⟨r46, h50⟩, c45, hv⟩ := y_bi_e hv
          refine z_thI hc hB (z_runV hc hB 3 (mm_X3_readAnswer hSK l ad o0 o1 o2 h c45) md_X3_readAnswer qmX3_70 g31 (by decide) rfl rfl rfl ⟨Nat.le_of_ble_eq_true rfl, Nat.le_of_ble_eq_true rfl⟩ rfl hl.1 rfl (Nat.le_of_ble_eq_true rfl) dX3_readLine_74 ⟨Nat.le_of_ble_eq_true rfl, Nat.le_of_ble_eq_true rfl⟩) (fun H locs hB => ?_)
          obtain ⟨y51, hv⟩ := y_gd_e hv
          replace hv := Option.some.inj hv
          subst hv
          obtain ⟨e1, e2⟩ := y_pr kt
          rw [← e1, ← e2]
          exact z_zret hc hB hr (y_b_n y51) dX3_readLine_77
        · replace hv := y_br_f hv c44
          exact b50 h _ _ _ hB (lv_sub hl [0, 1] rfl) _ hv kt
    · replace hv := y_br_t hv c32
      refine lv_aload_n hx hb dX3_readLine_24 rfl (lv_at hl 1 rfl) ?_
      refine lv_iconst (v := (1 : Int32)) hx hb dX3_readLine_25 (by decide) ?_
      obtain ⟨⟨r53, h57⟩, c52, hv⟩ := y_bi_e hv
      refine z_thI hc hB (z_runV hc hB 6 (mm_X6_fail hSK l ad o1 (1 : Int32) h c52) md_X6_fail qmX3_57 g29 (by decide) rfl rfl rfl ⟨Nat.le_of_ble_eq_true rfl, Nat.le_of_ble_eq_true rfl⟩ rfl hl.1 rfl (Nat.le_of_ble_eq_true rfl) dX3_readLine_26 ⟨Nat.le_of_ble_eq_true rfl, Nat.le_of_ble_eq_true rfl⟩) (fun H locs hB => ?_)
      obtain ⟨y58, hv⟩ := y_gd_e hv
      replace hv := Option.some.inj hv
      subst hv
      obtain ⟨e1, e2⟩ := y_pr kt
      rw [← e1, ← e2]
      exact z_zret hc hB hr (y_b_n y58) dX3_readLine_29
  · replace hv := y_br_f hv c30
    refine lv_aload_n hx hb dX3_readLine_10 rfl (lv_at hl 0 rfl) ?_
    refine lv_aload_n hx hb dX3_readLine_11 rfl (lv_at hl 1 rfl) ?_
    refine lv_aload_n hx hb dX3_readLine_12 rfl (lv_at hl 2 rfl) ?_
    obtain ⟨g65, hv⟩ := y_gd_e hv
    obtain ⟨⟨r60, h64⟩, c59, hv⟩ := y_bi_e hv
    refine z_thI hc hB (z_runV hc hB 3 (mm_X3_readIn hSK l ad o0 o1 o2 h c59) md_X3_readIn qmX3_54 g65 (by decide) rfl rfl rfl ⟨Nat.le_of_ble_eq_true rfl, Nat.le_of_ble_eq_true rfl⟩ rfl hl.1 rfl (Nat.le_of_ble_eq_true rfl) dX3_readLine_13 ⟨Nat.le_of_ble_eq_true rfl, Nat.le_of_ble_eq_true rfl⟩) (fun H locs hB => ?_)
    obtain ⟨y66, hv⟩ := y_gd_e hv
    replace hv := Option.some.inj hv
    subst hv
    obtain ⟨e1, e2⟩ := y_pr kt
    rw [← e1, ← e2]
    exact z_zret hc hB hr (y_b_n y66) dX3_readLine_16
theorem qfX3_31 : Cond.fieldLinkNest RX3 31 "DreamTests$Reader" "kind" "I" "DreamTests" ∈ z_nw := List.mem_filter.mpr ⟨List.mem_of_getElem? (i := 112) (by decide +kernel), rfl⟩
theorem qmX3_36 : Cond.methodLink RX3 36 yX3_readLine ∈ z_ws := List.mem_filter.mpr ⟨List.mem_append_right _ (List.mem_of_getElem? (i := 851) (by decide +kernel)), rfl⟩
theorem qc_X3_readLine : Cond.code yX3_readLine cX3_readLine 3 (some .boolean) ∈ z_ws := List.mem_filter.mpr ⟨List.mem_append_right _ (List.mem_of_getElem? (i := 854) (by decide +kernel)), rfl⟩
theorem qi_X3_readLine : Cond.instanceMethod yX3_readLine ∈ z_ws := List.mem_filter.mpr ⟨List.mem_append_right _ (List.mem_of_getElem? (i := 853) (by decide +kernel)), rfl⟩
theorem qs_X3_readLine : Cond.selects RX3 yX3_readLine yX3_readLine ∈ z_ws := List.mem_filter.mpr ⟨List.mem_append_left _ (List.mem_of_getElem? (i := 15) (by decide +kernel)), rfl⟩
theorem md_X3_readLine : z_mdV yX3_readLine cX3_readLine 3 (some .boolean) 2 := ⟨⟨qn_RX3, qc_X3_readLine, ⟨by decide +kernel, by decide +kernel, by decide +kernel⟩⟩, qi_X3_readLine, qs_X3_readLine⟩
theorem qmX3_40 : Cond.methodLink RX3 40 yX6_take ∈ z_ws := List.mem_filter.mpr ⟨List.mem_append_right _ (List.mem_of_getElem? (i := 890) (by decide +kernel)), rfl⟩
theorem dX3_readLines_0 : decode cX3_readLines 0 = .ok (.aload_n 0, 1) := by decide +kernel
theorem dX3_readLines_1 : decode cX3_readLines 1 = .ok (.iconst 0, 1) := by decide +kernel
theorem dX3_readLines_2 : decode cX3_readLines 2 = .ok (.putfield 28, 3) := by decide +kernel
theorem dX3_readLines_5 : decode cX3_readLines 5 = .ok (.iconst 0, 1) := by decide +kernel
theorem dX3_readLines_6 : decode cX3_readLines 6 = .ok (.istore_n 3, 1) := by decide +kernel
theorem dX3_readLines_7 : decode cX3_readLines 7 = .ok (.iload_n 3, 1) := by decide +kernel
theorem dX3_readLines_8 : decode cX3_readLines 8 = .ok (.bipush 40, 2) := by decide +kernel
theorem dX3_readLines_10 : decode cX3_readLines 10 = .ok (.if_icmp .gt 36, 3) := by decide +kernel
theorem dX3_readLines_13 : decode cX3_readLines 13 = .ok (.aload_n 1, 1) := by decide +kernel
theorem dX3_readLines_14 : decode cX3_readLines 14 = .ok (.getfield 31, 3) := by decide +kernel
theorem dX3_readLines_17 : decode cX3_readLines 17 = .ok (.ifCond .eq 29, 3) := by decide +kernel
theorem dX3_readLines_20 : decode cX3_readLines 20 = .ok (.aload_n 0, 1) := by decide +kernel
theorem dX3_readLines_21 : decode cX3_readLines 21 = .ok (.aload_n 1, 1) := by decide +kernel
theorem dX3_readLines_22 : decode cX3_readLines 22 = .ok (.aload_n 2, 1) := by decide +kernel
theorem dX3_readLines_23 : decode cX3_readLines 23 = .ok (.invokevirtual 36, 3) := by decide +kernel
theorem dX3_readLines_26 : decode cX3_readLines 26 = .ok (.ifCond .eq 12, 3) := by decide +kernel
theorem dX3_readLines_29 : decode cX3_readLines 29 = .ok (.aload_n 1, 1) := by decide +kernel
theorem dX3_readLines_30 : decode cX3_readLines 30 = .ok (.bipush 59, 2) := by decide +kernel
theorem dX3_readLines_32 : decode cX3_readLines 32 = .ok (.invokevirtual 40, 3) := by decide +kernel
theorem dX3_readLines_35 : decode cX3_readLines 35 = .ok (.ifCond .ne 5, 3) := by decide +kernel
theorem dX3_readLines_38 : decode cX3_readLines 38 = .ok (.iconst 0, 1) := by decide +kernel
theorem dX3_readLines_39 : decode cX3_readLines 39 = .ok (.ireturn, 1) := by decide +kernel
theorem dX3_readLines_40 : decode cX3_readLines 40 = .ok (.iinc 3 1, 3) := by decide +kernel
theorem dX3_readLines_43 : decode cX3_readLines 43 = .ok (.goto (-36), 3) := by decide +kernel
theorem dX3_readLines_46 : decode cX3_readLines 46 = .ok (.iconst 1, 1) := by decide +kernel
theorem dX3_readLines_47 : decode cX3_readLines 47 = .ok (.ireturn, 1) := by decide +kernel
abbrev rm_X3_readLines : Room := { frames := 5, cells := 0, slots := 0, locals := 115 }
noncomputable def fX3_readLines_b7_i (o0 : Nat) (o1 : Nat) (o2 : Nat) (x3 : Int32) (h : z_T) : Option ((Int32 × z_T) ⊕ (Int32 × z_T)) :=
  y_br ((40 : Int32) < x3)
    (y_mp <|
    some ((1 : Int32), h))
    (y_gd (z_ok h o1 6) <|
    y_br ((z_I h o1 4) = 0)
      (y_mp <|
      some ((1 : Int32), h))
      (y_gd (z_ok h o0 3) <|
      y_bi (fX3_readLine o0 o1 o2 h) fun ⟨r7, h11⟩ =>
      y_br (r7 = 0)
        (y_mp <|
        some ((0 : Int32), h11))
        (y_gd (z_ok h11 o1 6) <|
        y_bi (fX6_take o1 (59 : Int32) h11) fun ⟨r16, h20⟩ =>
        y_br (r16 = 0)
          (y_mp <|
          some ((0 : Int32), h20))
          (y_nm (x3 + 1) fun v23 =>
          some (.inl (v23, h20))))))
noncomputable def fX3_readLines_b7 (o0 : Nat) (o1 : Nat) (o2 : Nat) (x3 : Int32) (h : z_T) : Option (Int32 × z_T) := y_lp (fun q : Int32 × z_T => fX3_readLines_b7_i o0 o1 o2 q.1 q.2) (x3, h)
noncomputable def fX3_readLines (o0 : Nat) (o1 : Nat) (o2 : Nat) (h : z_T) : Option (Int32 × z_T) :=
  y_gd (z_ok h o0 3) <|
  y_nm (z_sI h o0 2 (0 : Int32)) fun h26 =>
  fX3_readLines_b7 o0 o1 o2 (0 : Int32) h26
set_option maxHeartbeats 4000000 in
set_option maxRecDepth 100000 in
theorem mm_X3_readLines {G : z_Gt} (hSK : z_SK (z_S G)) (l : Launch) (ad : Nat → Nat) (o0 : Nat) (o1 : Nat) (o2 : Nat) (h : z_T) {r0 : Int32} {h9 : z_T} (hv : fX3_readLines o0 o1 o2 h = some (r0, h9)) : z_Mi G (z_S G) l yX3_readLines cX3_readLines 4 (.boolean) rm_X3_readLines 0 0 [.ref (ad o0), .ref (ad o1), .ref (ad o2)] ad h h9 r0 := by
  refine z_ofW hSK (by decide) (Nat.le_of_ble_eq_true rfl) ?_
  intro p e s m args below meth c ls hc hr hnm hB hl
  have hx := hc.1.1
  have hb := hc.1.2.1
  have hown := hc.1.2.2.2.1
  have hts := hc.1.2.2.2.2
  replace hc : z_C G (z_S G) ad (z_n h) p m c cX3_readLines 4 s args RX3 meth := hc
  replace hown : s.vm.findClass RX3 = some m.cls := hown
  replace hl : lv_has ls 4 [(0, .ref (ad o0)), (1, .ref (ad o1)), (2, .ref (ad o2))] := hl
  show W p l e rm_X3_readLines s m args below meth c s.heap [] 0 0 (MQ below (z_Qi G ad h9 (z_n h) s.heap.size r0) args s 0 0 (z_A ad (z_n h) s.heap.size)) (F0 m 0 ls [])
  obtain ⟨rs, kt⟩ : ∃ rs : Int32 × z_T, rs = (r0, h9) := ⟨_, rfl⟩
  generalize hn0 : z_n h = n0 at hc hB ⊢
  have L7 : ∀ (nn7 : Nat) (x3 : Int32) (h : z_T) (H : Heap) (locs : List Loc) (ls : Array Slot), z_B G ad n0 s h H locs → lv_has ls 4 [(0, .ref (ad o0)), (1, .ref (ad o1)), (2, .ref (ad o2)), (3, .int x3)] → ∀ vv7, y_lpN (fun q : Int32 × z_T => fX3_readLines_b7_i o0 o1 o2 q.1 q.2) nn7 (x3, h) = some vv7 → vv7 = (r0, h9) → W p l e rm_X3_readLines s m args below meth c H locs 0 0 (MQ below (z_Qi G ad h9 n0 s.heap.size r0) args s 0 0 (z_A ad n0 s.heap.size)) (F0 m 7 ls []) := by
    intro nn7
    induction nn7 with
    | zero => intro x3 h H locs ls hB hl vv7 hv kv7; exact absurd hv (fun q => y_lpN_0 q)
    | succ nn7 ih7 =>
      intro x3 h H locs ls hB hl vv7 hv kv7
      obtain ⟨w, hq, kw7⟩ := y_lpN_e hv
      clear hv
      have hv : fX3_readLines_b7_i o0 o1 o2 x3 h = some w := hq
      clear hq
      refine lv_iload_n hx hb dX3_readLines_7 rfl (lv_at hl 3 rfl) ?_
      refine lv_bipush (v := (40 : Int32)) hx hb dX3_readLines_8 (by decide) ?_
      refine lv_icmp_gt (tgt := 46) hx hb dX3_readLines_10 (by decide) (fun c1 => ?_) (fun c1 => ?_)
      · replace hv := y_br_t hv c1
        obtain ⟨t2, hq, ew⟩ := y_mp_e hv
        clear hv; subst ew
        replace kw7 : t2 = _ := kw7
        subst kw7
        have hv := hq
        clear hq
        refine lv_iconst (v := (1 : Int32)) hx hb dX3_readLines_46 (by decide) ?_
        replace hv := Option.some.inj hv
        subst hv
        obtain ⟨e1, e2⟩ := y_pr kv7
        rw [← e1, ← e2]
        exact z_zret hc hB hr rfl dX3_readLines_47
      · replace hv := y_br_f hv c1
        refine lv_aload_n hx hb dX3_readLines_13 rfl (lv_at hl 1 rfl) ?_
        obtain ⟨g3, hv⟩ := y_gd_e hv
        refine z_getI hc hB 6 4 g3 (by decide) (by decide) rfl (z_l2 hc qfX3_31) dX3_readLines_14 ?_
        refine lv_if_eq (tgt := 46) hx hb dX3_readLines_17 (by decide) (fun c4 => ?_) (fun c4 => ?_)
        · replace hv := y_br_t hv c4
          obtain ⟨t5, hq, ew⟩ := y_mp_e hv
          clear hv; subst ew
          replace kw7 : t5 = _ := kw7
          subst kw7
          have hv := hq
          clear hq
          refine lv_iconst (v := (1 : Int32)) hx hb dX3_readLines_46 (by decide) ?_
          replace hv := Option.some.inj hv
          subst hv
          obtain ⟨e1, e2⟩ := y_pr kv7
          rw [← e1, ← e2]
          exact z_zret hc hB hr rfl dX3_readLines_47
        · replace hv := y_br_f hv c4
          refine lv_aload_n hx hb dX3_readLines_20 rfl (lv_at hl 0 rfl) ?_
          refine lv_aload_n hx hb dX3_readLines_21 rfl (lv_at hl 1 rfl) ?_
          refine lv_aload_n hx hb dX3_readLines_22 rfl (lv_at hl 2 rfl) ?_
          obtain ⟨g12, hv⟩ := y_gd_e hv
          obtain ⟨⟨r7, h11⟩, c6, hv⟩ := y_bi_e hv
          refine z_thI hc hB (z_runV hc hB 3 (mm_X3_readLine hSK l ad o0 o1 o2 h c6) md_X3_readLine qmX3_36 g12 (by decide) rfl rfl rfl ⟨Nat.le_of_ble_eq_true rfl, Nat.le_of_ble_eq_true rfl⟩ rfl hl.1 rfl (Nat.le_of_ble_eq_true rfl) dX3_readLines_23 ⟨Nat.le_of_ble_eq_true rfl, Nat.le_of_ble_eq_true rfl⟩) (fun H locs hB => ?_)
          refine lv_if_eq (tgt := 38) hx hb dX3_readLines_26 (by decide) (fun c13 => ?_) (fun c13 => ?_)
          · replace hv := y_br_t hv c13
            obtain ⟨t14, hq, ew⟩ := y_mp_e hv
            clear hv; subst ew
            replace kw7 : t14 = _ := kw7
            subst kw7
            have hv := hq
            clear hq
            refine lv_iconst (v := (0 : Int32)) hx hb dX3_readLines_38 (by decide) ?_
            replace hv := Option.some.inj hv
            subst hv
            obtain ⟨e1, e2⟩ := y_pr kv7
            rw [← e1, ← e2]
            exact z_zret hc hB hr rfl dX3_readLines_39
          · replace hv := y_br_f hv c13
            refine lv_aload_n hx hb dX3_readLines_29 rfl (lv_at hl 1 rfl) ?_
            refine lv_bipush (v := (59 : Int32)) hx hb dX3_readLines_30 (by decide) ?_
            obtain ⟨g21, hv⟩ := y_gd_e hv
            obtain ⟨⟨r16, h20⟩, c15, hv⟩ := y_bi_e hv
            refine z_thI hc hB (z_runV hc hB 6 (mm_X6_take hSK l ad o1 (59 : Int32) h11 c15) md_X6_take qmX3_40 g21 (by decide) rfl rfl rfl ⟨Nat.le_of_ble_eq_true rfl, Nat.le_of_ble_eq_true rfl⟩ rfl hl.1 rfl (Nat.le_of_ble_eq_true rfl) dX3_readLines_32 ⟨Nat.le_of_ble_eq_true rfl, Nat.le_of_ble_eq_true rfl⟩) (fun H locs hB => ?_)
            refine lv_if_ne (tgt := 40) hx hb dX3_readLines_35 (by decide) (fun c22 => ?_) (fun c22 => ?_)
            · replace hv := y_br_f hv c22
              obtain ⟨v23, ev23, hv⟩ := y_nm_e hv
              refine lv_iinc (v := v23) (lv' := [(3, .int v23), (0, .ref (ad o0)), (1, .ref (ad o1)), (2, .ref (ad o2))]) hx hb dX3_readLines_40 hl (k := 3) rfl (by rw [ev23]; rfl) (by decide) rfl (fun ls hl => ?_)
              refine lv_goto (tgt := 7) hx hb dX3_readLines_43 (by decide) ?_
              replace hv := Option.some.inj hv
              subst hv
              exact ih7 v23 h20 _ _ _ hB (lv_sub hl [1, 2, 3, 0] rfl) _ kw7 kv7
            · replace hv := y_br_t hv c22
              obtain ⟨t24, hq, ew⟩ := y_mp_e hv
              clear hv; subst ew
              replace kw7 : t24 = _ := kw7
              subst kw7
              have hv := hq
              clear hq
              refine lv_iconst (v := (0 : Int32)) hx hb dX3_readLines_38 (by decide) ?_
              replace hv := Option.some.inj hv
              subst hv
              obtain ⟨e1, e2⟩ := y_pr kv7
              rw [← e1, ← e2]
              exact z_zret hc hB hr rfl dX3_readLines_39
  rw [← kt] at hv
  refine lv_aload_n hx hb dX3_readLines_0 rfl (lv_at hl 0 rfl) ?_
  refine lv_iconst (v := (0 : Int32)) hx hb dX3_readLines_1 (by decide) ?_
  obtain ⟨g25, hv⟩ := y_gd_e hv
  obtain ⟨h26, eh26, hv⟩ := y_nm_e hv
  refine y_putI hc hB 3 2 eh26 g25 (z_l1 hc qfX3_28) dX3_readLines_2 (by decide) (by decide) rfl rfl rfl rfl (fun H locs hB => ?_)
  refine lv_iconst (v := (0 : Int32)) hx hb dX3_readLines_5 (by decide) ?_
  refine lv_istore_n (lv' := [(3, .int (0 : Int32)), (0, .ref (ad o0)), (1, .ref (ad o1)), (2, .ref (ad o2))]) hx hb dX3_readLines_6 rfl hl (by decide) rfl (fun ls hl => ?_)
  obtain ⟨n, hv⟩ := y_lp_e hv
  exact L7 n (0 : Int32) h26 _ _ _ hB (lv_sub hl [1, 2, 3, 0] rfl) _ hv kt
theorem qfX3_113 : Cond.fieldLink RX3 113 "DreamTests$Nights" "where" "I" ∈ z_ws := List.mem_filter.mpr ⟨List.mem_append_right _ (List.mem_of_getElem? (i := 263) (by decide +kernel)), rfl⟩
theorem qmX3_120 : Cond.methodLink RX3 120 yX2_chanceOf ∈ z_ws := List.mem_filter.mpr ⟨List.mem_append_right _ (List.mem_of_getElem? (i := 901) (by decide +kernel)), rfl⟩
theorem qmX3_124 : Cond.methodLink RX3 124 yX2_add ∈ z_ws := List.mem_filter.mpr ⟨List.mem_append_right _ (List.mem_of_getElem? (i := 902) (by decide +kernel)), rfl⟩
theorem qmX3_127 : Cond.methodLink RX3 127 yX2_isWronglySure ∈ z_ws := List.mem_filter.mpr ⟨List.mem_append_right _ (List.mem_of_getElem? (i := 903) (by decide +kernel)), rfl⟩
theorem qc_X2_isWronglySure : Cond.code yX2_isWronglySure cX2_isWronglySure 4 (some .boolean) ∈ z_ws := List.mem_filter.mpr ⟨List.mem_append_right _ (List.mem_of_getElem? (i := 906) (by decide +kernel)), rfl⟩
theorem qi_X2_isWronglySure : Cond.instanceMethod yX2_isWronglySure ∈ z_ws := List.mem_filter.mpr ⟨List.mem_append_right _ (List.mem_of_getElem? (i := 904) (by decide +kernel)), rfl⟩
theorem qs_X2_isWronglySure : Cond.selects RX2 yX2_isWronglySure yX2_isWronglySure ∈ z_ws := List.mem_filter.mpr ⟨List.mem_append_right _ (List.mem_of_getElem? (i := 905) (by decide +kernel)), rfl⟩
theorem md_X2_isWronglySure : z_mdV yX2_isWronglySure cX2_isWronglySure 4 (some .boolean) 1 := ⟨⟨qn_RX2, qc_X2_isWronglySure, ⟨by decide +kernel, by decide +kernel, by decide +kernel⟩⟩, qi_X2_isWronglySure, qs_X2_isWronglySure⟩
theorem qmX3_116 : Cond.methodLink RX3 116 yX2_getsUp ∈ z_ws := List.mem_filter.mpr ⟨List.mem_append_right _ (List.mem_of_getElem? (i := 900) (by decide +kernel)), rfl⟩
theorem qc_X2_getsUp : Cond.code yX2_getsUp cX2_getsUp 1 (some .boolean) ∈ z_ws := List.mem_filter.mpr ⟨List.mem_append_right _ (List.mem_of_getElem? (i := 585) (by decide +kernel)), rfl⟩
theorem qi_X2_getsUp : Cond.instanceMethod yX2_getsUp ∈ z_ws := List.mem_filter.mpr ⟨List.mem_append_right _ (List.mem_of_getElem? (i := 583) (by decide +kernel)), rfl⟩
theorem qs_X2_getsUp : Cond.selects RX2 yX2_getsUp yX2_getsUp ∈ z_ws := List.mem_filter.mpr ⟨List.mem_append_right _ (List.mem_of_getElem? (i := 584) (by decide +kernel)), rfl⟩
theorem md_X2_getsUp : z_mdV yX2_getsUp cX2_getsUp 1 (some .boolean) 0 := ⟨⟨qn_RX2, qc_X2_getsUp, ⟨by decide +kernel, by decide +kernel, by decide +kernel⟩⟩, qi_X2_getsUp, qs_X2_getsUp⟩
theorem qfX3_103 : Cond.fieldLinkNest RX3 103 "DreamTests$Night" "book" "LDreamTests$Book;" "DreamTests" ∈ z_nw := List.mem_filter.mpr ⟨List.mem_of_getElem? (i := 164) (by decide +kernel), rfl⟩
theorem qmX3_109 : Cond.methodLink RX3 109 yX2_begin ∈ z_ws := List.mem_filter.mpr ⟨List.mem_append_right _ (List.mem_of_getElem? (i := 899) (by decide +kernel)), rfl⟩
theorem dX3_judgeLine_0 : decode cX3_judgeLine 0 = .ok (.iload_n 2, 1) := by decide +kernel
theorem dX3_judgeLine_1 : decode cX3_judgeLine 1 = .ok (.ifCond .ne 28, 3) := by decide +kernel
theorem dX3_judgeLine_4 : decode cX3_judgeLine 4 = .ok (.aload_n 1, 1) := by decide +kernel
theorem dX3_judgeLine_5 : decode cX3_judgeLine 5 = .ok (.aload_n 1, 1) := by decide +kernel
theorem dX3_judgeLine_6 : decode cX3_judgeLine 6 = .ok (.getfield 103, 3) := by decide +kernel
theorem dX3_judgeLine_9 : decode cX3_judgeLine 9 = .ok (.invokevirtual 109, 3) := by decide +kernel
theorem dX3_judgeLine_12 : decode cX3_judgeLine 12 = .ok (.aload_n 0, 1) := by decide +kernel
theorem dX3_judgeLine_13 : decode cX3_judgeLine 13 = .ok (.iload_n 3, 1) := by decide +kernel
theorem dX3_judgeLine_14 : decode cX3_judgeLine 14 = .ok (.putfield 113, 3) := by decide +kernel
theorem dX3_judgeLine_17 : decode cX3_judgeLine 17 = .ok (.aload_n 0, 1) := by decide +kernel
theorem dX3_judgeLine_18 : decode cX3_judgeLine 18 = .ok (.dup, 1) := by decide +kernel
theorem dX3_judgeLine_19 : decode cX3_judgeLine 19 = .ok (.getfield 22, 3) := by decide +kernel
theorem dX3_judgeLine_22 : decode cX3_judgeLine 22 = .ok (.iconst 1, 1) := by decide +kernel
theorem dX3_judgeLine_23 : decode cX3_judgeLine 23 = .ok (.iadd, 1) := by decide +kernel
theorem dX3_judgeLine_24 : decode cX3_judgeLine 24 = .ok (.putfield 22, 3) := by decide +kernel
theorem dX3_judgeLine_27 : decode cX3_judgeLine 27 = .ok (.iconst 0, 1) := by decide +kernel
theorem dX3_judgeLine_28 : decode cX3_judgeLine 28 = .ok (.ireturn, 1) := by decide +kernel
theorem dX3_judgeLine_29 : decode cX3_judgeLine 29 = .ok (.iload_n 2, 1) := by decide +kernel
theorem dX3_judgeLine_30 : decode cX3_judgeLine 30 = .ok (.iconst 1, 1) := by decide +kernel
theorem dX3_judgeLine_31 : decode cX3_judgeLine 31 = .ok (.if_icmp .eq 26, 3) := by decide +kernel
theorem dX3_judgeLine_34 : decode cX3_judgeLine 34 = .ok (.aload_n 1, 1) := by decide +kernel
theorem dX3_judgeLine_35 : decode cX3_judgeLine 35 = .ok (.invokevirtual 116, 3) := by decide +kernel
theorem dX3_judgeLine_38 : decode cX3_judgeLine 38 = .ok (.iload_n 2, 1) := by decide +kernel
theorem dX3_judgeLine_39 : decode cX3_judgeLine 39 = .ok (.iconst 2, 1) := by decide +kernel
theorem dX3_judgeLine_40 : decode cX3_judgeLine 40 = .ok (.if_icmp .ne 7, 3) := by decide +kernel
theorem dX3_judgeLine_43 : decode cX3_judgeLine 43 = .ok (.iconst 1, 1) := by decide +kernel
theorem dX3_judgeLine_44 : decode cX3_judgeLine 44 = .ok (.goto 4, 3) := by decide +kernel
theorem dX3_judgeLine_47 : decode cX3_judgeLine 47 = .ok (.iconst 0, 1) := by decide +kernel
theorem dX3_judgeLine_48 : decode cX3_judgeLine 48 = .ok (.if_icmp .ne 7, 3) := by decide +kernel
theorem dX3_judgeLine_51 : decode cX3_judgeLine 51 = .ok (.iconst 0, 1) := by decide +kernel
theorem dX3_judgeLine_52 : decode cX3_judgeLine 52 = .ok (.goto 4, 3) := by decide +kernel
theorem dX3_judgeLine_55 : decode cX3_judgeLine 55 = .ok (.iconst 3, 1) := by decide +kernel
theorem dX3_judgeLine_56 : decode cX3_judgeLine 56 = .ok (.ireturn, 1) := by decide +kernel
theorem dX3_judgeLine_57 : decode cX3_judgeLine 57 = .ok (.aload_n 1, 1) := by decide +kernel
theorem dX3_judgeLine_58 : decode cX3_judgeLine 58 = .ok (.iload_n 3, 1) := by decide +kernel
theorem dX3_judgeLine_59 : decode cX3_judgeLine 59 = .ok (.iconst 1, 1) := by decide +kernel
theorem dX3_judgeLine_60 : decode cX3_judgeLine 60 = .ok (.ishr, 1) := by decide +kernel
theorem dX3_judgeLine_61 : decode cX3_judgeLine 61 = .ok (.iload_n 3, 1) := by decide +kernel
theorem dX3_judgeLine_62 : decode cX3_judgeLine 62 = .ok (.iconst 1, 1) := by decide +kernel
theorem dX3_judgeLine_63 : decode cX3_judgeLine 63 = .ok (.iand, 1) := by decide +kernel
theorem dX3_judgeLine_64 : decode cX3_judgeLine 64 = .ok (.aload_n 0, 1) := by decide +kernel
theorem dX3_judgeLine_65 : decode cX3_judgeLine 65 = .ok (.getfield 113, 3) := by decide +kernel
theorem dX3_judgeLine_68 : decode cX3_judgeLine 68 = .ok (.invokevirtual 120, 3) := by decide +kernel
theorem dX3_judgeLine_71 : decode cX3_judgeLine 71 = .ok (.ifCond .ne 5, 3) := by decide +kernel
theorem dX3_judgeLine_74 : decode cX3_judgeLine 74 = .ok (.iconst 1, 1) := by decide +kernel
theorem dX3_judgeLine_75 : decode cX3_judgeLine 75 = .ok (.ireturn, 1) := by decide +kernel
theorem dX3_judgeLine_76 : decode cX3_judgeLine 76 = .ok (.aload_n 1, 1) := by decide +kernel
theorem dX3_judgeLine_77 : decode cX3_judgeLine 77 = .ok (.iload_n 3, 1) := by decide +kernel
theorem dX3_judgeLine_78 : decode cX3_judgeLine 78 = .ok (.iconst 1, 1) := by decide +kernel
theorem dX3_judgeLine_79 : decode cX3_judgeLine 79 = .ok (.ishr, 1) := by decide +kernel
theorem dX3_judgeLine_80 : decode cX3_judgeLine 80 = .ok (.iload_n 3, 1) := by decide +kernel
theorem dX3_judgeLine_81 : decode cX3_judgeLine 81 = .ok (.iconst 1, 1) := by decide +kernel
theorem dX3_judgeLine_82 : decode cX3_judgeLine 82 = .ok (.iand, 1) := by decide +kernel
theorem dX3_judgeLine_83 : decode cX3_judgeLine 83 = .ok (.invokevirtual 124, 3) := by decide +kernel
theorem dX3_judgeLine_86 : decode cX3_judgeLine 86 = .ok (.aload_n 1, 1) := by decide +kernel
theorem dX3_judgeLine_87 : decode cX3_judgeLine 87 = .ok (.aload_n 0, 1) := by decide +kernel
theorem dX3_judgeLine_88 : decode cX3_judgeLine 88 = .ok (.getfield 113, 3) := by decide +kernel
theorem dX3_judgeLine_91 : decode cX3_judgeLine 91 = .ok (.invokevirtual 127, 3) := by decide +kernel
theorem dX3_judgeLine_94 : decode cX3_judgeLine 94 = .ok (.ifCond .eq 5, 3) := by decide +kernel
theorem dX3_judgeLine_97 : decode cX3_judgeLine 97 = .ok (.iconst 2, 1) := by decide +kernel
theorem dX3_judgeLine_98 : decode cX3_judgeLine 98 = .ok (.ireturn, 1) := by decide +kernel
theorem dX3_judgeLine_99 : decode cX3_judgeLine 99 = .ok (.aload_n 0, 1) := by decide +kernel
theorem dX3_judgeLine_100 : decode cX3_judgeLine 100 = .ok (.dup, 1) := by decide +kernel
theorem dX3_judgeLine_101 : decode cX3_judgeLine 101 = .ok (.getfield 25, 3) := by decide +kernel
theorem dX3_judgeLine_104 : decode cX3_judgeLine 104 = .ok (.iconst 1, 1) := by decide +kernel
theorem dX3_judgeLine_105 : decode cX3_judgeLine 105 = .ok (.iadd, 1) := by decide +kernel
theorem dX3_judgeLine_106 : decode cX3_judgeLine 106 = .ok (.putfield 25, 3) := by decide +kernel
theorem dX3_judgeLine_109 : decode cX3_judgeLine 109 = .ok (.iconst 0, 1) := by decide +kernel
theorem dX3_judgeLine_110 : decode cX3_judgeLine 110 = .ok (.ireturn, 1) := by decide +kernel
abbrev rm_X3_judgeLine : Room := { frames := 5, cells := 0, slots := 0, locals := 115 }
noncomputable def fX3_judgeLine_b48 (s0 : Int32) (s1 : Int32) (h : z_T) : Option (Int32 × z_T) :=
  y_br (s0 = s1)
    (some ((0 : Int32), h))
    (some ((3 : Int32), h))
noncomputable def fX3_judgeLine (o0 : Nat) (o1 : Nat) (x2 : Int32) (x3 : Int32) (h : z_T) : Option (Int32 × z_T) :=
  y_br (x2 = 0)
    (y_gd (z_ok h o1 2) <|
    y_bi (z_R h o1 0) fun ob31 =>
    y_bi (fX2_begin o1 ob31 h) fun h33 =>
    y_gd (z_ok h33 o0 3) <|
    y_nm (z_sI h33 o0 4 x3) fun h35 =>
    y_nm (z_sI h35 o0 6 ((z_I h35 o0 6) + (1 : Int32))) fun h36 =>
    some ((0 : Int32), h36))
    (y_br (x2 = (1 : Int32))
      (y_gd (z_ok h o0 3) <|
      y_gd (z_ok h o1 2) <|
      y_bi (fX2_chanceOf o1 (x3 >>> ((1 : Int32) &&& 31)) (x3 &&& (1 : Int32)) (z_I h o0 4) h) fun r6 =>
      y_br (r6 = 0)
        (some ((1 : Int32), h))
        (y_bi (fX2_add o1 (x3 >>> ((1 : Int32) &&& 31)) (x3 &&& (1 : Int32)) h) fun h13 =>
        y_gd (z_ok h13 o0 3) <|
        y_gd (z_ok h13 o1 2) <|
        y_bi (fX2_isWronglySure o1 (z_I h13 o0 4) h13) fun r16 =>
        y_br (r16 = 0)
          (y_nm (z_sI h13 o0 7 ((z_I h13 o0 7) + (1 : Int32))) fun h22 =>
          some ((0 : Int32), h22))
          (some ((2 : Int32), h13))))
      (y_gd (z_ok h o1 2) <|
      y_bi (fX2_getsUp o1 h) fun r24 =>
      y_br (x2 = (2 : Int32))
        (fX3_judgeLine_b48 r24 (1 : Int32) h)
        (fX3_judgeLine_b48 r24 (0 : Int32) h)))
set_option maxHeartbeats 4000000 in
set_option maxRecDepth 100000 in
theorem mm_X3_judgeLine {G : z_Gt} (hSK : z_SK (z_S G)) (l : Launch) (ad : Nat → Nat) (o0 : Nat) (o1 : Nat) (x2 : Int32) (x3 : Int32) (h : z_T) {r0 : Int32} {h9 : z_T} (hv : fX3_judgeLine o0 o1 x2 x3 h = some (r0, h9)) : z_Mi G (z_S G) l yX3_judgeLine cX3_judgeLine 4 (.int) rm_X3_judgeLine 0 0 [.ref (ad o0), .ref (ad o1), .int x2, .int x3] ad h h9 r0 := by
  refine z_ofW hSK (by decide) (Nat.le_of_ble_eq_true rfl) ?_
  intro p e s m args below meth c ls hc hr hnm hB hl
  have hx := hc.1.1
  have hb := hc.1.2.1
  have hown := hc.1.2.2.2.1
  have hts := hc.1.2.2.2.2
  replace hc : z_C G (z_S G) ad (z_n h) p m c cX3_judgeLine 4 s args RX3 meth := hc
  replace hown : s.vm.findClass RX3 = some m.cls := hown
  replace hl : lv_has ls 4 [(0, .ref (ad o0)), (1, .ref (ad o1)), (2, .int x2), (3, .int x3)] := hl
  show W p l e rm_X3_judgeLine s m args below meth c s.heap [] 0 0 (MQ below (z_Qi G ad h9 (z_n h) s.heap.size r0) args s 0 0 (z_A ad (z_n h) s.heap.size)) (F0 m 0 ls [])
  obtain ⟨rs, kt⟩ : ∃ rs : Int32 × z_T, rs = (r0, h9) := ⟨_, rfl⟩
  generalize hn0 : z_n h = n0 at hc hB ⊢
  have b48 : ∀ (s0 : Int32) (s1 : Int32) (h : z_T) (H : Heap) (locs : List Loc) (ls : Array Slot), z_B G ad n0 s h H locs → lv_has ls 4 [] → ∀ w, fX3_judgeLine_b48 s0 s1 h = some w → w = (r0, h9) → W p l e rm_X3_judgeLine s m args below meth c H locs 0 0 (MQ below (z_Qi G ad h9 n0 s.heap.size r0) args s 0 0 (z_A ad n0 s.heap.size)) (F0 m 48 ls [.int s1, .int s0]) := by
    intro s0 s1 h H locs ls hB hl w hv kb
    refine lv_icmp_ne (tgt := 55) hx hb dX3_judgeLine_48 (by decide) (fun c1 => ?_) (fun c1 => ?_)
    · replace hv := y_br_f hv c1
      refine lv_iconst (v := (3 : Int32)) hx hb dX3_judgeLine_55 (by decide) ?_
      replace hv := Option.some.inj hv
      subst hv
      obtain ⟨e1, e2⟩ := y_pr kb
      rw [← e1, ← e2]
      exact z_iret hc hB hr dX3_judgeLine_56
    · replace hv := y_br_t hv c1
      refine lv_iconst (v := (0 : Int32)) hx hb dX3_judgeLine_51 (by decide) ?_
      refine lv_goto (tgt := 56) hx hb dX3_judgeLine_52 (by decide) ?_
      replace hv := Option.some.inj hv
      subst hv
      obtain ⟨e1, e2⟩ := y_pr kb
      rw [← e1, ← e2]
      exact z_iret hc hB hr dX3_judgeLine_56
  rw [← kt] at hv
  refine lv_iload_n hx hb dX3_judgeLine_0 rfl (lv_at hl 2 rfl) ?_
  refine lv_if_ne (tgt := 29) hx hb dX3_judgeLine_1 (by decide) (fun c2 => ?_) (fun c2 => ?_)
  · replace hv := y_br_f hv c2
    refine lv_iload_n hx hb dX3_judgeLine_29 rfl (lv_at hl 2 rfl) ?_
    refine lv_iconst (v := (1 : Int32)) hx hb dX3_judgeLine_30 (by decide) ?_
    refine lv_icmp_eq (tgt := 57) hx hb dX3_judgeLine_31 (by decide) (fun c3 => ?_) (fun c3 => ?_)
    · replace hv := y_br_t hv c3
      refine lv_aload_n hx hb dX3_judgeLine_57 rfl (lv_at hl 1 rfl) ?_
      refine lv_iload_n hx hb dX3_judgeLine_58 rfl (lv_at hl 3 rfl) ?_
      refine lv_iconst (v := (1 : Int32)) hx hb dX3_judgeLine_59 (by decide) ?_
      refine lv_ishr hx hb dX3_judgeLine_60 ?_
      refine lv_iload_n hx hb dX3_judgeLine_61 rfl (lv_at hl 3 rfl) ?_
      refine lv_iconst (v := (1 : Int32)) hx hb dX3_judgeLine_62 (by decide) ?_
      refine lv_iand hx hb dX3_judgeLine_63 ?_
      refine lv_aload_n hx hb dX3_judgeLine_64 rfl (lv_at hl 0 rfl) ?_
      obtain ⟨g4, hv⟩ := y_gd_e hv
      refine z_getI hc hB 3 4 g4 (by decide) (by decide) rfl (z_l1 hc qfX3_113) dX3_judgeLine_65 ?_
      obtain ⟨g10, hv⟩ := y_gd_e hv
      obtain ⟨r6, c5, hv⟩ := y_bi_e hv
      refine z_thI hc hB (z_runV hc hB 2 (mm_X2_chanceOf hSK l ad o1 (x3 >>> ((1 : Int32) &&& 31)) (x3 &&& (1 : Int32)) (z_I h o0 4) h c5) md_X2_chanceOf qmX3_120 g10 (by decide) rfl rfl rfl ⟨Nat.le_of_ble_eq_true rfl, Nat.le_of_ble_eq_true rfl⟩ rfl hl.1 rfl (Nat.le_of_ble_eq_true rfl) dX3_judgeLine_68 ⟨Nat.le_of_ble_eq_true rfl, Nat.le_of_ble_eq_true rfl⟩) (fun H locs hB => ?_)
      refine lv_if_ne (tgt := 76) hx hb dX3_judgeLine_71 (by decide) (fun c11 => ?_) (fun c11 => ?_)
      · replace hv := y_br_f hv c11
        refine lv_aload_n hx hb dX3_judgeLine_76 rfl (lv_at hl 1 rfl) ?_
        refine lv_iload_n hx hb dX3_judgeLine_77 rfl (lv_at hl 3 rfl) ?_
        refine lv_iconst (v := (1 : Int32)) hx hb dX3_judgeLine_78 (by decide) ?_
        refine lv_ishr hx hb dX3_judgeLine_79 ?_
        refine lv_iload_n hx hb dX3_judgeLine_80 rfl (lv_at hl 3 rfl) ?_
        refine lv_iconst (v := (1 : Int32)) hx hb dX3_judgeLine_81 (by decide) ?_
        refine lv_iand hx hb dX3_judgeLine_82 ?_
        obtain ⟨h13, c12, hv⟩ := y_bi_e hv
        refine z_thV hc hB (z_runV hc hB 2 (mm_X2_add hSK l ad o1 (x3 >>> ((1 : Int32) &&& 31)) (x3 &&& (1 : Int32)) h c12) md_X2_add qmX3_124 g10 (by decide) rfl rfl rfl ⟨Nat.le_of_ble_eq_true rfl, Nat.le_of_ble_eq_true rfl⟩ rfl hl.1 rfl (Nat.le_of_ble_eq_true rfl) dX3_judgeLine_83 ⟨Nat.le_of_ble_eq_true rfl, Nat.le_of_ble_eq_true rfl⟩) (fun H locs hB => ?_)
        refine lv_aload_n hx hb dX3_judgeLine_86 rfl (lv_at hl 1 rfl) ?_
        refine lv_aload_n hx hb dX3_judgeLine_87 rfl (lv_at hl 0 rfl) ?_
        obtain ⟨g14, hv⟩ := y_gd_e hv
        refine z_getI hc hB 3 4 g14 (by decide) (by decide) rfl (z_l1 hc qfX3_113) dX3_judgeLine_88 ?_
        obtain ⟨g20, hv⟩ := y_gd_e hv
        obtain ⟨r16, c15, hv⟩ := y_bi_e hv
        refine z_thI hc hB (z_runV hc hB 2 (mm_X2_isWronglySure hSK l ad o1 (z_I h13 o0 4) h13 c15) md_X2_isWronglySure qmX3_127 g20 (by decide) rfl rfl rfl ⟨Nat.le_of_ble_eq_true rfl, Nat.le_of_ble_eq_true rfl⟩ rfl hl.1 rfl (Nat.le_of_ble_eq_true rfl) dX3_judgeLine_91 ⟨Nat.le_of_ble_eq_true rfl, Nat.le_of_ble_eq_true rfl⟩) (fun H locs hB => ?_)
        refine lv_if_eq (tgt := 99) hx hb dX3_judgeLine_94 (by decide) (fun c21 => ?_) (fun c21 => ?_)
        · replace hv := y_br_t hv c21
          refine lv_aload_n hx hb dX3_judgeLine_99 rfl (lv_at hl 0 rfl) ?_
          refine lv_dup hx hb dX3_judgeLine_100 rfl ?_
          refine z_getI hc hB 3 7 g14 (by decide) (by decide) rfl (z_l1 hc qfX3_25) dX3_judgeLine_101 ?_
          refine lv_iconst (v := (1 : Int32)) hx hb dX3_judgeLine_104 (by decide) ?_
          refine lv_iadd hx hb dX3_judgeLine_105 ?_
          obtain ⟨h22, eh22, hv⟩ := y_nm_e hv
          refine y_putI hc hB 3 7 eh22 g14 (z_l1 hc qfX3_25) dX3_judgeLine_106 (by decide) (by decide) rfl rfl rfl rfl (fun H locs hB => ?_)
          refine lv_iconst (v := (0 : Int32)) hx hb dX3_judgeLine_109 (by decide) ?_
          replace hv := Option.some.inj hv
          subst hv
          obtain ⟨e1, e2⟩ := y_pr kt
          rw [← e1, ← e2]
          exact z_iret hc hB hr dX3_judgeLine_110
        · replace hv := y_br_f hv c21
          refine lv_iconst (v := (2 : Int32)) hx hb dX3_judgeLine_97 (by decide) ?_
          replace hv := Option.some.inj hv
          subst hv
          obtain ⟨e1, e2⟩ := y_pr kt
          rw [← e1, ← e2]
          exact z_iret hc hB hr dX3_judgeLine_98
      · replace hv := y_br_t hv c11
        refine lv_iconst (v := (1 : Int32)) hx hb dX3_judgeLine_74 (by decide) ?_
        replace hv := Option.some.inj hv
        subst hv
        obtain ⟨e1, e2⟩ := y_pr kt
        rw [← e1, ← e2]
        exact z_iret hc hB hr dX3_judgeLine_75
    · replace hv := y_br_f hv c3
      refine lv_aload_n hx hb dX3_judgeLine_34 rfl (lv_at hl 1 rfl) ?_
      obtain ⟨g28, hv⟩ := y_gd_e hv
      obtain ⟨r24, c23, hv⟩ := y_bi_e hv
      refine z_thI hc hB (z_runV hc hB 2 (mm_X2_getsUp hSK l ad o1 h c23) md_X2_getsUp qmX3_116 g28 (by decide) rfl rfl rfl ⟨Nat.le_of_ble_eq_true rfl, Nat.le_of_ble_eq_true rfl⟩ rfl hl.1 rfl (Nat.le_of_ble_eq_true rfl) dX3_judgeLine_35 ⟨Nat.le_of_ble_eq_true rfl, Nat.le_of_ble_eq_true rfl⟩) (fun H locs hB => ?_)
      refine lv_iload_n hx hb dX3_judgeLine_38 rfl (lv_at hl 2 rfl) ?_
      refine lv_iconst (v := (2 : Int32)) hx hb dX3_judgeLine_39 (by decide) ?_
      refine lv_icmp_ne (tgt := 47) hx hb dX3_judgeLine_40 (by decide) (fun c29 => ?_) (fun c29 => ?_)
      · replace hv := y_br_f hv c29
        refine lv_iconst (v := (0 : Int32)) hx hb dX3_judgeLine_47 (by decide) ?_
        exact b48 r24 (0 : Int32) h _ _ _ hB (lv_sub hl [] rfl) _ hv kt
      · replace hv := y_br_t hv c29
        refine lv_iconst (v := (1 : Int32)) hx hb dX3_judgeLine_43 (by decide) ?_
        refine lv_goto (tgt := 48) hx hb dX3_judgeLine_44 (by decide) ?_
        exact b48 r24 (1 : Int32) h _ _ _ hB (lv_sub hl [] rfl) _ hv kt
  · replace hv := y_br_t hv c2
    refine lv_aload_n hx hb dX3_judgeLine_4 rfl (lv_at hl 1 rfl) ?_
    refine lv_aload_n hx hb dX3_judgeLine_5 rfl (lv_at hl 1 rfl) ?_
    obtain ⟨g30, hv⟩ := y_gd_e hv
    obtain ⟨ob31, eob31, hv⟩ := y_bi_e hv
    refine z_getR hc hB 2 0 g30 eob31 (by decide) (by decide) rfl (z_l2 hc qfX3_103) dX3_judgeLine_6 ?_
    obtain ⟨h33, c32, hv⟩ := y_bi_e hv
    refine z_thV hc hB (z_runV hc hB 2 (mm_X2_begin hSK l ad o1 ob31 h c32) md_X2_begin qmX3_109 g30 (by decide) rfl rfl rfl ⟨Nat.le_of_ble_eq_true rfl, Nat.le_of_ble_eq_true rfl⟩ rfl hl.1 rfl (Nat.le_of_ble_eq_true rfl) dX3_judgeLine_9 ⟨Nat.le_of_ble_eq_true rfl, Nat.le_of_ble_eq_true rfl⟩) (fun H locs hB => ?_)
    refine lv_aload_n hx hb dX3_judgeLine_12 rfl (lv_at hl 0 rfl) ?_
    refine lv_iload_n hx hb dX3_judgeLine_13 rfl (lv_at hl 3 rfl) ?_
    obtain ⟨g34, hv⟩ := y_gd_e hv
    obtain ⟨h35, eh35, hv⟩ := y_nm_e hv
    refine y_putI hc hB 3 4 eh35 g34 (z_l1 hc qfX3_113) dX3_judgeLine_14 (by decide) (by decide) rfl rfl rfl rfl (fun H locs hB => ?_)
    refine lv_aload_n hx hb dX3_judgeLine_17 rfl (lv_at hl 0 rfl) ?_
    refine lv_dup hx hb dX3_judgeLine_18 rfl ?_
    refine z_getI hc hB 3 6 (by rw [eh35]; exact g34) (by decide) (by decide) rfl (z_l1 hc qfX3_22) dX3_judgeLine_19 ?_
    refine lv_iconst (v := (1 : Int32)) hx hb dX3_judgeLine_22 (by decide) ?_
    refine lv_iadd hx hb dX3_judgeLine_23 ?_
    obtain ⟨h36, eh36, hv⟩ := y_nm_e hv
    refine y_putI hc hB 3 6 eh36 (by rw [eh35]; exact g34) (z_l1 hc qfX3_22) dX3_judgeLine_24 (by decide) (by decide) rfl rfl rfl rfl (fun H locs hB => ?_)
    refine lv_iconst (v := (0 : Int32)) hx hb dX3_judgeLine_27 (by decide) ?_
    replace hv := Option.some.inj hv
    subst hv
    obtain ⟨e1, e2⟩ := y_pr kt
    rw [← e1, ← e2]
    exact z_iret hc hB hr dX3_judgeLine_28
theorem qmX3_99 : Cond.methodLink RX3 99 yX3_judgeLine ∈ z_ws := List.mem_filter.mpr ⟨List.mem_append_right _ (List.mem_of_getElem? (i := 895) (by decide +kernel)), rfl⟩
theorem qc_X3_judgeLine : Cond.code yX3_judgeLine cX3_judgeLine 4 (some .int) ∈ z_ws := List.mem_filter.mpr ⟨List.mem_append_right _ (List.mem_of_getElem? (i := 898) (by decide +kernel)), rfl⟩
theorem qi_X3_judgeLine : Cond.instanceMethod yX3_judgeLine ∈ z_ws := List.mem_filter.mpr ⟨List.mem_append_right _ (List.mem_of_getElem? (i := 897) (by decide +kernel)), rfl⟩
theorem qs_X3_judgeLine : Cond.selects RX3 yX3_judgeLine yX3_judgeLine ∈ z_ws := List.mem_filter.mpr ⟨List.mem_append_left _ (List.mem_of_getElem? (i := 20) (by decide +kernel)), rfl⟩
theorem md_X3_judgeLine : z_mdV yX3_judgeLine cX3_judgeLine 4 (some .int) 3 := ⟨⟨qn_RX3, qc_X3_judgeLine, ⟨by decide +kernel, by decide +kernel, by decide +kernel⟩⟩, qi_X3_judgeLine, qs_X3_judgeLine⟩
theorem dX3_judge_0 : decode cX3_judge 0 = .ok (.aload_n 0, 1) := by decide +kernel
theorem dX3_judge_1 : decode cX3_judge 1 = .ok (.iconst 0, 1) := by decide +kernel
theorem dX3_judge_2 : decode cX3_judge 2 = .ok (.putfield 18, 3) := by decide +kernel
theorem dX3_judge_5 : decode cX3_judge 5 = .ok (.aload_n 0, 1) := by decide +kernel
theorem dX3_judge_6 : decode cX3_judge 6 = .ok (.iconst 0, 1) := by decide +kernel
theorem dX3_judge_7 : decode cX3_judge 7 = .ok (.putfield 22, 3) := by decide +kernel
theorem dX3_judge_10 : decode cX3_judge 10 = .ok (.aload_n 0, 1) := by decide +kernel
theorem dX3_judge_11 : decode cX3_judge 11 = .ok (.iconst 0, 1) := by decide +kernel
theorem dX3_judge_12 : decode cX3_judge 12 = .ok (.putfield 25, 3) := by decide +kernel
theorem dX3_judge_15 : decode cX3_judge 15 = .ok (.iconst 0, 1) := by decide +kernel
theorem dX3_judge_16 : decode cX3_judge 16 = .ok (.istore_n 2, 1) := by decide +kernel
theorem dX3_judge_17 : decode cX3_judge 17 = .ok (.iload_n 2, 1) := by decide +kernel
theorem dX3_judge_18 : decode cX3_judge 18 = .ok (.aload_n 0, 1) := by decide +kernel
theorem dX3_judge_19 : decode cX3_judge 19 = .ok (.getfield 28, 3) := by decide +kernel
theorem dX3_judge_22 : decode cX3_judge 22 = .ok (.if_icmp .ge 57, 3) := by decide +kernel
theorem dX3_judge_25 : decode cX3_judge 25 = .ok (.iload_n 2, 1) := by decide +kernel
theorem dX3_judge_26 : decode cX3_judge 26 = .ok (.aload_n 0, 1) := by decide +kernel
theorem dX3_judge_27 : decode cX3_judge 27 = .ok (.getfield 11, 3) := by decide +kernel
theorem dX3_judge_30 : decode cX3_judge 30 = .ok (.arraylength, 1) := by decide +kernel
theorem dX3_judge_31 : decode cX3_judge 31 = .ok (.if_icmp .ge 48, 3) := by decide +kernel
theorem dX3_judge_34 : decode cX3_judge 34 = .ok (.iload_n 2, 1) := by decide +kernel
theorem dX3_judge_35 : decode cX3_judge 35 = .ok (.aload_n 0, 1) := by decide +kernel
theorem dX3_judge_36 : decode cX3_judge 36 = .ok (.getfield 15, 3) := by decide +kernel
theorem dX3_judge_39 : decode cX3_judge 39 = .ok (.arraylength, 1) := by decide +kernel
theorem dX3_judge_40 : decode cX3_judge 40 = .ok (.if_icmp .ge 39, 3) := by decide +kernel
theorem dX3_judge_43 : decode cX3_judge 43 = .ok (.aload_n 0, 1) := by decide +kernel
theorem dX3_judge_44 : decode cX3_judge 44 = .ok (.aload_n 0, 1) := by decide +kernel
theorem dX3_judge_45 : decode cX3_judge 45 = .ok (.aload_n 1, 1) := by decide +kernel
theorem dX3_judge_46 : decode cX3_judge 46 = .ok (.aload_n 0, 1) := by decide +kernel
theorem dX3_judge_47 : decode cX3_judge 47 = .ok (.getfield 11, 3) := by decide +kernel
theorem dX3_judge_50 : decode cX3_judge 50 = .ok (.iload_n 2, 1) := by decide +kernel
theorem dX3_judge_51 : decode cX3_judge 51 = .ok (.iaload, 1) := by decide +kernel
theorem dX3_judge_52 : decode cX3_judge 52 = .ok (.aload_n 0, 1) := by decide +kernel
theorem dX3_judge_53 : decode cX3_judge 53 = .ok (.getfield 15, 3) := by decide +kernel
theorem dX3_judge_56 : decode cX3_judge 56 = .ok (.iload_n 2, 1) := by decide +kernel
theorem dX3_judge_57 : decode cX3_judge 57 = .ok (.iaload, 1) := by decide +kernel
theorem dX3_judge_58 : decode cX3_judge 58 = .ok (.invokevirtual 99, 3) := by decide +kernel
theorem dX3_judge_61 : decode cX3_judge 61 = .ok (.putfield 18, 3) := by decide +kernel
theorem dX3_judge_64 : decode cX3_judge 64 = .ok (.aload_n 0, 1) := by decide +kernel
theorem dX3_judge_65 : decode cX3_judge 65 = .ok (.getfield 18, 3) := by decide +kernel
theorem dX3_judge_68 : decode cX3_judge 68 = .ok (.ifCond .eq 5, 3) := by decide +kernel
theorem dX3_judge_71 : decode cX3_judge 71 = .ok (.iload_n 2, 1) := by decide +kernel
theorem dX3_judge_72 : decode cX3_judge 72 = .ok (.ireturn, 1) := by decide +kernel
theorem dX3_judge_73 : decode cX3_judge 73 = .ok (.iinc 2 1, 3) := by decide +kernel
theorem dX3_judge_76 : decode cX3_judge 76 = .ok (.goto (-59), 3) := by decide +kernel
theorem dX3_judge_79 : decode cX3_judge 79 = .ok (.iconst (-1), 1) := by decide +kernel
theorem dX3_judge_80 : decode cX3_judge 80 = .ok (.ireturn, 1) := by decide +kernel
abbrev rm_X3_judge : Room := { frames := 6, cells := 0, slots := 0, locals := 138 }
noncomputable def fX3_judge_b17_i (o0 : Nat) (o1 : Nat) (x2 : Int32) (h : z_T) : Option ((Int32 × z_T) ⊕ (Int32 × z_T)) :=
  y_gd (z_ok h o0 3) <|
  y_br ((z_I h o0 2) ≤ x2)
    (y_mp <|
    some ((-1 : Int32), h))
    (y_bi (z_R h o0 0) fun ob4 =>
    y_gd (z_ok h ob4 13) <|
    y_br ((nI (z_N h ob4)) ≤ x2)
      (y_mp <|
      some ((-1 : Int32), h))
      (y_bi (z_R h o0 1) fun ob8 =>
      y_gd (z_ok h ob8 13) <|
      y_br ((nI (z_N h ob8)) ≤ x2)
        (y_mp <|
        some ((-1 : Int32), h))
        (y_gd (z_ix x2 (z_N h ob4)) <|
        y_gd (z_ix x2 (z_N h ob8)) <|
        y_bi (fX3_judgeLine o0 o1 (z_I h ob4 x2.toNatClampNeg) (z_I h ob8 x2.toNatClampNeg) h) fun ⟨r15, h19⟩ =>
        y_gd (z_ok h19 o0 3) <|
        y_nm (z_sI h19 o0 5 r15) fun h21 =>
        y_br ((z_I h21 o0 5) = 0)
          (y_nm (x2 + 1) fun v23 =>
          some (.inl (v23, h21)))
          (y_mp <|
          some (x2, h21)))))
noncomputable def fX3_judge_b17 (o0 : Nat) (o1 : Nat) (x2 : Int32) (h : z_T) : Option (Int32 × z_T) := y_lp (fun q : Int32 × z_T => fX3_judge_b17_i o0 o1 q.1 q.2) (x2, h)
noncomputable def fX3_judge (o0 : Nat) (o1 : Nat) (h : z_T) : Option (Int32 × z_T) :=
  y_gd (z_ok h o0 3) <|
  y_nm (z_sI h o0 5 (0 : Int32)) fun h26 =>
  y_nm (z_sI h26 o0 6 (0 : Int32)) fun h27 =>
  y_nm (z_sI h27 o0 7 (0 : Int32)) fun h28 =>
  fX3_judge_b17 o0 o1 (0 : Int32) h28
set_option maxHeartbeats 4000000 in
set_option maxRecDepth 100000 in
theorem mm_X3_judge {G : z_Gt} (hSK : z_SK (z_S G)) (l : Launch) (ad : Nat → Nat) (o0 : Nat) (o1 : Nat) (h : z_T) {r0 : Int32} {h9 : z_T} (hv : fX3_judge o0 o1 h = some (r0, h9)) : z_Mi G (z_S G) l yX3_judge cX3_judge 3 (.int) rm_X3_judge 0 0 [.ref (ad o0), .ref (ad o1)] ad h h9 r0 := by
  refine z_ofW hSK (by decide) (Nat.le_of_ble_eq_true rfl) ?_
  intro p e s m args below meth c ls hc hr hnm hB hl
  have hx := hc.1.1
  have hb := hc.1.2.1
  have hown := hc.1.2.2.2.1
  have hts := hc.1.2.2.2.2
  replace hc : z_C G (z_S G) ad (z_n h) p m c cX3_judge 3 s args RX3 meth := hc
  replace hown : s.vm.findClass RX3 = some m.cls := hown
  replace hl : lv_has ls 3 [(0, .ref (ad o0)), (1, .ref (ad o1))] := hl
  show W p l e rm_X3_judge s m args below meth c s.heap [] 0 0 (MQ below (z_Qi G ad h9 (z_n h) s.heap.size r0) args s 0 0 (z_A ad (z_n h) s.heap.size)) (F0 m 0 ls [])
  obtain ⟨rs, kt⟩ : ∃ rs : Int32 × z_T, rs = (r0, h9) := ⟨_, rfl⟩
  generalize hn0 : z_n h = n0 at hc hB ⊢
  have L17 : ∀ (nn17 : Nat) (x2 : Int32) (h : z_T) (H : Heap) (locs : List Loc) (ls : Array Slot), z_B G ad n0 s h H locs → lv_has ls 3 [(0, .ref (ad o0)), (1, .ref (ad o1)), (2, .int x2)] → ∀ vv17, y_lpN (fun q : Int32 × z_T => fX3_judge_b17_i o0 o1 q.1 q.2) nn17 (x2, h) = some vv17 → vv17 = (r0, h9) → W p l e rm_X3_judge s m args below meth c H locs 0 0 (MQ below (z_Qi G ad h9 n0 s.heap.size r0) args s 0 0 (z_A ad n0 s.heap.size)) (F0 m 17 ls []) := by
    intro nn17
    induction nn17 with
    | zero => intro x2 h H locs ls hB hl vv17 hv kv17; exact absurd hv (fun q => y_lpN_0 q)
    | succ nn17 ih17 =>
      intro x2 h H locs ls hB hl vv17 hv kv17
      obtain ⟨w, hq, kw17⟩ := y_lpN_e hv
      clear hv
      have hv : fX3_judge_b17_i o0 o1 x2 h = some w := hq
      clear hq
      refine lv_iload_n hx hb dX3_judge_17 rfl (lv_at hl 2 rfl) ?_
      refine lv_aload_n hx hb dX3_judge_18 rfl (lv_at hl 0 rfl) ?_
      obtain ⟨g1, hv⟩ := y_gd_e hv
      refine z_getI hc hB 3 2 g1 (by decide) (by decide) rfl (z_l1 hc qfX3_28) dX3_judge_19 ?_
      refine lv_icmp_ge (tgt := 79) hx hb dX3_judge_22 (by decide) (fun c2 => ?_) (fun c2 => ?_)
      · replace hv := y_br_t hv c2
        obtain ⟨t3, hq, ew⟩ := y_mp_e hv
        clear hv; subst ew
        replace kw17 : t3 = _ := kw17
        subst kw17
        have hv := hq
        clear hq
        refine lv_iconst (v := (-1 : Int32)) hx hb dX3_judge_79 (by decide) ?_
        replace hv := Option.some.inj hv
        subst hv
        obtain ⟨e1, e2⟩ := y_pr kv17
        rw [← e1, ← e2]
        exact z_iret hc hB hr dX3_judge_80
      · replace hv := y_br_f hv c2
        refine lv_iload_n hx hb dX3_judge_25 rfl (lv_at hl 2 rfl) ?_
        refine lv_aload_n hx hb dX3_judge_26 rfl (lv_at hl 0 rfl) ?_
        obtain ⟨ob4, eob4, hv⟩ := y_bi_e hv
        refine z_getR hc hB 3 0 g1 eob4 (by decide) (by decide) rfl (z_l1 hc qfX3_11) dX3_judge_27 ?_
        obtain ⟨g5, hv⟩ := y_gd_e hv
        refine z_alen hc hB 13 (by decide) (by decide) g5 dX3_judge_30 ?_
        refine lv_icmp_ge (tgt := 79) hx hb dX3_judge_31 (by decide) (fun c6 => ?_) (fun c6 => ?_)
        · replace hv := y_br_t hv c6
          obtain ⟨t7, hq, ew⟩ := y_mp_e hv
          clear hv; subst ew
          replace kw17 : t7 = _ := kw17
          subst kw17
          have hv := hq
          clear hq
          refine lv_iconst (v := (-1 : Int32)) hx hb dX3_judge_79 (by decide) ?_
          replace hv := Option.some.inj hv
          subst hv
          obtain ⟨e1, e2⟩ := y_pr kv17
          rw [← e1, ← e2]
          exact z_iret hc hB hr dX3_judge_80
        · replace hv := y_br_f hv c6
          refine lv_iload_n hx hb dX3_judge_34 rfl (lv_at hl 2 rfl) ?_
          refine lv_aload_n hx hb dX3_judge_35 rfl (lv_at hl 0 rfl) ?_
          obtain ⟨ob8, eob8, hv⟩ := y_bi_e hv
          refine z_getR hc hB 3 1 g1 eob8 (by decide) (by decide) rfl (z_l1 hc qfX3_15) dX3_judge_36 ?_
          obtain ⟨g9, hv⟩ := y_gd_e hv
          refine z_alen hc hB 13 (by decide) (by decide) g9 dX3_judge_39 ?_
          refine lv_icmp_ge (tgt := 79) hx hb dX3_judge_40 (by decide) (fun c10 => ?_) (fun c10 => ?_)
          · replace hv := y_br_t hv c10
            obtain ⟨t11, hq, ew⟩ := y_mp_e hv
            clear hv; subst ew
            replace kw17 : t11 = _ := kw17
            subst kw17
            have hv := hq
            clear hq
            refine lv_iconst (v := (-1 : Int32)) hx hb dX3_judge_79 (by decide) ?_
            replace hv := Option.some.inj hv
            subst hv
            obtain ⟨e1, e2⟩ := y_pr kv17
            rw [← e1, ← e2]
            exact z_iret hc hB hr dX3_judge_80
          · replace hv := y_br_f hv c10
            refine lv_aload_n hx hb dX3_judge_43 rfl (lv_at hl 0 rfl) ?_
            refine lv_aload_n hx hb dX3_judge_44 rfl (lv_at hl 0 rfl) ?_
            refine lv_aload_n hx hb dX3_judge_45 rfl (lv_at hl 1 rfl) ?_
            refine lv_aload_n hx hb dX3_judge_46 rfl (lv_at hl 0 rfl) ?_
            refine z_getR hc hB 3 0 g1 eob4 (by decide) (by decide) rfl (z_l1 hc qfX3_11) dX3_judge_47 ?_
            refine lv_iload_n hx hb dX3_judge_50 rfl (lv_at hl 2 rfl) ?_
            obtain ⟨i12, hv⟩ := y_gd_e hv
            refine z_iald hc hB g5 i12 dX3_judge_51 ?_
            refine lv_aload_n hx hb dX3_judge_52 rfl (lv_at hl 0 rfl) ?_
            refine z_getR hc hB 3 1 g1 eob8 (by decide) (by decide) rfl (z_l1 hc qfX3_15) dX3_judge_53 ?_
            refine lv_iload_n hx hb dX3_judge_56 rfl (lv_at hl 2 rfl) ?_
            obtain ⟨i13, hv⟩ := y_gd_e hv
            refine z_iald hc hB g9 i13 dX3_judge_57 ?_
            obtain ⟨⟨r15, h19⟩, c14, hv⟩ := y_bi_e hv
            refine z_thI hc hB (z_runV hc hB 3 (mm_X3_judgeLine hSK l ad o0 o1 (z_I h ob4 x2.toNatClampNeg) (z_I h ob8 x2.toNatClampNeg) h c14) md_X3_judgeLine qmX3_99 g1 (by decide) rfl rfl rfl ⟨Nat.le_of_ble_eq_true rfl, Nat.le_of_ble_eq_true rfl⟩ rfl hl.1 rfl (Nat.le_of_ble_eq_true rfl) dX3_judge_58 ⟨Nat.le_of_ble_eq_true rfl, Nat.le_of_ble_eq_true rfl⟩) (fun H locs hB => ?_)
            obtain ⟨g20, hv⟩ := y_gd_e hv
            obtain ⟨h21, eh21, hv⟩ := y_nm_e hv
            refine y_putI hc hB 3 5 eh21 g20 (z_l1 hc qfX3_18) dX3_judge_61 (by decide) (by decide) rfl rfl rfl rfl (fun H locs hB => ?_)
            refine lv_aload_n hx hb dX3_judge_64 rfl (lv_at hl 0 rfl) ?_
            refine z_getI hc hB 3 5 (by rw [eh21]; exact g20) (by decide) (by decide) rfl (z_l1 hc qfX3_18) dX3_judge_65 ?_
            refine lv_if_eq (tgt := 73) hx hb dX3_judge_68 (by decide) (fun c22 => ?_) (fun c22 => ?_)
            · replace hv := y_br_t hv c22
              obtain ⟨v23, ev23, hv⟩ := y_nm_e hv
              refine lv_iinc (v := v23) (lv' := [(2, .int v23), (0, .ref (ad o0)), (1, .ref (ad o1))]) hx hb dX3_judge_73 hl (k := 2) rfl (by rw [ev23]; rfl) (by decide) rfl (fun ls hl => ?_)
              refine lv_goto (tgt := 17) hx hb dX3_judge_76 (by decide) ?_
              replace hv := Option.some.inj hv
              subst hv
              exact ih17 v23 h21 _ _ _ hB (lv_sub hl [1, 2, 0] rfl) _ kw17 kv17
            · replace hv := y_br_f hv c22
              obtain ⟨t24, hq, ew⟩ := y_mp_e hv
              clear hv; subst ew
              replace kw17 : t24 = _ := kw17
              subst kw17
              have hv := hq
              clear hq
              refine lv_iload_n hx hb dX3_judge_71 rfl (lv_at hl 2 rfl) ?_
              replace hv := Option.some.inj hv
              subst hv
              obtain ⟨e1, e2⟩ := y_pr kv17
              rw [← e1, ← e2]
              exact z_iret hc hB hr dX3_judge_72
  rw [← kt] at hv
  refine lv_aload_n hx hb dX3_judge_0 rfl (lv_at hl 0 rfl) ?_
  refine lv_iconst (v := (0 : Int32)) hx hb dX3_judge_1 (by decide) ?_
  obtain ⟨g25, hv⟩ := y_gd_e hv
  obtain ⟨h26, eh26, hv⟩ := y_nm_e hv
  refine y_putI hc hB 3 5 eh26 g25 (z_l1 hc qfX3_18) dX3_judge_2 (by decide) (by decide) rfl rfl rfl rfl (fun H locs hB => ?_)
  refine lv_aload_n hx hb dX3_judge_5 rfl (lv_at hl 0 rfl) ?_
  refine lv_iconst (v := (0 : Int32)) hx hb dX3_judge_6 (by decide) ?_
  obtain ⟨h27, eh27, hv⟩ := y_nm_e hv
  refine y_putI hc hB 3 6 eh27 (by rw [eh26]; exact g25) (z_l1 hc qfX3_22) dX3_judge_7 (by decide) (by decide) rfl rfl rfl rfl (fun H locs hB => ?_)
  refine lv_aload_n hx hb dX3_judge_10 rfl (lv_at hl 0 rfl) ?_
  refine lv_iconst (v := (0 : Int32)) hx hb dX3_judge_11 (by decide) ?_
  obtain ⟨h28, eh28, hv⟩ := y_nm_e hv
  refine y_putI hc hB 3 7 eh28 (by rw [eh27, eh26]; exact g25) (z_l1 hc qfX3_25) dX3_judge_12 (by decide) (by decide) rfl rfl rfl rfl (fun H locs hB => ?_)
  refine lv_iconst (v := (0 : Int32)) hx hb dX3_judge_15 (by decide) ?_
  refine lv_istore_n (lv' := [(2, .int (0 : Int32)), (0, .ref (ad o0)), (1, .ref (ad o1))]) hx hb dX3_judge_16 rfl hl (by decide) rfl (fun ls hl => ?_)
  obtain ⟨n, hv⟩ := y_lp_e hv
  exact L17 n (0 : Int32) h28 _ _ _ hB (lv_sub hl [1, 2, 0] rfl) _ hv kt
theorem qmX4_1 : Cond.methodLink RX4 1 objectInit ∈ z_ws := List.mem_filter.mpr ⟨List.mem_append_right _ (List.mem_of_getElem? (i := 208) (by decide +kernel)), rfl⟩
theorem qlX4_9 : Cond.classLink RX4 9 "DreamTests$Night" ∈ z_ws := List.mem_filter.mpr ⟨List.mem_append_right _ (List.mem_of_getElem? (i := 209) (by decide +kernel)), rfl⟩
theorem qfX4_11 : Cond.fieldLink RX4 11 "DreamTests$Past" "nights" "[LDreamTests$Night;" ∈ z_ws := List.mem_filter.mpr ⟨List.mem_append_right _ (List.mem_of_getElem? (i := 212) (by decide +kernel)), rfl⟩
theorem qi_DreamTests_Night : Cond.instantiable "DreamTests$Night" 6 ∈ z_ws := List.mem_filter.mpr ⟨List.mem_append_right _ (List.mem_of_getElem? (i := 149) (by decide +kernel)), rfl⟩
theorem qmX4_15 : Cond.methodLink RX4 15 yX2_init ∈ z_ws := List.mem_filter.mpr ⟨List.mem_append_right _ (List.mem_of_getElem? (i := 211) (by decide +kernel)), rfl⟩
theorem qc_X2_init : Cond.code yX2_init cX2_init 2 none ∈ z_ws := List.mem_filter.mpr ⟨List.mem_append_right _ (List.mem_of_getElem? (i := 152) (by decide +kernel)), rfl⟩
theorem qi_X2_init : Cond.instanceMethod yX2_init ∈ z_ws := List.mem_filter.mpr ⟨List.mem_append_right _ (List.mem_of_getElem? (i := 151) (by decide +kernel)), rfl⟩
theorem md_X2_init : z_mdI yX2_init cX2_init 2 1 := ⟨⟨qn_RX2, qc_X2_init, ⟨by decide +kernel, by decide +kernel, by decide +kernel⟩⟩, rfl, qi_X2_init⟩
theorem dX4_init_0 : decode cX4_init 0 = .ok (.aload_n 0, 1) := by decide +kernel
theorem dX4_init_1 : decode cX4_init 1 = .ok (.invokespecial 1, 3) := by decide +kernel
theorem dX4_init_4 : decode cX4_init 4 = .ok (.aload_n 0, 1) := by decide +kernel
theorem dX4_init_5 : decode cX4_init 5 = .ok (.bipush 8, 2) := by decide +kernel
theorem dX4_init_7 : decode cX4_init 7 = .ok (.anewarray 9, 3) := by decide +kernel
theorem dX4_init_10 : decode cX4_init 10 = .ok (.putfield 11, 3) := by decide +kernel
theorem dX4_init_13 : decode cX4_init 13 = .ok (.iconst 0, 1) := by decide +kernel
theorem dX4_init_14 : decode cX4_init 14 = .ok (.istore_n 2, 1) := by decide +kernel
theorem dX4_init_15 : decode cX4_init 15 = .ok (.iload_n 2, 1) := by decide +kernel
theorem dX4_init_16 : decode cX4_init 16 = .ok (.aload_n 0, 1) := by decide +kernel
theorem dX4_init_17 : decode cX4_init 17 = .ok (.getfield 11, 3) := by decide +kernel
theorem dX4_init_20 : decode cX4_init 20 = .ok (.arraylength, 1) := by decide +kernel
theorem dX4_init_21 : decode cX4_init 21 = .ok (.if_icmp .ge 23, 3) := by decide +kernel
theorem dX4_init_24 : decode cX4_init 24 = .ok (.aload_n 0, 1) := by decide +kernel
theorem dX4_init_25 : decode cX4_init 25 = .ok (.getfield 11, 3) := by decide +kernel
theorem dX4_init_28 : decode cX4_init 28 = .ok (.iload_n 2, 1) := by decide +kernel
theorem dX4_init_29 : decode cX4_init 29 = .ok (.new 9, 3) := by decide +kernel
theorem dX4_init_32 : decode cX4_init 32 = .ok (.dup, 1) := by decide +kernel
theorem dX4_init_33 : decode cX4_init 33 = .ok (.aload_n 1, 1) := by decide +kernel
theorem dX4_init_34 : decode cX4_init 34 = .ok (.invokespecial 15, 3) := by decide +kernel
theorem dX4_init_37 : decode cX4_init 37 = .ok (.aastore, 1) := by decide +kernel
theorem dX4_init_38 : decode cX4_init 38 = .ok (.iinc 2 1, 3) := by decide +kernel
theorem dX4_init_41 : decode cX4_init 41 = .ok (.goto (-26), 3) := by decide +kernel
theorem dX4_init_44 : decode cX4_init 44 = .ok (.return_, 1) := by decide +kernel
abbrev rm_X4_init : Room := { frames := 3, cells := 37, slots := 305, locals := 64 }
noncomputable def fX4_init (o0 : Nat) (o1 : Nat) (h : z_T) : Option (z_T) :=
  y_nm (z_n h) fun ob1 =>
  y_nm (z_al h 16 8) fun h2 =>
  y_gd (z_ok h2 o0 4) <|
  y_nm (z_sR h2 o0 0 (some ob1)) fun h5 =>
  y_bi (z_R h5 o0 0) fun ob6 =>
  y_gd (z_ok h5 ob6 16) <|
  y_br ((nI (z_N h5 ob6)) ≤ (0 : Int32))
    (some h5)
    (y_nm (z_n h5) fun ob9 =>
    y_nm (z_al h5 2 0) fun h10 =>
    y_bi (fX2_init ob9 o1 h10) fun h13 =>
    y_gd (z_ok h13 ob6 16) <|
    y_gd (z_ix (0 : Int32) (z_N h13 ob6)) <|
    y_gd (z_ok h13 ob9 2) <|
    y_nm (z_sR h13 ob6 (0 : Int32).toNatClampNeg (some ob9)) fun h17 =>
    y_nm ((0 : Int32) + 1) fun v18 =>
    y_gd (z_ok h17 o0 4) <|
    y_bi (z_R h17 o0 0) fun ob20 =>
    y_gd (z_ok h17 ob20 16) <|
    y_br ((nI (z_N h17 ob20)) ≤ v18)
      (some h17)
      (y_nm (z_n h17) fun ob23 =>
      y_nm (z_al h17 2 0) fun h24 =>
      y_bi (fX2_init ob23 o1 h24) fun h27 =>
      y_gd (z_ok h27 ob20 16) <|
      y_gd (z_ix v18 (z_N h27 ob20)) <|
      y_gd (z_ok h27 ob23 2) <|
      y_nm (z_sR h27 ob20 v18.toNatClampNeg (some ob23)) fun h31 =>
      y_nm (v18 + 1) fun v32 =>
      y_gd (z_ok h31 o0 4) <|
      y_bi (z_R h31 o0 0) fun ob34 =>
      y_gd (z_ok h31 ob34 16) <|
      y_br ((nI (z_N h31 ob34)) ≤ v32)
        (some h31)
        (y_nm (z_n h31) fun ob37 =>
        y_nm (z_al h31 2 0) fun h38 =>
        y_bi (fX2_init ob37 o1 h38) fun h41 =>
        y_gd (z_ok h41 ob34 16) <|
        y_gd (z_ix v32 (z_N h41 ob34)) <|
        y_gd (z_ok h41 ob37 2) <|
        y_nm (z_sR h41 ob34 v32.toNatClampNeg (some ob37)) fun h45 =>
        y_nm (v32 + 1) fun v46 =>
        y_gd (z_ok h45 o0 4) <|
        y_bi (z_R h45 o0 0) fun ob48 =>
        y_gd (z_ok h45 ob48 16) <|
        y_br ((nI (z_N h45 ob48)) ≤ v46)
          (some h45)
          (y_nm (z_n h45) fun ob51 =>
          y_nm (z_al h45 2 0) fun h52 =>
          y_bi (fX2_init ob51 o1 h52) fun h55 =>
          y_gd (z_ok h55 ob48 16) <|
          y_gd (z_ix v46 (z_N h55 ob48)) <|
          y_gd (z_ok h55 ob51 2) <|
          y_nm (z_sR h55 ob48 v46.toNatClampNeg (some ob51)) fun h59 =>
          y_nm (v46 + 1) fun v60 =>
          y_gd (z_ok h59 o0 4) <|
          y_bi (z_R h59 o0 0) fun ob62 =>
          y_gd (z_ok h59 ob62 16) <|
          y_br ((nI (z_N h59 ob62)) ≤ v60)
            (some h59)
            (y_nm (z_n h59) fun ob65 =>
            y_nm (z_al h59 2 0) fun h66 =>
            y_bi (fX2_init ob65 o1 h66) fun h69 =>
            y_gd (z_ok h69 ob62 16) <|
            y_gd (z_ix v60 (z_N h69 ob62)) <|
            y_gd (z_ok h69 ob65 2) <|
            y_nm (z_sR h69 ob62 v60.toNatClampNeg (some ob65)) fun h73 =>
            y_nm (v60 + 1) fun v74 =>
            y_gd (z_ok h73 o0 4) <|
            y_bi (z_R h73 o0 0) fun ob76 =>
            y_gd (z_ok h73 ob76 16) <|
            y_br ((nI (z_N h73 ob76)) ≤ v74)
              (some h73)
              (y_nm (z_n h73) fun ob79 =>
              y_nm (z_al h73 2 0) fun h80 =>
              y_bi (fX2_init ob79 o1 h80) fun h83 =>
              y_gd (z_ok h83 ob76 16) <|
              y_gd (z_ix v74 (z_N h83 ob76)) <|
              y_gd (z_ok h83 ob79 2) <|
              y_nm (z_sR h83 ob76 v74.toNatClampNeg (some ob79)) fun h87 =>
              y_nm (v74 + 1) fun v88 =>
              y_gd (z_ok h87 o0 4) <|
              y_bi (z_R h87 o0 0) fun ob90 =>
              y_gd (z_ok h87 ob90 16) <|
              y_br ((nI (z_N h87 ob90)) ≤ v88)
                (some h87)
                (y_nm (z_n h87) fun ob93 =>
                y_nm (z_al h87 2 0) fun h94 =>
                y_bi (fX2_init ob93 o1 h94) fun h97 =>
                y_gd (z_ok h97 ob90 16) <|
                y_gd (z_ix v88 (z_N h97 ob90)) <|
                y_gd (z_ok h97 ob93 2) <|
                y_nm (z_sR h97 ob90 v88.toNatClampNeg (some ob93)) fun h101 =>
                y_nm (v88 + 1) fun v102 =>
                y_gd (z_ok h101 o0 4) <|
                y_bi (z_R h101 o0 0) fun ob104 =>
                y_gd (z_ok h101 ob104 16) <|
                y_br ((nI (z_N h101 ob104)) ≤ v102)
                  (some h101)
                  (y_nm (z_n h101) fun ob107 =>
                  y_nm (z_al h101 2 0) fun h108 =>
                  y_bi (fX2_init ob107 o1 h108) fun h111 =>
                  y_gd (z_ok h111 ob104 16) <|
                  y_gd (z_ix v102 (z_N h111 ob104)) <|
                  y_gd (z_ok h111 ob107 2) <|
                  y_nm (z_sR h111 ob104 v102.toNatClampNeg (some ob107)) fun h115 =>
                  y_nm (v102 + 1) fun v116 =>
                  y_gd (z_ok h115 o0 4) <|
                  y_bi (z_R h115 o0 0) fun ob118 =>
                  y_gd (z_ok h115 ob118 16) <|
                  y_br ((nI (z_N h115 ob118)) ≤ v116)
                    (some h115)
                    (y_nm (z_n h115) fun ob121 =>
                    y_nm (z_al h115 2 0) fun h122 =>
                    y_bi (fX2_init ob121 o1 h122) fun h125 =>
                    y_gd (z_ok h125 ob118 16) <|
                    y_gd (z_ix v116 (z_N h125 ob118)) <|
                    y_gd (z_ok h125 ob121 2) <|
                    y_nm (z_sR h125 ob118 v116.toNatClampNeg (some ob121)) fun h129 =>
                    y_nm (v116 + 1) fun v130 =>
                    none)))))))))
set_option maxHeartbeats 4000000 in
set_option maxRecDepth 100000 in
theorem mm_X4_init {G : z_Gt} (hSK : z_SK (z_S G)) (l : Launch) (ad : Nat → Nat) (o0 : Nat) (o1 : Nat) (h : z_T) {h9 : z_T} (hv : fX4_init o0 o1 h = some h9) : z_Mv G (z_S G) l yX4_init cX4_init 3 rm_X4_init 37 305 [.ref (ad o0), .ref (ad o1)] ad h h9 := by
  refine z_ofW hSK (by decide) (Nat.le_of_ble_eq_true rfl) ?_
  intro p e s m args below meth c ls hc hr hnm hB hl
  have hx := hc.1.1
  have hb := hc.1.2.1
  have hown := hc.1.2.2.2.1
  have hts := hc.1.2.2.2.2
  replace hc : z_C G (z_S G) ad (z_n h) p m c cX4_init 3 s args RX4 meth := hc
  replace hown : s.vm.findClass RX4 = some m.cls := hown
  replace hl : lv_has ls 3 [(0, .ref (ad o0)), (1, .ref (ad o1))] := hl
  show W p l e rm_X4_init s m args below meth c s.heap [] 0 0 (MQ below (z_Qv G ad h9 (z_n h) s.heap.size) args s 37 305 (z_A ad (z_n h) s.heap.size)) (F0 m 0 ls [])
  obtain ⟨rs, kt⟩ : ∃ rs : z_T, rs = h9 := ⟨_, rfl⟩
  generalize hn0 : z_n h = n0 at hc hB ⊢
  rw [← kt] at hv
  refine lv_aload_n hx hb dX4_init_0 rfl (lv_at hl 0 rfl) ?_
  refine z_objI hc qmX4_1 q_objInst q_objCode hl.1 ⟨Nat.le_of_ble_eq_true rfl, Nat.le_of_ble_eq_true rfl⟩ dX4_init_1 ?_
  refine lv_aload_n hx hb dX4_init_4 rfl (lv_at hl 0 rfl) ?_
  refine lv_bipush (v := (8 : Int32)) hx hb dX4_init_5 (by decide) ?_
  obtain ⟨ob1, eob1, hv⟩ := y_nm_e hv
  obtain ⟨h2, eh2, hv⟩ := y_nm_e hv
  refine z_anew hc hB 16 8 (n := (8 : Int32)) eh2 (by decide) (by decide) (by decide) rfl qlX4_9 hc.2.1.2.2.2.1.2.2.2.2.2.1 (by decide) (by decide) (Nat.le_of_ble_eq_true rfl) (Nat.le_of_ble_eq_true rfl) dX4_init_7 (fun H hB => ?_)
  rw [← eob1]
  have g3 : z_ok h2 ob1 16 = true := by rw [eh2, eob1]; exact z_al_ok
  obtain ⟨g4, hv⟩ := y_gd_e hv
  obtain ⟨h5, eh5, hv⟩ := y_nm_e hv
  refine z_putF hc hB 4 0 (r := (some ob1)) rfl (z_hrS (k := 16) g3) eh5 g4 qfX4_11 dX4_init_10 hnm (by decide) (by decide) rfl rfl rfl (fun r => by cases r <;> rfl) (fun r => by cases r <;> rfl) (fun H locs hB => ?_)
  refine lv_iconst (v := (0 : Int32)) hx hb dX4_init_13 (by decide) ?_
  refine lv_istore_n (lv' := [(2, .int (0 : Int32)), (0, .ref (ad o0)), (1, .ref (ad o1))]) hx hb dX4_init_14 rfl hl (by decide) rfl (fun ls hl => ?_)
  refine lv_iload_n hx hb dX4_init_15 rfl (lv_at hl 0 rfl) ?_
  refine lv_aload_n hx hb dX4_init_16 rfl (lv_at hl 1 rfl) ?_
  obtain ⟨ob6, eob6, hv⟩ := y_bi_e hv
  refine z_getR hc hB 4 0 (by rw [eh5]; exact g4) eob6 (by decide) (by decide) rfl (z_l1 hc qfX4_11) dX4_init_17 ?_
  obtain ⟨g7, hv⟩ := y_gd_e hv
  refine z_alen hc hB 16 (by decide) (by decide) g7 dX4_init_20 ?_
  refine lv_icmp_ge (tgt := 44) hx hb dX4_init_21 (by decide) (fun c8 => ?_) (fun c8 => ?_)
  · replace hv := y_br_t hv c8
    refine W.widen (k := 37) (n := 305) (Nat.le_of_ble_eq_true rfl) (Nat.le_of_ble_eq_true rfl) ?_
    replace hv := Option.some.inj hv
    subst hv
    rw [← kt]
    exact z_vret hc hB hr dX4_init_44
  · replace hv := y_br_f hv c8
    refine lv_aload_n hx hb dX4_init_24 rfl (lv_at hl 1 rfl) ?_
    refine z_getR hc hB 4 0 (by rw [eh5]; exact g4) eob6 (by decide) (by decide) rfl (z_l1 hc qfX4_11) dX4_init_25 ?_
    refine lv_iload_n hx hb dX4_init_28 rfl (lv_at hl 0 rfl) ?_
    obtain ⟨ob9, eob9, hv⟩ := y_nm_e hv
    obtain ⟨h10, eh10, hv⟩ := y_nm_e hv
    refine z_new hc hB 2 eh10 (by decide) qlX4_9 qi_DreamTests_Night qn_RX2 (Nat.le_of_ble_eq_true rfl) (Nat.le_of_ble_eq_true rfl) dX4_init_29 (fun H hB => ?_)
    rw [← eob9]
    have g11 : z_ok h10 ob9 2 = true := by rw [eh10, eob9]; exact z_al_ok
    refine lv_dup hx hb dX4_init_32 rfl ?_
    refine lv_aload_n hx hb dX4_init_33 rfl (lv_at hl 2 rfl) ?_
    obtain ⟨h13, c12, hv⟩ := y_bi_e hv
    refine z_thV hc hB (z_runI (rest := [.ref (ad ob9), .int (0 : Int32), .ref (ad ob6)]) hc hB (mm_X2_init hSK l ad ob9 o1 h10 c12) md_X2_init qmX4_15 rfl rfl ⟨Nat.le_of_ble_eq_true rfl, Nat.le_of_ble_eq_true rfl⟩ rfl hl.1 rfl (Nat.le_of_ble_eq_true rfl) dX4_init_34 ⟨Nat.le_of_ble_eq_true rfl, Nat.le_of_ble_eq_true rfl⟩) (fun H locs hB => ?_)
    obtain ⟨g14, hv⟩ := y_gd_e hv
    obtain ⟨i15, hv⟩ := y_gd_e hv
    obtain ⟨g16, hv⟩ := y_gd_e hv
    obtain ⟨h17, eh17, hv⟩ := y_nm_e hv
    refine y_aast hc hB 16 2 eh17 g14 i15 g16 dX4_init_37 (by decide) (by decide) (by decide) rfl (fun H locs hB => ?_)
    obtain ⟨v18, ev18, hv⟩ := y_nm_e hv
    refine lv_iinc (v := v18) (lv' := [(2, .int v18), (0, .ref (ad o0)), (1, .ref (ad o1))]) hx hb dX4_init_38 hl (k := 0) rfl (by rw [ev18]; rfl) (by decide) rfl (fun ls hl => ?_)
    refine lv_goto (tgt := 15) hx hb dX4_init_41 (by decide) ?_
    refine lv_iload_n hx hb dX4_init_15 rfl (lv_at hl 0 rfl) ?_
    refine lv_aload_n hx hb dX4_init_16 rfl (lv_at hl 1 rfl) ?_
    obtain ⟨g19, hv⟩ := y_gd_e hv
    obtain ⟨ob20, eob20, hv⟩ := y_bi_e hv
    refine z_getR hc hB 4 0 g19 eob20 (by decide) (by decide) rfl (z_l1 hc qfX4_11) dX4_init_17 ?_
    obtain ⟨g21, hv⟩ := y_gd_e hv
    refine z_alen hc hB 16 (by decide) (by decide) g21 dX4_init_20 ?_
    refine lv_icmp_ge (tgt := 44) hx hb dX4_init_21 (by decide) (fun c22 => ?_) (fun c22 => ?_)
    · replace hv := y_br_t hv c22
      refine W.widen (k := 37) (n := 305) (Nat.le_of_ble_eq_true rfl) (Nat.le_of_ble_eq_true rfl) ?_
      replace hv := Option.some.inj hv
      subst hv
      rw [← kt]
      exact z_vret hc hB hr dX4_init_44
    · replace hv := y_br_f hv c22
      refine lv_aload_n hx hb dX4_init_24 rfl (lv_at hl 1 rfl) ?_
      refine z_getR hc hB 4 0 g19 eob20 (by decide) (by decide) rfl (z_l1 hc qfX4_11) dX4_init_25 ?_
      refine lv_iload_n hx hb dX4_init_28 rfl (lv_at hl 0 rfl) ?_
      obtain ⟨ob23, eob23, hv⟩ := y_nm_e hv
      obtain ⟨h24, eh24, hv⟩ := y_nm_e hv
      refine z_new hc hB 2 eh24 (by decide) qlX4_9 qi_DreamTests_Night qn_RX2 (Nat.le_of_ble_eq_true rfl) (Nat.le_of_ble_eq_true rfl) dX4_init_29 (fun H hB => ?_)
      rw [← eob23]
      have g25 : z_ok h24 ob23 2 = true := by rw [eh24, eob23]; exact z_al_ok
      refine lv_dup hx hb dX4_init_32 rfl ?_
      refine lv_aload_n hx hb dX4_init_33 rfl (lv_at hl 2 rfl) ?_
      obtain ⟨h27, c26, hv⟩ := y_bi_e hv
      refine z_thV hc hB (z_runI (rest := [.ref (ad ob23), .int v18, .ref (ad ob20)]) hc hB (mm_X2_init hSK l ad ob23 o1 h24 c26) md_X2_init qmX4_15 rfl rfl ⟨Nat.le_of_ble_eq_true rfl, Nat.le_of_ble_eq_true rfl⟩ rfl hl.1 rfl (Nat.le_of_ble_eq_true rfl) dX4_init_34 ⟨Nat.le_of_ble_eq_true rfl, Nat.le_of_ble_eq_true rfl⟩) (fun H locs hB => ?_)
      obtain ⟨g28, hv⟩ := y_gd_e hv
      obtain ⟨i29, hv⟩ := y_gd_e hv
      obtain ⟨g30, hv⟩ := y_gd_e hv
      obtain ⟨h31, eh31, hv⟩ := y_nm_e hv
      refine y_aast hc hB 16 2 eh31 g28 i29 g30 dX4_init_37 (by decide) (by decide) (by decide) rfl (fun H locs hB => ?_)
      obtain ⟨v32, ev32, hv⟩ := y_nm_e hv
      refine lv_iinc (v := v32) (lv' := [(2, .int v32), (0, .ref (ad o0)), (1, .ref (ad o1))]) hx hb dX4_init_38 hl (k := 0) rfl (by rw [ev32]; rfl) (by decide) rfl (fun ls hl => ?_)
      refine lv_goto (tgt := 15) hx hb dX4_init_41 (by decide) ?_
      refine lv_iload_n hx hb dX4_init_15 rfl (lv_at hl 0 rfl) ?_
      refine lv_aload_n hx hb dX4_init_16 rfl (lv_at hl 1 rfl) ?_
      obtain ⟨g33, hv⟩ := y_gd_e hv
      obtain ⟨ob34, eob34, hv⟩ := y_bi_e hv
      refine z_getR hc hB 4 0 g33 eob34 (by decide) (by decide) rfl (z_l1 hc qfX4_11) dX4_init_17 ?_
      obtain ⟨g35, hv⟩ := y_gd_e hv
      refine z_alen hc hB 16 (by decide) (by decide) g35 dX4_init_20 ?_
      refine lv_icmp_ge (tgt := 44) hx hb dX4_init_21 (by decide) (fun c36 => ?_) (fun c36 => ?_)
      · replace hv := y_br_t hv c36
        refine W.widen (k := 37) (n := 305) (Nat.le_of_ble_eq_true rfl) (Nat.le_of_ble_eq_true rfl) ?_
        replace hv := Option.some.inj hv
        subst hv
        rw [← kt]
        exact z_vret hc hB hr dX4_init_44
      · replace hv := y_br_f hv c36
        refine lv_aload_n hx hb dX4_init_24 rfl (lv_at hl 1 rfl) ?_
        refine z_getR hc hB 4 0 g33 eob34 (by decide) (by decide) rfl (z_l1 hc qfX4_11) dX4_init_25 ?_
        refine lv_iload_n hx hb dX4_init_28 rfl (lv_at hl 0 rfl) ?_
        obtain ⟨ob37, eob37, hv⟩ := y_nm_e hv
        obtain ⟨h38, eh38, hv⟩ := y_nm_e hv
        refine z_new hc hB 2 eh38 (by decide) qlX4_9 qi_DreamTests_Night qn_RX2 (Nat.le_of_ble_eq_true rfl) (Nat.le_of_ble_eq_true rfl) dX4_init_29 (fun H hB => ?_)
        rw [← eob37]
        have g39 : z_ok h38 ob37 2 = true := by rw [eh38, eob37]; exact z_al_ok
        refine lv_dup hx hb dX4_init_32 rfl ?_
        refine lv_aload_n hx hb dX4_init_33 rfl (lv_at hl 2 rfl) ?_
        obtain ⟨h41, c40, hv⟩ := y_bi_e hv
        refine z_thV hc hB (z_runI (rest := [.ref (ad ob37), .int v32, .ref (ad ob34)]) hc hB (mm_X2_init hSK l ad ob37 o1 h38 c40) md_X2_init qmX4_15 rfl rfl ⟨Nat.le_of_ble_eq_true rfl, Nat.le_of_ble_eq_true rfl⟩ rfl hl.1 rfl (Nat.le_of_ble_eq_true rfl) dX4_init_34 ⟨Nat.le_of_ble_eq_true rfl, Nat.le_of_ble_eq_true rfl⟩) (fun H locs hB => ?_)
        obtain ⟨g42, hv⟩ := y_gd_e hv
        obtain ⟨i43, hv⟩ := y_gd_e hv
        obtain ⟨g44, hv⟩ := y_gd_e hv
        obtain ⟨h45, eh45, hv⟩ := y_nm_e hv
        refine y_aast hc hB 16 2 eh45 g42 i43 g44 dX4_init_37 (by decide) (by decide) (by decide) rfl (fun H locs hB => ?_)
        obtain ⟨v46, ev46, hv⟩ := y_nm_e hv
        refine lv_iinc (v := v46) (lv' := [(2, .int v46), (0, .ref (ad o0)), (1, .ref (ad o1))]) hx hb dX4_init_38 hl (k := 0) rfl (by rw [ev46]; rfl) (by decide) rfl (fun ls hl => ?_)
        refine lv_goto (tgt := 15) hx hb dX4_init_41 (by decide) ?_
        refine lv_iload_n hx hb dX4_init_15 rfl (lv_at hl 0 rfl) ?_
        refine lv_aload_n hx hb dX4_init_16 rfl (lv_at hl 1 rfl) ?_
        obtain ⟨g47, hv⟩ := y_gd_e hv
        obtain ⟨ob48, eob48, hv⟩ := y_bi_e hv
        refine z_getR hc hB 4 0 g47 eob48 (by decide) (by decide) rfl (z_l1 hc qfX4_11) dX4_init_17 ?_
        obtain ⟨g49, hv⟩ := y_gd_e hv
        refine z_alen hc hB 16 (by decide) (by decide) g49 dX4_init_20 ?_
        refine lv_icmp_ge (tgt := 44) hx hb dX4_init_21 (by decide) (fun c50 => ?_) (fun c50 => ?_)
        · replace hv := y_br_t hv c50
          refine W.widen (k := 37) (n := 305) (Nat.le_of_ble_eq_true rfl) (Nat.le_of_ble_eq_true rfl) ?_
          replace hv := Option.some.inj hv
          subst hv
          rw [← kt]
          exact z_vret hc hB hr dX4_init_44
        · replace hv := y_br_f hv c50
          refine lv_aload_n hx hb dX4_init_24 rfl (lv_at hl 1 rfl) ?_
          refine z_getR hc hB 4 0 g47 eob48 (by decide) (by decide) rfl (z_l1 hc qfX4_11) dX4_init_25 ?_
          refine lv_iload_n hx hb dX4_init_28 rfl (lv_at hl 0 rfl) ?_
          obtain ⟨ob51, eob51, hv⟩ := y_nm_e hv
          obtain ⟨h52, eh52, hv⟩ := y_nm_e hv
          refine z_new hc hB 2 eh52 (by decide) qlX4_9 qi_DreamTests_Night qn_RX2 (Nat.le_of_ble_eq_true rfl) (Nat.le_of_ble_eq_true rfl) dX4_init_29 (fun H hB => ?_)
          rw [← eob51]
          have g53 : z_ok h52 ob51 2 = true := by rw [eh52, eob51]; exact z_al_ok
          refine lv_dup hx hb dX4_init_32 rfl ?_
          refine lv_aload_n hx hb dX4_init_33 rfl (lv_at hl 2 rfl) ?_
          obtain ⟨h55, c54, hv⟩ := y_bi_e hv
          refine z_thV hc hB (z_runI (rest := [.ref (ad ob51), .int v46, .ref (ad ob48)]) hc hB (mm_X2_init hSK l ad ob51 o1 h52 c54) md_X2_init qmX4_15 rfl rfl ⟨Nat.le_of_ble_eq_true rfl, Nat.le_of_ble_eq_true rfl⟩ rfl hl.1 rfl (Nat.le_of_ble_eq_true rfl) dX4_init_34 ⟨Nat.le_of_ble_eq_true rfl, Nat.le_of_ble_eq_true rfl⟩) (fun H locs hB => ?_)
          obtain ⟨g56, hv⟩ := y_gd_e hv
          obtain ⟨i57, hv⟩ := y_gd_e hv
          obtain ⟨g58, hv⟩ := y_gd_e hv
          obtain ⟨h59, eh59, hv⟩ := y_nm_e hv
          refine y_aast hc hB 16 2 eh59 g56 i57 g58 dX4_init_37 (by decide) (by decide) (by decide) rfl (fun H locs hB => ?_)
          obtain ⟨v60, ev60, hv⟩ := y_nm_e hv
          refine lv_iinc (v := v60) (lv' := [(2, .int v60), (0, .ref (ad o0)), (1, .ref (ad o1))]) hx hb dX4_init_38 hl (k := 0) rfl (by rw [ev60]; rfl) (by decide) rfl (fun ls hl => ?_)
          refine lv_goto (tgt := 15) hx hb dX4_init_41 (by decide) ?_
          refine lv_iload_n hx hb dX4_init_15 rfl (lv_at hl 0 rfl) ?_
          refine lv_aload_n hx hb dX4_init_16 rfl (lv_at hl 1 rfl) ?_
          obtain ⟨g61, hv⟩ := y_gd_e hv
          obtain ⟨ob62, eob62, hv⟩ := y_bi_e hv
          refine z_getR hc hB 4 0 g61 eob62 (by decide) (by decide) rfl (z_l1 hc qfX4_11) dX4_init_17 ?_
          obtain ⟨g63, hv⟩ := y_gd_e hv
          refine z_alen hc hB 16 (by decide) (by decide) g63 dX4_init_20 ?_
          refine lv_icmp_ge (tgt := 44) hx hb dX4_init_21 (by decide) (fun c64 => ?_) (fun c64 => ?_)
          · replace hv := y_br_t hv c64
            refine W.widen (k := 37) (n := 305) (Nat.le_of_ble_eq_true rfl) (Nat.le_of_ble_eq_true rfl) ?_
            replace hv := Option.some.inj hv
            subst hv
            rw [← kt]
            exact z_vret hc hB hr dX4_init_44
          · replace hv := y_br_f hv c64
            refine lv_aload_n hx hb dX4_init_24 rfl (lv_at hl 1 rfl) ?_
            refine z_getR hc hB 4 0 g61 eob62 (by decide) (by decide) rfl (z_l1 hc qfX4_11) dX4_init_25 ?_
            refine lv_iload_n hx hb dX4_init_28 rfl (lv_at hl 0 rfl) ?_
            obtain ⟨ob65, eob65, hv⟩ := y_nm_e hv
            obtain ⟨h66, eh66, hv⟩ := y_nm_e hv
            refine z_new hc hB 2 eh66 (by decide) qlX4_9 qi_DreamTests_Night qn_RX2 (Nat.le_of_ble_eq_true rfl) (Nat.le_of_ble_eq_true rfl) dX4_init_29 (fun H hB => ?_)
            rw [← eob65]
            have g67 : z_ok h66 ob65 2 = true := by rw [eh66, eob65]; exact z_al_ok
            refine lv_dup hx hb dX4_init_32 rfl ?_
            refine lv_aload_n hx hb dX4_init_33 rfl (lv_at hl 2 rfl) ?_
            obtain ⟨h69, c68, hv⟩ := y_bi_e hv
            refine z_thV hc hB (z_runI (rest := [.ref (ad ob65), .int v60, .ref (ad ob62)]) hc hB (mm_X2_init hSK l ad ob65 o1 h66 c68) md_X2_init qmX4_15 rfl rfl ⟨Nat.le_of_ble_eq_true rfl, Nat.le_of_ble_eq_true rfl⟩ rfl hl.1 rfl (Nat.le_of_ble_eq_true rfl) dX4_init_34 ⟨Nat.le_of_ble_eq_true rfl, Nat.le_of_ble_eq_true rfl⟩) (fun H locs hB => ?_)
            obtain ⟨g70, hv⟩ := y_gd_e hv
            obtain ⟨i71, hv⟩ := y_gd_e hv
            obtain ⟨g72, hv⟩ := y_gd_e hv
            obtain ⟨h73, eh73, hv⟩ := y_nm_e hv
            refine y_aast hc hB 16 2 eh73 g70 i71 g72 dX4_init_37 (by decide) (by decide) (by decide) rfl (fun H locs hB => ?_)
            obtain ⟨v74, ev74, hv⟩ := y_nm_e hv
            refine lv_iinc (v := v74) (lv' := [(2, .int v74), (0, .ref (ad o0)), (1, .ref (ad o1))]) hx hb dX4_init_38 hl (k := 0) rfl (by rw [ev74]; rfl) (by decide) rfl (fun ls hl => ?_)
            refine lv_goto (tgt := 15) hx hb dX4_init_41 (by decide) ?_
            refine lv_iload_n hx hb dX4_init_15 rfl (lv_at hl 0 rfl) ?_
            refine lv_aload_n hx hb dX4_init_16 rfl (lv_at hl 1 rfl) ?_
            obtain ⟨g75, hv⟩ := y_gd_e hv
            obtain ⟨ob76, eob76, hv⟩ := y_bi_e hv
            refine z_getR hc hB 4 0 g75 eob76 (by decide) (by decide) rfl (z_l1 hc qfX4_11) dX4_init_17 ?_
            obtain ⟨g77, hv⟩ := y_gd_e hv
            refine z_alen hc hB 16 (by decide) (by decide) g77 dX4_init_20 ?_
            refine lv_icmp_ge (tgt := 44) hx hb dX4_init_21 (by decide) (fun c78 => ?_) (fun c78 => ?_)
            · replace hv := y_br_t hv c78
              refine W.widen (k := 37) (n := 305) (Nat.le_of_ble_eq_true rfl) (Nat.le_of_ble_eq_true rfl) ?_
              replace hv := Option.some.inj hv
              subst hv
              rw [← kt]
              exact z_vret hc hB hr dX4_init_44
            · replace hv := y_br_f hv c78
              refine lv_aload_n hx hb dX4_init_24 rfl (lv_at hl 1 rfl) ?_
              refine z_getR hc hB 4 0 g75 eob76 (by decide) (by decide) rfl (z_l1 hc qfX4_11) dX4_init_25 ?_
              refine lv_iload_n hx hb dX4_init_28 rfl (lv_at hl 0 rfl) ?_
              obtain ⟨ob79, eob79, hv⟩ := y_nm_e hv
              obtain ⟨h80, eh80, hv⟩ := y_nm_e hv
              refine z_new hc hB 2 eh80 (by decide) qlX4_9 qi_DreamTests_Night qn_RX2 (Nat.le_of_ble_eq_true rfl) (Nat.le_of_ble_eq_true rfl) dX4_init_29 (fun H hB => ?_)
              rw [← eob79]
              have g81 : z_ok h80 ob79 2 = true := by rw [eh80, eob79]; exact z_al_ok
              refine lv_dup hx hb dX4_init_32 rfl ?_
              refine lv_aload_n hx hb dX4_init_33 rfl (lv_at hl 2 rfl) ?_
              obtain ⟨h83, c82, hv⟩ := y_bi_e hv
              refine z_thV hc hB (z_runI (rest := [.ref (ad ob79), .int v74, .ref (ad ob76)]) hc hB (mm_X2_init hSK l ad ob79 o1 h80 c82) md_X2_init qmX4_15 rfl rfl ⟨Nat.le_of_ble_eq_true rfl, Nat.le_of_ble_eq_true rfl⟩ rfl hl.1 rfl (Nat.le_of_ble_eq_true rfl) dX4_init_34 ⟨Nat.le_of_ble_eq_true rfl, Nat.le_of_ble_eq_true rfl⟩) (fun H locs hB => ?_)
              obtain ⟨g84, hv⟩ := y_gd_e hv
              obtain ⟨i85, hv⟩ := y_gd_e hv
              obtain ⟨g86, hv⟩ := y_gd_e hv
              obtain ⟨h87, eh87, hv⟩ := y_nm_e hv
              refine y_aast hc hB 16 2 eh87 g84 i85 g86 dX4_init_37 (by decide) (by decide) (by decide) rfl (fun H locs hB => ?_)
              obtain ⟨v88, ev88, hv⟩ := y_nm_e hv
              refine lv_iinc (v := v88) (lv' := [(2, .int v88), (0, .ref (ad o0)), (1, .ref (ad o1))]) hx hb dX4_init_38 hl (k := 0) rfl (by rw [ev88]; rfl) (by decide) rfl (fun ls hl => ?_)
              refine lv_goto (tgt := 15) hx hb dX4_init_41 (by decide) ?_
              refine lv_iload_n hx hb dX4_init_15 rfl (lv_at hl 0 rfl) ?_
              refine lv_aload_n hx hb dX4_init_16 rfl (lv_at hl 1 rfl) ?_
              obtain ⟨g89, hv⟩ := y_gd_e hv
              obtain ⟨ob90, eob90, hv⟩ := y_bi_e hv
              refine z_getR hc hB 4 0 g89 eob90 (by decide) (by decide) rfl (z_l1 hc qfX4_11) dX4_init_17 ?_
              obtain ⟨g91, hv⟩ := y_gd_e hv
              refine z_alen hc hB 16 (by decide) (by decide) g91 dX4_init_20 ?_
              refine lv_icmp_ge (tgt := 44) hx hb dX4_init_21 (by decide) (fun c92 => ?_) (fun c92 => ?_)
              · replace hv := y_br_t hv c92
                refine W.widen (k := 37) (n := 305) (Nat.le_of_ble_eq_true rfl) (Nat.le_of_ble_eq_true rfl) ?_
                replace hv := Option.some.inj hv
                subst hv
                rw [← kt]
                exact z_vret hc hB hr dX4_init_44
              · replace hv := y_br_f hv c92
                refine lv_aload_n hx hb dX4_init_24 rfl (lv_at hl 1 rfl) ?_
                refine z_getR hc hB 4 0 g89 eob90 (by decide) (by decide) rfl (z_l1 hc qfX4_11) dX4_init_25 ?_
                refine lv_iload_n hx hb dX4_init_28 rfl (lv_at hl 0 rfl) ?_
                obtain ⟨ob93, eob93, hv⟩ := y_nm_e hv
                obtain ⟨h94, eh94, hv⟩ := y_nm_e hv
                refine z_new hc hB 2 eh94 (by decide) qlX4_9 qi_DreamTests_Night qn_RX2 (Nat.le_of_ble_eq_true rfl) (Nat.le_of_ble_eq_true rfl) dX4_init_29 (fun H hB => ?_)
                rw [← eob93]
                have g95 : z_ok h94 ob93 2 = true := by rw [eh94, eob93]; exact z_al_ok
                refine lv_dup hx hb dX4_init_32 rfl ?_
                refine lv_aload_n hx hb dX4_init_33 rfl (lv_at hl 2 rfl) ?_
                obtain ⟨h97, c96, hv⟩ := y_bi_e hv
                refine z_thV hc hB (z_runI (rest := [.ref (ad ob93), .int v88, .ref (ad ob90)]) hc hB (mm_X2_init hSK l ad ob93 o1 h94 c96) md_X2_init qmX4_15 rfl rfl ⟨Nat.le_of_ble_eq_true rfl, Nat.le_of_ble_eq_true rfl⟩ rfl hl.1 rfl (Nat.le_of_ble_eq_true rfl) dX4_init_34 ⟨Nat.le_of_ble_eq_true rfl, Nat.le_of_ble_eq_true rfl⟩) (fun H locs hB => ?_)
                obtain ⟨g98, hv⟩ := y_gd_e hv
                obtain ⟨i99, hv⟩ := y_gd_e hv
                obtain ⟨g100, hv⟩ := y_gd_e hv
                obtain ⟨h101, eh101, hv⟩ := y_nm_e hv
                refine y_aast hc hB 16 2 eh101 g98 i99 g100 dX4_init_37 (by decide) (by decide) (by decide) rfl (fun H locs hB => ?_)
                obtain ⟨v102, ev102, hv⟩ := y_nm_e hv
                refine lv_iinc (v := v102) (lv' := [(2, .int v102), (0, .ref (ad o0)), (1, .ref (ad o1))]) hx hb dX4_init_38 hl (k := 0) rfl (by rw [ev102]; rfl) (by decide) rfl (fun ls hl => ?_)
                refine lv_goto (tgt := 15) hx hb dX4_init_41 (by decide) ?_
                refine lv_iload_n hx hb dX4_init_15 rfl (lv_at hl 0 rfl) ?_
                refine lv_aload_n hx hb dX4_init_16 rfl (lv_at hl 1 rfl) ?_
                obtain ⟨g103, hv⟩ := y_gd_e hv
                obtain ⟨ob104, eob104, hv⟩ := y_bi_e hv
                refine z_getR hc hB 4 0 g103 eob104 (by decide) (by decide) rfl (z_l1 hc qfX4_11) dX4_init_17 ?_
                obtain ⟨g105, hv⟩ := y_gd_e hv
                refine z_alen hc hB 16 (by decide) (by decide) g105 dX4_init_20 ?_
                refine lv_icmp_ge (tgt := 44) hx hb dX4_init_21 (by decide) (fun c106 => ?_) (fun c106 => ?_)
                · replace hv := y_br_t hv c106
                  refine W.widen (k := 37) (n := 305) (Nat.le_of_ble_eq_true rfl) (Nat.le_of_ble_eq_true rfl) ?_
                  replace hv := Option.some.inj hv
                  subst hv
                  rw [← kt]
                  exact z_vret hc hB hr dX4_init_44
                · replace hv := y_br_f hv c106
                  refine lv_aload_n hx hb dX4_init_24 rfl (lv_at hl 1 rfl) ?_
                  refine z_getR hc hB 4 0 g103 eob104 (by decide) (by decide) rfl (z_l1 hc qfX4_11) dX4_init_25 ?_
                  refine lv_iload_n hx hb dX4_init_28 rfl (lv_at hl 0 rfl) ?_
                  obtain ⟨ob107, eob107, hv⟩ := y_nm_e hv
                  obtain ⟨h108, eh108, hv⟩ := y_nm_e hv
                  refine z_new hc hB 2 eh108 (by decide) qlX4_9 qi_DreamTests_Night qn_RX2 (Nat.le_of_ble_eq_true rfl) (Nat.le_of_ble_eq_true rfl) dX4_init_29 (fun H hB => ?_)
                  rw [← eob107]
                  have g109 : z_ok h108 ob107 2 = true := by rw [eh108, eob107]; exact z_al_ok
                  refine lv_dup hx hb dX4_init_32 rfl ?_
                  refine lv_aload_n hx hb dX4_init_33 rfl (lv_at hl 2 rfl) ?_
                  obtain ⟨h111, c110, hv⟩ := y_bi_e hv
                  refine z_thV hc hB (z_runI (rest := [.ref (ad ob107), .int v102, .ref (ad ob104)]) hc hB (mm_X2_init hSK l ad ob107 o1 h108 c110) md_X2_init qmX4_15 rfl rfl ⟨Nat.le_of_ble_eq_true rfl, Nat.le_of_ble_eq_true rfl⟩ rfl hl.1 rfl (Nat.le_of_ble_eq_true rfl) dX4_init_34 ⟨Nat.le_of_ble_eq_true rfl, Nat.le_of_ble_eq_true rfl⟩) (fun H locs hB => ?_)
                  obtain ⟨g112, hv⟩ := y_gd_e hv
                  obtain ⟨i113, hv⟩ := y_gd_e hv
                  obtain ⟨g114, hv⟩ := y_gd_e hv
                  obtain ⟨h115, eh115, hv⟩ := y_nm_e hv
                  refine y_aast hc hB 16 2 eh115 g112 i113 g114 dX4_init_37 (by decide) (by decide) (by decide) rfl (fun H locs hB => ?_)
                  obtain ⟨v116, ev116, hv⟩ := y_nm_e hv
                  refine lv_iinc (v := v116) (lv' := [(2, .int v116), (0, .ref (ad o0)), (1, .ref (ad o1))]) hx hb dX4_init_38 hl (k := 0) rfl (by rw [ev116]; rfl) (by decide) rfl (fun ls hl => ?_)
                  refine lv_goto (tgt := 15) hx hb dX4_init_41 (by decide) ?_
                  refine lv_iload_n hx hb dX4_init_15 rfl (lv_at hl 0 rfl) ?_
                  refine lv_aload_n hx hb dX4_init_16 rfl (lv_at hl 1 rfl) ?_
                  obtain ⟨g117, hv⟩ := y_gd_e hv
                  obtain ⟨ob118, eob118, hv⟩ := y_bi_e hv
                  refine z_getR hc hB 4 0 g117 eob118 (by decide) (by decide) rfl (z_l1 hc qfX4_11) dX4_init_17 ?_
                  obtain ⟨g119, hv⟩ := y_gd_e hv
                  refine z_alen hc hB 16 (by decide) (by decide) g119 dX4_init_20 ?_
                  refine lv_icmp_ge (tgt := 44) hx hb dX4_init_21 (by decide) (fun c120 => ?_) (fun c120 => ?_)
                  · replace hv := y_br_t hv c120
                    refine W.widen (k := 37) (n := 305) (Nat.le_of_ble_eq_true rfl) (Nat.le_of_ble_eq_true rfl) ?_
                    replace hv := Option.some.inj hv
                    subst hv
                    rw [← kt]
                    exact z_vret hc hB hr dX4_init_44
                  · replace hv := y_br_f hv c120
                    refine lv_aload_n hx hb dX4_init_24 rfl (lv_at hl 1 rfl) ?_
                    refine z_getR hc hB 4 0 g117 eob118 (by decide) (by decide) rfl (z_l1 hc qfX4_11) dX4_init_25 ?_
                    refine lv_iload_n hx hb dX4_init_28 rfl (lv_at hl 0 rfl) ?_
                    obtain ⟨ob121, eob121, hv⟩ := y_nm_e hv
                    obtain ⟨h122, eh122, hv⟩ := y_nm_e hv
                    refine z_new hc hB 2 eh122 (by decide) qlX4_9 qi_DreamTests_Night qn_RX2 (Nat.le_of_ble_eq_true rfl) (Nat.le_of_ble_eq_true rfl) dX4_init_29 (fun H hB => ?_)
                    rw [← eob121]
                    have g123 : z_ok h122 ob121 2 = true := by rw [eh122, eob121]; exact z_al_ok
                    refine lv_dup hx hb dX4_init_32 rfl ?_
                    refine lv_aload_n hx hb dX4_init_33 rfl (lv_at hl 2 rfl) ?_
                    obtain ⟨h125, c124, hv⟩ := y_bi_e hv
                    refine z_thV hc hB (z_runI (rest := [.ref (ad ob121), .int v116, .ref (ad ob118)]) hc hB (mm_X2_init hSK l ad ob121 o1 h122 c124) md_X2_init qmX4_15 rfl rfl ⟨Nat.le_of_ble_eq_true rfl, Nat.le_of_ble_eq_true rfl⟩ rfl hl.1 rfl (Nat.le_of_ble_eq_true rfl) dX4_init_34 ⟨Nat.le_of_ble_eq_true rfl, Nat.le_of_ble_eq_true rfl⟩) (fun H locs hB => ?_)
                    obtain ⟨g126, hv⟩ := y_gd_e hv
                    obtain ⟨i127, hv⟩ := y_gd_e hv
                    obtain ⟨g128, hv⟩ := y_gd_e hv
                    obtain ⟨h129, eh129, hv⟩ := y_nm_e hv
                    refine y_aast hc hB 16 2 eh129 g126 i127 g128 dX4_init_37 (by decide) (by decide) (by decide) rfl (fun H locs hB => ?_)
                    obtain ⟨v130, ev130, hv⟩ := y_nm_e hv
                    refine lv_iinc (v := v130) (lv' := [(2, .int v130), (0, .ref (ad o0)), (1, .ref (ad o1))]) hx hb dX4_init_38 hl (k := 0) rfl (by rw [ev130]; rfl) (by decide) rfl (fun ls hl => ?_)
                    refine lv_goto (tgt := 15) hx hb dX4_init_41 (by decide) ?_
                    cases hv
theorem qfX4_26 : Cond.fieldLink RX4 26 "DreamTests$Past" "kept" "I" ∈ z_ws := List.mem_filter.mpr ⟨List.mem_append_right _ (List.mem_of_getElem? (i := 214) (by decide +kernel)), rfl⟩
theorem qmX4_29 : Cond.methodLink RX4 29 Lib.Math.min.name ∈ z_ws := List.mem_filter.mpr ⟨List.mem_append_right _ (List.mem_of_getElem? (i := 550) (by decide +kernel)), rfl⟩
theorem qfX4_18 : Cond.fieldLink RX4 18 "DreamTests$Past" "latest" "I" ∈ z_ws := List.mem_filter.mpr ⟨List.mem_append_right _ (List.mem_of_getElem? (i := 213) (by decide +kernel)), rfl⟩
theorem qmX4_22 : Cond.methodLink RX4 22 yX2_copy ∈ z_ws := List.mem_filter.mpr ⟨List.mem_append_right _ (List.mem_of_getElem? (i := 543) (by decide +kernel)), rfl⟩
theorem qc_X2_copy : Cond.code yX2_copy cX2_copy 2 none ∈ z_ws := List.mem_filter.mpr ⟨List.mem_append_right _ (List.mem_of_getElem? (i := 546) (by decide +kernel)), rfl⟩
theorem qi_X2_copy : Cond.instanceMethod yX2_copy ∈ z_ws := List.mem_filter.mpr ⟨List.mem_append_right _ (List.mem_of_getElem? (i := 544) (by decide +kernel)), rfl⟩
theorem qs_X2_copy : Cond.selects RX2 yX2_copy yX2_copy ∈ z_ws := List.mem_filter.mpr ⟨List.mem_append_right _ (List.mem_of_getElem? (i := 545) (by decide +kernel)), rfl⟩
theorem md_X2_copy : z_mdV yX2_copy cX2_copy 2 none 1 := ⟨⟨qn_RX2, qc_X2_copy, ⟨by decide +kernel, by decide +kernel, by decide +kernel⟩⟩, qi_X2_copy, qs_X2_copy⟩
theorem dX4_keep_0 : decode cX4_keep 0 = .ok (.aload_n 0, 1) := by decide +kernel
theorem dX4_keep_1 : decode cX4_keep 1 = .ok (.aload_n 0, 1) := by decide +kernel
theorem dX4_keep_2 : decode cX4_keep 2 = .ok (.getfield 18, 3) := by decide +kernel
theorem dX4_keep_5 : decode cX4_keep 5 = .ok (.iconst 1, 1) := by decide +kernel
theorem dX4_keep_6 : decode cX4_keep 6 = .ok (.iadd, 1) := by decide +kernel
theorem dX4_keep_7 : decode cX4_keep 7 = .ok (.bipush 7, 2) := by decide +kernel
theorem dX4_keep_9 : decode cX4_keep 9 = .ok (.iand, 1) := by decide +kernel
theorem dX4_keep_10 : decode cX4_keep 10 = .ok (.putfield 18, 3) := by decide +kernel
theorem dX4_keep_13 : decode cX4_keep 13 = .ok (.aload_n 0, 1) := by decide +kernel
theorem dX4_keep_14 : decode cX4_keep 14 = .ok (.getfield 18, 3) := by decide +kernel
theorem dX4_keep_17 : decode cX4_keep 17 = .ok (.aload_n 0, 1) := by decide +kernel
theorem dX4_keep_18 : decode cX4_keep 18 = .ok (.getfield 11, 3) := by decide +kernel
theorem dX4_keep_21 : decode cX4_keep 21 = .ok (.arraylength, 1) := by decide +kernel
theorem dX4_keep_22 : decode cX4_keep 22 = .ok (.if_icmp .ge 16, 3) := by decide +kernel
theorem dX4_keep_25 : decode cX4_keep 25 = .ok (.aload_n 0, 1) := by decide +kernel
theorem dX4_keep_26 : decode cX4_keep 26 = .ok (.getfield 11, 3) := by decide +kernel
theorem dX4_keep_29 : decode cX4_keep 29 = .ok (.aload_n 0, 1) := by decide +kernel
theorem dX4_keep_30 : decode cX4_keep 30 = .ok (.getfield 18, 3) := by decide +kernel
theorem dX4_keep_33 : decode cX4_keep 33 = .ok (.aaload, 1) := by decide +kernel
theorem dX4_keep_34 : decode cX4_keep 34 = .ok (.aload_n 1, 1) := by decide +kernel
theorem dX4_keep_35 : decode cX4_keep 35 = .ok (.invokevirtual 22, 3) := by decide +kernel
theorem dX4_keep_38 : decode cX4_keep 38 = .ok (.aload_n 0, 1) := by decide +kernel
theorem dX4_keep_39 : decode cX4_keep 39 = .ok (.aload_n 0, 1) := by decide +kernel
theorem dX4_keep_40 : decode cX4_keep 40 = .ok (.getfield 26, 3) := by decide +kernel
theorem dX4_keep_43 : decode cX4_keep 43 = .ok (.iconst 1, 1) := by decide +kernel
theorem dX4_keep_44 : decode cX4_keep 44 = .ok (.iadd, 1) := by decide +kernel
theorem dX4_keep_45 : decode cX4_keep 45 = .ok (.bipush 8, 2) := by decide +kernel
theorem dX4_keep_47 : decode cX4_keep 47 = .ok (.invokestatic 29, 3) := by decide +kernel
theorem dX4_keep_50 : decode cX4_keep 50 = .ok (.putfield 26, 3) := by decide +kernel
theorem dX4_keep_53 : decode cX4_keep 53 = .ok (.return_, 1) := by decide +kernel
abbrev rm_X4_keep : Room := { frames := 2, cells := 0, slots := 0, locals := 81 }
noncomputable def fX4_keep_b38 (o0 : Nat) (h : z_T) : Option (z_T) :=
  y_gd (z_ok h o0 4) <|
  y_nm (z_sI h o0 2 (if (8 : Int32) < ((z_I h o0 2) + (1 : Int32)) then (8 : Int32) else ((z_I h o0 2) + (1 : Int32)))) fun h2 =>
  some h2
noncomputable def fX4_keep (o0 : Nat) (o1 : Nat) (h : z_T) : Option (z_T) :=
  y_gd (z_ok h o0 4) <|
  y_nm (z_sI h o0 1 (((z_I h o0 1) + (1 : Int32)) &&& (7 : Int32))) fun h4 =>
  y_bi (z_R h4 o0 0) fun ob5 =>
  y_gd (z_ok h4 ob5 16) <|
  y_br ((nI (z_N h4 ob5)) ≤ (z_I h4 o0 1))
    (fX4_keep_b38 o0 h4)
    (y_gd (z_ix (z_I h4 o0 1) (z_N h4 ob5)) <|
    y_bi (z_R h4 ob5 (z_I h4 o0 1).toNatClampNeg) fun ob9 =>
    y_gd (z_ok h4 ob9 2) <|
    y_bi (fX2_copy ob9 o1 h4) fun h11 =>
    fX4_keep_b38 o0 h11)
set_option maxHeartbeats 4000000 in
set_option maxRecDepth 100000 in
theorem mm_X4_keep {G : z_Gt} (hSK : z_SK (z_S G)) (l : Launch) (ad : Nat → Nat) (o0 : Nat) (o1 : Nat) (h : z_T) {h9 : z_T} (hv : fX4_keep o0 o1 h = some h9) : z_Mv G (z_S G) l yX4_keep cX4_keep 2 rm_X4_keep 0 0 [.ref (ad o0), .ref (ad o1)] ad h h9 := by
  refine z_ofW hSK (by decide) (Nat.le_of_ble_eq_true rfl) ?_
  intro p e s m args below meth c ls hc hr hnm hB hl
  have hx := hc.1.1
  have hb := hc.1.2.1
  have hown := hc.1.2.2.2.1
  have hts := hc.1.2.2.2.2
  replace hc : z_C G (z_S G) ad (z_n h) p m c cX4_keep 2 s args RX4 meth := hc
  replace hown : s.vm.findClass RX4 = some m.cls := hown
  replace hl : lv_has ls 2 [(0, .ref (ad o0)), (1, .ref (ad o1))] := hl
  show W p l e rm_X4_keep s m args below meth c s.heap [] 0 0 (MQ below (z_Qv G ad h9 (z_n h) s.heap.size) args s 0 0 (z_A ad (z_n h) s.heap.size)) (F0 m 0 ls [])
  obtain ⟨rs, kt⟩ : ∃ rs : z_T, rs = h9 := ⟨_, rfl⟩
  generalize hn0 : z_n h = n0 at hc hB ⊢
  have b38 : ∀ (h : z_T) (H : Heap) (locs : List Loc) (ls : Array Slot), z_B G ad n0 s h H locs → lv_has ls 2 [(0, .ref (ad o0))] → ∀ w, fX4_keep_b38 o0 h = some w → w = h9 → W p l e rm_X4_keep s m args below meth c H locs 0 0 (MQ below (z_Qv G ad h9 n0 s.heap.size) args s 0 0 (z_A ad n0 s.heap.size)) (F0 m 38 ls []) := by
    intro h H locs ls hB hl w hv kb
    refine lv_aload_n hx hb dX4_keep_38 rfl (lv_at hl 0 rfl) ?_
    refine lv_aload_n hx hb dX4_keep_39 rfl (lv_at hl 0 rfl) ?_
    obtain ⟨g1, hv⟩ := y_gd_e hv
    refine z_getI hc hB 4 2 g1 (by decide) (by decide) rfl (z_l1 hc qfX4_26) dX4_keep_40 ?_
    refine lv_iconst (v := (1 : Int32)) hx hb dX4_keep_43 (by decide) ?_
    refine lv_iadd hx hb dX4_keep_44 ?_
    refine lv_bipush (v := (8 : Int32)) hx hb dX4_keep_45 (by decide) ?_
    refine va_mmin hx hb (hc.1.2.2.1.trans hl.1.symm) hown (hts _ qmX4_29) (hts _ q_min_st) (hts _ q_mathIni) (hts _ q_min_cd) (Nat.le_of_ble_eq_true rfl) (Nat.le_of_ble_eq_true rfl) (Nat.le_of_ble_eq_true rfl) (Nat.le_of_ble_eq_true rfl) dX4_keep_47 ?_
    obtain ⟨h2, eh2, hv⟩ := y_nm_e hv
    refine y_putI hc hB 4 2 eh2 g1 (z_l1 hc qfX4_26) dX4_keep_50 (by decide) (by decide) rfl rfl rfl rfl (fun H locs hB => ?_)
    replace hv := Option.some.inj hv
    subst hv
    rw [← kb]
    exact z_vret hc hB hr dX4_keep_53
  rw [← kt] at hv
  refine lv_aload_n hx hb dX4_keep_0 rfl (lv_at hl 0 rfl) ?_
  refine lv_aload_n hx hb dX4_keep_1 rfl (lv_at hl 0 rfl) ?_
  obtain ⟨g3, hv⟩ := y_gd_e hv
  refine z_getI hc hB 4 1 g3 (by decide) (by decide) rfl (z_l1 hc qfX4_18) dX4_keep_2 ?_
  refine lv_iconst (v := (1 : Int32)) hx hb dX4_keep_5 (by decide) ?_
  refine lv_iadd hx hb dX4_keep_6 ?_
  refine lv_bipush (v := (7 : Int32)) hx hb dX4_keep_7 (by decide) ?_
  refine lv_iand hx hb dX4_keep_9 ?_
  obtain ⟨h4, eh4, hv⟩ := y_nm_e hv
  refine y_putI hc hB 4 1 eh4 g3 (z_l1 hc qfX4_18) dX4_keep_10 (by decide) (by decide) rfl rfl rfl rfl (fun H locs hB => ?_)
  refine lv_aload_n hx hb dX4_keep_13 rfl (lv_at hl 0 rfl) ?_
  refine z_getI hc hB 4 1 (by rw [eh4]; exact g3) (by decide) (by decide) rfl (z_l1 hc qfX4_18) dX4_keep_14 ?_
  refine lv_aload_n hx hb dX4_keep_17 rfl (lv_at hl 0 rfl) ?_
  obtain ⟨ob5, eob5, hv⟩ := y_bi_e hv
  refine z_getR hc hB 4 0 (by rw [eh4]; exact g3) eob5 (by decide) (by decide) rfl (z_l1 hc qfX4_11) dX4_keep_18 ?_
  obtain ⟨g6, hv⟩ := y_gd_e hv
  refine z_alen hc hB 16 (by decide) (by decide) g6 dX4_keep_21 ?_
  refine lv_icmp_ge (tgt := 38) hx hb dX4_keep_22 (by decide) (fun c7 => ?_) (fun c7 => ?_)
  · replace hv := y_br_t hv c7
    exact b38 h4 _ _ _ hB (lv_sub hl [0] rfl) _ hv kt
  · replace hv := y_br_f hv c7
    refine lv_aload_n hx hb dX4_keep_25 rfl (lv_at hl 0 rfl) ?_
    refine z_getR hc hB 4 0 (by rw [eh4]; exact g3) eob5 (by decide) (by decide) rfl (z_l1 hc qfX4_11) dX4_keep_26 ?_
    refine lv_aload_n hx hb dX4_keep_29 rfl (lv_at hl 0 rfl) ?_
    refine z_getI hc hB 4 1 (by rw [eh4]; exact g3) (by decide) (by decide) rfl (z_l1 hc qfX4_18) dX4_keep_30 ?_
    obtain ⟨i8, hv⟩ := y_gd_e hv
    obtain ⟨ob9, eob9, hv⟩ := y_bi_e hv
    refine z_aald hc hB 16 (by decide) (by decide) rfl g6 i8 eob9 dX4_keep_33 ?_
    refine lv_aload_n hx hb dX4_keep_34 rfl (lv_at hl 1 rfl) ?_
    obtain ⟨g12, hv⟩ := y_gd_e hv
    obtain ⟨h11, c10, hv⟩ := y_bi_e hv
    refine z_thV hc hB (z_runV hc hB 2 (mm_X2_copy hSK l ad ob9 o1 h4 c10) md_X2_copy qmX4_22 g12 (by decide) rfl rfl rfl ⟨Nat.le_of_ble_eq_true rfl, Nat.le_of_ble_eq_true rfl⟩ rfl hl.1 rfl (Nat.le_of_ble_eq_true rfl) dX4_keep_35 ⟨Nat.le_of_ble_eq_true rfl, Nat.le_of_ble_eq_true rfl⟩) (fun H locs hB => ?_)
    exact b38 h11 _ _ _ hB (lv_sub hl [0] rfl) _ hv kt
theorem dX4_giveBack_0 : decode cX4_giveBack 0 = .ok (.aload_n 0, 1) := by decide +kernel
theorem dX4_giveBack_1 : decode cX4_giveBack 1 = .ok (.getfield 26, 3) := by decide +kernel
theorem dX4_giveBack_4 : decode cX4_giveBack 4 = .ok (.ifCond .le 22, 3) := by decide +kernel
theorem dX4_giveBack_7 : decode cX4_giveBack 7 = .ok (.aload_n 0, 1) := by decide +kernel
theorem dX4_giveBack_8 : decode cX4_giveBack 8 = .ok (.getfield 18, 3) := by decide +kernel
theorem dX4_giveBack_11 : decode cX4_giveBack 11 = .ok (.ifCond .lt 15, 3) := by decide +kernel
theorem dX4_giveBack_14 : decode cX4_giveBack 14 = .ok (.aload_n 0, 1) := by decide +kernel
theorem dX4_giveBack_15 : decode cX4_giveBack 15 = .ok (.getfield 18, 3) := by decide +kernel
theorem dX4_giveBack_18 : decode cX4_giveBack 18 = .ok (.aload_n 0, 1) := by decide +kernel
theorem dX4_giveBack_19 : decode cX4_giveBack 19 = .ok (.getfield 11, 3) := by decide +kernel
theorem dX4_giveBack_22 : decode cX4_giveBack 22 = .ok (.arraylength, 1) := by decide +kernel
theorem dX4_giveBack_23 : decode cX4_giveBack 23 = .ok (.if_icmp .lt 5, 3) := by decide +kernel
theorem dX4_giveBack_26 : decode cX4_giveBack 26 = .ok (.iconst 0, 1) := by decide +kernel
theorem dX4_giveBack_27 : decode cX4_giveBack 27 = .ok (.ireturn, 1) := by decide +kernel
theorem dX4_giveBack_28 : decode cX4_giveBack 28 = .ok (.aload_n 1, 1) := by decide +kernel
theorem dX4_giveBack_29 : decode cX4_giveBack 29 = .ok (.aload_n 0, 1) := by decide +kernel
theorem dX4_giveBack_30 : decode cX4_giveBack 30 = .ok (.getfield 11, 3) := by decide +kernel
theorem dX4_giveBack_33 : decode cX4_giveBack 33 = .ok (.aload_n 0, 1) := by decide +kernel
theorem dX4_giveBack_34 : decode cX4_giveBack 34 = .ok (.getfield 18, 3) := by decide +kernel
theorem dX4_giveBack_37 : decode cX4_giveBack 37 = .ok (.aaload, 1) := by decide +kernel
theorem dX4_giveBack_38 : decode cX4_giveBack 38 = .ok (.invokevirtual 22, 3) := by decide +kernel
theorem dX4_giveBack_41 : decode cX4_giveBack 41 = .ok (.aload_n 0, 1) := by decide +kernel
theorem dX4_giveBack_42 : decode cX4_giveBack 42 = .ok (.aload_n 0, 1) := by decide +kernel
theorem dX4_giveBack_43 : decode cX4_giveBack 43 = .ok (.getfield 18, 3) := by decide +kernel
theorem dX4_giveBack_46 : decode cX4_giveBack 46 = .ok (.bipush 8, 2) := by decide +kernel
theorem dX4_giveBack_48 : decode cX4_giveBack 48 = .ok (.iadd, 1) := by decide +kernel
theorem dX4_giveBack_49 : decode cX4_giveBack 49 = .ok (.iconst 1, 1) := by decide +kernel
theorem dX4_giveBack_50 : decode cX4_giveBack 50 = .ok (.isub, 1) := by decide +kernel
theorem dX4_giveBack_51 : decode cX4_giveBack 51 = .ok (.bipush 7, 2) := by decide +kernel
theorem dX4_giveBack_53 : decode cX4_giveBack 53 = .ok (.iand, 1) := by decide +kernel
theorem dX4_giveBack_54 : decode cX4_giveBack 54 = .ok (.putfield 18, 3) := by decide +kernel
theorem dX4_giveBack_57 : decode cX4_giveBack 57 = .ok (.aload_n 0, 1) := by decide +kernel
theorem dX4_giveBack_58 : decode cX4_giveBack 58 = .ok (.dup, 1) := by decide +kernel
theorem dX4_giveBack_59 : decode cX4_giveBack 59 = .ok (.getfield 26, 3) := by decide +kernel
theorem dX4_giveBack_62 : decode cX4_giveBack 62 = .ok (.iconst 1, 1) := by decide +kernel
theorem dX4_giveBack_63 : decode cX4_giveBack 63 = .ok (.isub, 1) := by decide +kernel
theorem dX4_giveBack_64 : decode cX4_giveBack 64 = .ok (.putfield 26, 3) := by decide +kernel
theorem dX4_giveBack_67 : decode cX4_giveBack 67 = .ok (.iconst 1, 1) := by decide +kernel
theorem dX4_giveBack_68 : decode cX4_giveBack 68 = .ok (.ireturn, 1) := by decide +kernel
abbrev rm_X4_giveBack : Room := { frames := 2, cells := 0, slots := 0, locals := 81 }
noncomputable def fX4_giveBack (o0 : Nat) (o1 : Nat) (h : z_T) : Option (Int32 × z_T) :=
  y_gd (z_ok h o0 4) <|
  y_br ((z_I h o0 2) ≤ 0)
    (some ((0 : Int32), h))
    (y_br ((z_I h o0 1) < 0)
      (some ((0 : Int32), h))
      (y_bi (z_R h o0 0) fun ob4 =>
      y_gd (z_ok h ob4 16) <|
      y_br ((z_I h o0 1) < (nI (z_N h ob4)))
        (y_gd (z_ix (z_I h o0 1) (z_N h ob4)) <|
        y_bi (z_R h ob4 (z_I h o0 1).toNatClampNeg) fun ob8 =>
        y_gd (z_ok h o1 2) <|
        y_bi (fX2_copy o1 ob8 h) fun h10 =>
        y_gd (z_ok h10 o0 4) <|
        y_nm (z_sI h10 o0 1 ((((z_I h10 o0 1) + (8 : Int32)) - (1 : Int32)) &&& (7 : Int32))) fun h13 =>
        y_nm (z_sI h13 o0 2 ((z_I h13 o0 2) - (1 : Int32))) fun h14 =>
        some ((1 : Int32), h14))
        (some ((0 : Int32), h))))
set_option maxHeartbeats 4000000 in
set_option maxRecDepth 100000 in
theorem mm_X4_giveBack {G : z_Gt} (hSK : z_SK (z_S G)) (l : Launch) (ad : Nat → Nat) (o0 : Nat) (o1 : Nat) (h : z_T) {r0 : Int32} {h9 : z_T} (hv : fX4_giveBack o0 o1 h = some (r0, h9)) : z_Mi G (z_S G) l yX4_giveBack cX4_giveBack 2 (.boolean) rm_X4_giveBack 0 0 [.ref (ad o0), .ref (ad o1)] ad h h9 r0 := by
  refine z_ofW hSK (by decide) (Nat.le_of_ble_eq_true rfl) ?_
  intro p e s m args below meth c ls hc hr hnm hB hl
  have hx := hc.1.1
  have hb := hc.1.2.1
  have hown := hc.1.2.2.2.1
  have hts := hc.1.2.2.2.2
  replace hc : z_C G (z_S G) ad (z_n h) p m c cX4_giveBack 2 s args RX4 meth := hc
  replace hown : s.vm.findClass RX4 = some m.cls := hown
  replace hl : lv_has ls 2 [(0, .ref (ad o0)), (1, .ref (ad o1))] := hl
  show W p l e rm_X4_giveBack s m args below meth c s.heap [] 0 0 (MQ below (z_Qi G ad h9 (z_n h) s.heap.size r0) args s 0 0 (z_A ad (z_n h) s.heap.size)) (F0 m 0 ls [])
  obtain ⟨rs, kt⟩ : ∃ rs : Int32 × z_T, rs = (r0, h9) := ⟨_, rfl⟩
  generalize hn0 : z_n h = n0 at hc hB ⊢
  rw [← kt] at hv
  refine lv_aload_n hx hb dX4_giveBack_0 rfl (lv_at hl 0 rfl) ?_
  obtain ⟨g1, hv⟩ := y_gd_e hv
  refine z_getI hc hB 4 2 g1 (by decide) (by decide) rfl (z_l1 hc qfX4_26) dX4_giveBack_1 ?_
  refine lv_if_le (tgt := 26) hx hb dX4_giveBack_4 (by decide) (fun c2 => ?_) (fun c2 => ?_)
  · replace hv := y_br_t hv c2
    refine lv_iconst (v := (0 : Int32)) hx hb dX4_giveBack_26 (by decide) ?_
    replace hv := Option.some.inj hv
    subst hv
    obtain ⟨e1, e2⟩ := y_pr kt
    rw [← e1, ← e2]
    exact z_zret hc hB hr rfl dX4_giveBack_27
  · replace hv := y_br_f hv c2
    refine lv_aload_n hx hb dX4_giveBack_7 rfl (lv_at hl 0 rfl) ?_
    refine z_getI hc hB 4 1 g1 (by decide) (by decide) rfl (z_l1 hc qfX4_18) dX4_giveBack_8 ?_
    refine lv_if_lt (tgt := 26) hx hb dX4_giveBack_11 (by decide) (fun c3 => ?_) (fun c3 => ?_)
    · replace hv := y_br_t hv c3
      refine lv_iconst (v := (0 : Int32)) hx hb dX4_giveBack_26 (by decide) ?_
      replace hv := Option.some.inj hv
      subst hv
      obtain ⟨e1, e2⟩ := y_pr kt
      rw [← e1, ← e2]
      exact z_zret hc hB hr rfl dX4_giveBack_27
    · replace hv := y_br_f hv c3
      refine lv_aload_n hx hb dX4_giveBack_14 rfl (lv_at hl 0 rfl) ?_
      refine z_getI hc hB 4 1 g1 (by decide) (by decide) rfl (z_l1 hc qfX4_18) dX4_giveBack_15 ?_
      refine lv_aload_n hx hb dX4_giveBack_18 rfl (lv_at hl 0 rfl) ?_
      obtain ⟨ob4, eob4, hv⟩ := y_bi_e hv
      refine z_getR hc hB 4 0 g1 eob4 (by decide) (by decide) rfl (z_l1 hc qfX4_11) dX4_giveBack_19 ?_
      obtain ⟨g5, hv⟩ := y_gd_e hv
      refine z_alen hc hB 16 (by decide) (by decide) g5 dX4_giveBack_22 ?_
      refine lv_icmp_lt (tgt := 28) hx hb dX4_giveBack_23 (by decide) (fun c6 => ?_) (fun c6 => ?_)
      · replace hv := y_br_t hv c6
        refine lv_aload_n hx hb dX4_giveBack_28 rfl (lv_at hl 1 rfl) ?_
        refine lv_aload_n hx hb dX4_giveBack_29 rfl (lv_at hl 0 rfl) ?_
        refine z_getR hc hB 4 0 g1 eob4 (by decide) (by decide) rfl (z_l1 hc qfX4_11) dX4_giveBack_30 ?_
        refine lv_aload_n hx hb dX4_giveBack_33 rfl (lv_at hl 0 rfl) ?_
        refine z_getI hc hB 4 1 g1 (by decide) (by decide) rfl (z_l1 hc qfX4_18) dX4_giveBack_34 ?_
        obtain ⟨i7, hv⟩ := y_gd_e hv
        obtain ⟨ob8, eob8, hv⟩ := y_bi_e hv
        refine z_aald hc hB 16 (by decide) (by decide) rfl g5 i7 eob8 dX4_giveBack_37 ?_
        obtain ⟨g11, hv⟩ := y_gd_e hv
        obtain ⟨h10, c9, hv⟩ := y_bi_e hv
        refine z_thV hc hB (z_runV hc hB 2 (mm_X2_copy hSK l ad o1 ob8 h c9) md_X2_copy qmX4_22 g11 (by decide) rfl rfl rfl ⟨Nat.le_of_ble_eq_true rfl, Nat.le_of_ble_eq_true rfl⟩ rfl hl.1 rfl (Nat.le_of_ble_eq_true rfl) dX4_giveBack_38 ⟨Nat.le_of_ble_eq_true rfl, Nat.le_of_ble_eq_true rfl⟩) (fun H locs hB => ?_)
        refine lv_aload_n hx hb dX4_giveBack_41 rfl (lv_at hl 0 rfl) ?_
        refine lv_aload_n hx hb dX4_giveBack_42 rfl (lv_at hl 0 rfl) ?_
        obtain ⟨g12, hv⟩ := y_gd_e hv
        refine z_getI hc hB 4 1 g12 (by decide) (by decide) rfl (z_l1 hc qfX4_18) dX4_giveBack_43 ?_
        refine lv_bipush (v := (8 : Int32)) hx hb dX4_giveBack_46 (by decide) ?_
        refine lv_iadd hx hb dX4_giveBack_48 ?_
        refine lv_iconst (v := (1 : Int32)) hx hb dX4_giveBack_49 (by decide) ?_
        refine lv_isub hx hb dX4_giveBack_50 ?_
        refine lv_bipush (v := (7 : Int32)) hx hb dX4_giveBack_51 (by decide) ?_
        refine lv_iand hx hb dX4_giveBack_53 ?_
        obtain ⟨h13, eh13, hv⟩ := y_nm_e hv
        refine y_putI hc hB 4 1 eh13 g12 (z_l1 hc qfX4_18) dX4_giveBack_54 (by decide) (by decide) rfl rfl rfl rfl (fun H locs hB => ?_)
        refine lv_aload_n hx hb dX4_giveBack_57 rfl (lv_at hl 0 rfl) ?_
        refine lv_dup hx hb dX4_giveBack_58 rfl ?_
        refine z_getI hc hB 4 2 (by rw [eh13]; exact g12) (by decide) (by decide) rfl (z_l1 hc qfX4_26) dX4_giveBack_59 ?_
        refine lv_iconst (v := (1 : Int32)) hx hb dX4_giveBack_62 (by decide) ?_
        refine lv_isub hx hb dX4_giveBack_63 ?_
        obtain ⟨h14, eh14, hv⟩ := y_nm_e hv
        refine y_putI hc hB 4 2 eh14 (by rw [eh13]; exact g12) (z_l1 hc qfX4_26) dX4_giveBack_64 (by decide) (by decide) rfl rfl rfl rfl (fun H locs hB => ?_)
        refine lv_iconst (v := (1 : Int32)) hx hb dX4_giveBack_67 (by decide) ?_
        replace hv := Option.some.inj hv
        subst hv
        obtain ⟨e1, e2⟩ := y_pr kt
        rw [← e1, ← e2]
        exact z_zret hc hB hr rfl dX4_giveBack_68
      · replace hv := y_br_f hv c6
        refine lv_iconst (v := (0 : Int32)) hx hb dX4_giveBack_26 (by decide) ?_
        replace hv := Option.some.inj hv
        subst hv
        obtain ⟨e1, e2⟩ := y_pr kt
        rw [← e1, ← e2]
        exact z_zret hc hB hr rfl dX4_giveBack_27
theorem qfX5_35 : Cond.fieldLinkNest RX5 35 "DreamTests$Book" "tests" "I" "DreamTests" ∈ z_nw := List.mem_filter.mpr ⟨List.mem_of_getElem? (i := 42) (by decide +kernel), rfl⟩
theorem dX5_isFor_0 : decode cX5_isFor 0 = .ok (.iload_n 1, 1) := by decide +kernel
theorem dX5_isFor_1 : decode cX5_isFor 1 = .ok (.ifCond .lt 21, 3) := by decide +kernel
theorem dX5_isFor_4 : decode cX5_isFor 4 = .ok (.iload_n 1, 1) := by decide +kernel
theorem dX5_isFor_5 : decode cX5_isFor 5 = .ok (.iconst 4, 1) := by decide +kernel
theorem dX5_isFor_6 : decode cX5_isFor 6 = .ok (.if_icmp .gt 16, 3) := by decide +kernel
theorem dX5_isFor_9 : decode cX5_isFor 9 = .ok (.aload_n 0, 1) := by decide +kernel
theorem dX5_isFor_10 : decode cX5_isFor 10 = .ok (.getfield 35, 3) := by decide +kernel
theorem dX5_isFor_13 : decode cX5_isFor 13 = .ok (.bipush 6, 2) := by decide +kernel
theorem dX5_isFor_15 : decode cX5_isFor 15 = .ok (.if_icmp .gt 7, 3) := by decide +kernel
theorem dX5_isFor_18 : decode cX5_isFor 18 = .ok (.iconst 1, 1) := by decide +kernel
theorem dX5_isFor_19 : decode cX5_isFor 19 = .ok (.goto 4, 3) := by decide +kernel
theorem dX5_isFor_22 : decode cX5_isFor 22 = .ok (.iconst 0, 1) := by decide +kernel
theorem dX5_isFor_23 : decode cX5_isFor 23 = .ok (.ireturn, 1) := by decide +kernel
abbrev rm_X5_isFor : Room := { frames := 0, cells := 0, slots := 0, locals := 0 }
noncomputable def fX5_isFor_b22  (h : z_T) : Option (Int32) :=
  some (0 : Int32)
noncomputable def fX5_isFor (o0 : Nat) (x1 : Int32) (h : z_T) : Option (Int32) :=
  y_br (x1 < 0)
    (fX5_isFor_b22 h)
    (y_br ((4 : Int32) < x1)
      (fX5_isFor_b22 h)
      (y_gd (z_ok h o0 0) <|
      y_br ((6 : Int32) < (z_I h o0 1))
        (fX5_isFor_b22 h)
        (some (1 : Int32))))
set_option maxHeartbeats 4000000 in
set_option maxRecDepth 100000 in
theorem mm_X5_isFor {G : z_Gt} (hSK : z_SK (z_S G)) (l : Launch) (ad : Nat → Nat) (o0 : Nat) (x1 : Int32) (h : z_T) {r0 : Int32} (hv : fX5_isFor o0 x1 h = some r0) : z_Mi G (z_S G) l yX5_isFor cX5_isFor 2 (.boolean) rm_X5_isFor 0 0 [.ref (ad o0), .int x1] ad h h r0 := by
  refine z_ofW hSK (by decide) (Nat.le_of_ble_eq_true rfl) ?_
  intro p e s m args below meth c ls hc hr hnm hB hl
  have hx := hc.1.1
  have hb := hc.1.2.1
  have hown := hc.1.2.2.2.1
  have hts := hc.1.2.2.2.2
  replace hc : z_C G (z_S G) ad (z_n h) p m c cX5_isFor 2 s args RX5 meth := hc
  replace hown : s.vm.findClass RX5 = some m.cls := hown
  replace hl : lv_has ls 2 [(0, .ref (ad o0)), (1, .int x1)] := hl
  show W p l e rm_X5_isFor s m args below meth c s.heap [] 0 0 (MQ below (z_Qi G ad h (z_n h) s.heap.size r0) args s 0 0 (z_A ad (z_n h) s.heap.size)) (F0 m 0 ls [])
  obtain ⟨rs, kt⟩ : ∃ rs : Int32, rs = r0 := ⟨_, rfl⟩
  generalize hn0 : z_n h = n0 at hc hB ⊢
  have b22 : ∀ (H : Heap) (locs : List Loc) (ls : Array Slot), z_B G ad n0 s h H locs → lv_has ls 2 [] → ∀ w, fX5_isFor_b22 h = some w → w = r0 → W p l e rm_X5_isFor s m args below meth c H locs 0 0 (MQ below (z_Qi G ad h n0 s.heap.size r0) args s 0 0 (z_A ad n0 s.heap.size)) (F0 m 22 ls []) := by
    intro H locs ls hB hl w hv kb
    refine lv_iconst (v := (0 : Int32)) hx hb dX5_isFor_22 (by decide) ?_
    replace hv := Option.some.inj hv
    subst hv
    rw [← kb]
    exact z_zret hc hB hr rfl dX5_isFor_23
  rw [← kt] at hv
  refine lv_iload_n hx hb dX5_isFor_0 rfl (lv_at hl 1 rfl) ?_
  refine lv_if_lt (tgt := 22) hx hb dX5_isFor_1 (by decide) (fun c1 => ?_) (fun c1 => ?_)
  · replace hv := y_br_t hv c1
    exact b22 _ _ _ hB (lv_sub hl [] rfl) _ hv kt
  · replace hv := y_br_f hv c1
    refine lv_iload_n hx hb dX5_isFor_4 rfl (lv_at hl 1 rfl) ?_
    refine lv_iconst (v := (4 : Int32)) hx hb dX5_isFor_5 (by decide) ?_
    refine lv_icmp_gt (tgt := 22) hx hb dX5_isFor_6 (by decide) (fun c2 => ?_) (fun c2 => ?_)
    · replace hv := y_br_t hv c2
      exact b22 _ _ _ hB (lv_sub hl [] rfl) _ hv kt
    · replace hv := y_br_f hv c2
      refine lv_aload_n hx hb dX5_isFor_9 rfl (lv_at hl 0 rfl) ?_
      obtain ⟨g3, hv⟩ := y_gd_e hv
      refine z_getI hc hB 0 1 g3 (by decide) (by decide) rfl (z_l2 hc qfX5_35) dX5_isFor_10 ?_
      refine lv_bipush (v := (6 : Int32)) hx hb dX5_isFor_13 (by decide) ?_
      refine lv_icmp_gt (tgt := 22) hx hb dX5_isFor_15 (by decide) (fun c4 => ?_) (fun c4 => ?_)
      · replace hv := y_br_t hv c4
        exact b22 _ _ _ hB (lv_sub hl [] rfl) _ hv kt
      · replace hv := y_br_f hv c4
        refine lv_iconst (v := (1 : Int32)) hx hb dX5_isFor_18 (by decide) ?_
        refine lv_goto (tgt := 23) hx hb dX5_isFor_19 (by decide) ?_
        replace hv := Option.some.inj hv
        subst hv
        rw [← kt]
        exact z_zret hc hB hr rfl dX5_isFor_23
theorem qfX5_53 : Cond.fieldLink RX5 53 "DreamTests$Plan" "UNITS" "[I" ∈ z_ws := List.mem_filter.mpr ⟨List.mem_append_right _ (List.mem_of_getElem? (i := 683) (by decide +kernel)), rfl⟩
theorem dX5_behind_0 : decode cX5_behind 0 = .ok (.iload_n 1, 1) := by decide +kernel
theorem dX5_behind_1 : decode cX5_behind 1 = .ok (.ifCond .lt 19, 3) := by decide +kernel
theorem dX5_behind_4 : decode cX5_behind 4 = .ok (.iload_n 1, 1) := by decide +kernel
theorem dX5_behind_5 : decode cX5_behind 5 = .ok (.getstatic 53, 3) := by decide +kernel
theorem dX5_behind_8 : decode cX5_behind 8 = .ok (.arraylength, 1) := by decide +kernel
theorem dX5_behind_9 : decode cX5_behind 9 = .ok (.if_icmp .ge 11, 3) := by decide +kernel
theorem dX5_behind_12 : decode cX5_behind 12 = .ok (.getstatic 53, 3) := by decide +kernel
theorem dX5_behind_15 : decode cX5_behind 15 = .ok (.iload_n 1, 1) := by decide +kernel
theorem dX5_behind_16 : decode cX5_behind 16 = .ok (.iaload, 1) := by decide +kernel
theorem dX5_behind_17 : decode cX5_behind 17 = .ok (.goto 4, 3) := by decide +kernel
theorem dX5_behind_20 : decode cX5_behind 20 = .ok (.iconst 0, 1) := by decide +kernel
theorem dX5_behind_21 : decode cX5_behind 21 = .ok (.istore_n 3, 1) := by decide +kernel
theorem dX5_behind_22 : decode cX5_behind 22 = .ok (.iload_n 0, 1) := by decide +kernel
theorem dX5_behind_23 : decode cX5_behind 23 = .ok (.iload_n 2, 1) := by decide +kernel
theorem dX5_behind_24 : decode cX5_behind 24 = .ok (.iconst 1, 1) := by decide +kernel
theorem dX5_behind_25 : decode cX5_behind 25 = .ok (.if_icmp .ne 7, 3) := by decide +kernel
theorem dX5_behind_28 : decode cX5_behind 28 = .ok (.iload_n 3, 1) := by decide +kernel
theorem dX5_behind_29 : decode cX5_behind 29 = .ok (.goto 6, 3) := by decide +kernel
theorem dX5_behind_32 : decode cX5_behind 32 = .ok (.iconst 2, 1) := by decide +kernel
theorem dX5_behind_33 : decode cX5_behind 33 = .ok (.iload_n 3, 1) := by decide +kernel
theorem dX5_behind_34 : decode cX5_behind 34 = .ok (.imul, 1) := by decide +kernel
theorem dX5_behind_35 : decode cX5_behind 35 = .ok (.iadd, 1) := by decide +kernel
theorem dX5_behind_36 : decode cX5_behind 36 = .ok (.ireturn, 1) := by decide +kernel
abbrev rm_X5_behind : Room := { frames := 0, cells := 0, slots := 0, locals := 0 }
noncomputable def fX5_behind_b21 (x0 : Int32) (x2 : Int32) (s0 : Int32) (h : z_T) : Option (Int32) :=
  y_br (x2 = (1 : Int32))
    (some (x0 + s0))
    (some (x0 + ((2 : Int32) * s0)))
noncomputable def fX5_behind_b20 (x0 : Int32) (x2 : Int32) (h : z_T) : Option (Int32) :=
  fX5_behind_b21 x0 x2 (0 : Int32) h
noncomputable def fX5_behind (x0 : Int32) (x1 : Int32) (x2 : Int32) (h : z_T) : Option (Int32) :=
  y_br (x1 < 0)
    (fX5_behind_b20 x0 x2 h)
    (y_br ((6 : Int32) ≤ x1)
      (fX5_behind_b20 x0 x2 h)
      (y_gd (z_ix x1 6) <|
      fX5_behind_b21 x0 x2 (z_unit x1.toNatClampNeg) h))
set_option maxHeartbeats 4000000 in
set_option maxRecDepth 100000 in
theorem mm_X5_behind {G : z_Gt} (hSK : z_SK (z_S G)) (l : Launch) (ad : Nat → Nat) (x0 : Int32) (x1 : Int32) (x2 : Int32) (h : z_T) {r0 : Int32} (hv : fX5_behind x0 x1 x2 h = some r0) : z_Mi G (z_S G) l yX5_behind cX5_behind 4 (.int) rm_X5_behind 0 0 [.int x0, .int x1, .int x2] ad h h r0 := by
  refine z_ofW hSK (by decide) (Nat.le_of_ble_eq_true rfl) ?_
  intro p e s m args below meth c ls hc hr hnm hB hl
  have hx := hc.1.1
  have hb := hc.1.2.1
  have hown := hc.1.2.2.2.1
  have hts := hc.1.2.2.2.2
  replace hc : z_C G (z_S G) ad (z_n h) p m c cX5_behind 4 s args RX5 meth := hc
  replace hown : s.vm.findClass RX5 = some m.cls := hown
  replace hl : lv_has ls 4 [(0, .int x0), (1, .int x1), (2, .int x2)] := hl
  show W p l e rm_X5_behind s m args below meth c s.heap [] 0 0 (MQ below (z_Qi G ad h (z_n h) s.heap.size r0) args s 0 0 (z_A ad (z_n h) s.heap.size)) (F0 m 0 ls [])
  obtain ⟨rs, kt⟩ : ∃ rs : Int32, rs = r0 := ⟨_, rfl⟩
  generalize hn0 : z_n h = n0 at hc hB ⊢
  obtain ⟨tU, hZU, hTU⟩ := hc.2.1.2.2.2.1.2.2.2.2.1
  have b21 : ∀ (s0 : Int32) (H : Heap) (locs : List Loc) (ls : Array Slot), z_B G ad n0 s h H locs → lv_has ls 4 [(0, .int x0), (2, .int x2)] → ∀ w, fX5_behind_b21 x0 x2 s0 h = some w → w = r0 → W p l e rm_X5_behind s m args below meth c H locs 0 0 (MQ below (z_Qi G ad h n0 s.heap.size r0) args s 0 0 (z_A ad n0 s.heap.size)) (F0 m 21 ls [.int s0]) := by
    intro s0 H locs ls hB hl w hv kb
    refine lv_istore_n (lv' := [(3, .int s0), (0, .int x0), (2, .int x2)]) hx hb dX5_behind_21 rfl hl (by decide) rfl (fun ls hl => ?_)
    refine lv_iload_n hx hb dX5_behind_22 rfl (lv_at hl 1 rfl) ?_
    refine lv_iload_n hx hb dX5_behind_23 rfl (lv_at hl 2 rfl) ?_
    refine lv_iconst (v := (1 : Int32)) hx hb dX5_behind_24 (by decide) ?_
    refine lv_icmp_ne (tgt := 32) hx hb dX5_behind_25 (by decide) (fun c1 => ?_) (fun c1 => ?_)
    · replace hv := y_br_f hv c1
      refine lv_iconst (v := (2 : Int32)) hx hb dX5_behind_32 (by decide) ?_
      refine lv_iload_n hx hb dX5_behind_33 rfl (lv_at hl 0 rfl) ?_
      refine lv_imul hx hb dX5_behind_34 ?_
      refine lv_iadd hx hb dX5_behind_35 ?_
      replace hv := Option.some.inj hv
      subst hv
      rw [← kb]
      exact z_iret hc hB hr dX5_behind_36
    · replace hv := y_br_t hv c1
      refine lv_iload_n hx hb dX5_behind_28 rfl (lv_at hl 0 rfl) ?_
      refine lv_goto (tgt := 35) hx hb dX5_behind_29 (by decide) ?_
      refine lv_iadd hx hb dX5_behind_35 ?_
      replace hv := Option.some.inj hv
      subst hv
      rw [← kb]
      exact z_iret hc hB hr dX5_behind_36
  have b20 : ∀ (H : Heap) (locs : List Loc) (ls : Array Slot), z_B G ad n0 s h H locs → lv_has ls 4 [(0, .int x0), (2, .int x2)] → ∀ w, fX5_behind_b20 x0 x2 h = some w → w = r0 → W p l e rm_X5_behind s m args below meth c H locs 0 0 (MQ below (z_Qi G ad h n0 s.heap.size r0) args s 0 0 (z_A ad n0 s.heap.size)) (F0 m 20 ls []) := by
    intro H locs ls hB hl w hv kb
    refine lv_iconst (v := (0 : Int32)) hx hb dX5_behind_20 (by decide) ?_
    exact b21 (0 : Int32) _ _ _ hB (lv_sub hl [0, 1] rfl) _ hv kb
  rw [← kt] at hv
  refine lv_iload_n hx hb dX5_behind_0 rfl (lv_at hl 1 rfl) ?_
  refine lv_if_lt (tgt := 20) hx hb dX5_behind_1 (by decide) (fun c2 => ?_) (fun c2 => ?_)
  · replace hv := y_br_t hv c2
    exact b20 _ _ _ hB (lv_sub hl [0, 2] rfl) _ hv kt
  · replace hv := y_br_f hv c2
    refine lv_iload_n hx hb dX5_behind_4 rfl (lv_at hl 1 rfl) ?_
    refine z_gets hc hB hZU qfX5_53 dX5_behind_5 ?_
    refine z_lenT hc hB (v := (6 : Int32)) (by decide) hTU dX5_behind_8 ?_
    refine lv_icmp_ge (tgt := 20) hx hb dX5_behind_9 (by decide) (fun c3 => ?_) (fun c3 => ?_)
    · replace hv := y_br_t hv c3
      exact b20 _ _ _ hB (lv_sub hl [0, 2] rfl) _ hv kt
    · replace hv := y_br_f hv c3
      refine z_gets hc hB hZU qfX5_53 dX5_behind_12 ?_
      refine lv_iload_n hx hb dX5_behind_15 rfl (lv_at hl 1 rfl) ?_
      obtain ⟨i4, hv⟩ := y_gd_e hv
      refine z_ialdT hc hB hTU i4 dX5_behind_16 ?_
      refine lv_goto (tgt := 21) hx hb dX5_behind_17 (by decide) ?_
      exact b21 (z_unit x1.toNatClampNeg) _ _ _ hB (lv_sub hl [0, 2] rfl) _ hv kt
theorem qfX5_31 : Cond.fieldLink RX5 31 "DreamTests$Plan" "book" "LDreamTests$Book;" ∈ z_ws := List.mem_filter.mpr ⟨List.mem_append_right _ (List.mem_of_getElem? (i := 238) (by decide +kernel)), rfl⟩
theorem qmX5_115 : Cond.methodLink RX5 115 yX0_plainChance ∈ z_ws := List.mem_filter.mpr ⟨List.mem_append_right _ (List.mem_of_getElem? (i := 689) (by decide +kernel)), rfl⟩
theorem qfX5_13 : Cond.fieldLink RX5 13 "DreamTests$Plan" "likely" "[[J" ∈ z_ws := List.mem_filter.mpr ⟨List.mem_append_right _ (List.mem_of_getElem? (i := 233) (by decide +kernel)), rfl⟩
theorem dX5_goOn_0 : decode cX5_goOn 0 = .ok (.iload_n 1, 1) := by decide +kernel
theorem dX5_goOn_1 : decode cX5_goOn 1 = .ok (.ifCond .lt 14, 3) := by decide +kernel
theorem dX5_goOn_4 : decode cX5_goOn 4 = .ok (.iload_n 1, 1) := by decide +kernel
theorem dX5_goOn_5 : decode cX5_goOn 5 = .ok (.iconst 1, 1) := by decide +kernel
theorem dX5_goOn_6 : decode cX5_goOn 6 = .ok (.iadd, 1) := by decide +kernel
theorem dX5_goOn_7 : decode cX5_goOn 7 = .ok (.aload_n 0, 1) := by decide +kernel
theorem dX5_goOn_8 : decode cX5_goOn 8 = .ok (.getfield 13, 3) := by decide +kernel
theorem dX5_goOn_11 : decode cX5_goOn 11 = .ok (.arraylength, 1) := by decide +kernel
theorem dX5_goOn_12 : decode cX5_goOn 12 = .ok (.if_icmp .lt 4, 3) := by decide +kernel
theorem dX5_goOn_15 : decode cX5_goOn 15 = .ok (.return_, 1) := by decide +kernel
theorem dX5_goOn_16 : decode cX5_goOn 16 = .ok (.iconst 0, 1) := by decide +kernel
theorem dX5_goOn_17 : decode cX5_goOn 17 = .ok (.istore 4, 2) := by decide +kernel
theorem dX5_goOn_19 : decode cX5_goOn 19 = .ok (.iload 4, 2) := by decide +kernel
theorem dX5_goOn_21 : decode cX5_goOn 21 = .ok (.bipush 7, 2) := by decide +kernel
theorem dX5_goOn_23 : decode cX5_goOn 23 = .ok (.if_icmp .ge 58, 3) := by decide +kernel
theorem dX5_goOn_26 : decode cX5_goOn 26 = .ok (.aload_n 0, 1) := by decide +kernel
theorem dX5_goOn_27 : decode cX5_goOn 27 = .ok (.getfield 31, 3) := by decide +kernel
theorem dX5_goOn_30 : decode cX5_goOn 30 = .ok (.iload_n 2, 1) := by decide +kernel
theorem dX5_goOn_31 : decode cX5_goOn 31 = .ok (.iload 4, 2) := by decide +kernel
theorem dX5_goOn_33 : decode cX5_goOn 33 = .ok (.invokevirtual 115, 3) := by decide +kernel
theorem dX5_goOn_36 : decode cX5_goOn 36 = .ok (.istore 5, 2) := by decide +kernel
theorem dX5_goOn_38 : decode cX5_goOn 38 = .ok (.aload_n 0, 1) := by decide +kernel
theorem dX5_goOn_39 : decode cX5_goOn 39 = .ok (.getfield 13, 3) := by decide +kernel
theorem dX5_goOn_42 : decode cX5_goOn 42 = .ok (.iload_n 1, 1) := by decide +kernel
theorem dX5_goOn_43 : decode cX5_goOn 43 = .ok (.iconst 1, 1) := by decide +kernel
theorem dX5_goOn_44 : decode cX5_goOn 44 = .ok (.iadd, 1) := by decide +kernel
theorem dX5_goOn_45 : decode cX5_goOn 45 = .ok (.aaload, 1) := by decide +kernel
theorem dX5_goOn_46 : decode cX5_goOn 46 = .ok (.iload 4, 2) := by decide +kernel
theorem dX5_goOn_48 : decode cX5_goOn 48 = .ok (.aload_n 0, 1) := by decide +kernel
theorem dX5_goOn_49 : decode cX5_goOn 49 = .ok (.getfield 13, 3) := by decide +kernel
theorem dX5_goOn_52 : decode cX5_goOn 52 = .ok (.iload_n 1, 1) := by decide +kernel
theorem dX5_goOn_53 : decode cX5_goOn 53 = .ok (.aaload, 1) := by decide +kernel
theorem dX5_goOn_54 : decode cX5_goOn 54 = .ok (.iload 4, 2) := by decide +kernel
theorem dX5_goOn_56 : decode cX5_goOn 56 = .ok (.laload, 1) := by decide +kernel
theorem dX5_goOn_57 : decode cX5_goOn 57 = .ok (.iload_n 3, 1) := by decide +kernel
theorem dX5_goOn_58 : decode cX5_goOn 58 = .ok (.iconst 1, 1) := by decide +kernel
theorem dX5_goOn_59 : decode cX5_goOn 59 = .ok (.if_icmp .ne 8, 3) := by decide +kernel
theorem dX5_goOn_62 : decode cX5_goOn 62 = .ok (.iload 5, 2) := by decide +kernel
theorem dX5_goOn_64 : decode cX5_goOn 64 = .ok (.goto 8, 3) := by decide +kernel
theorem dX5_goOn_67 : decode cX5_goOn 67 = .ok (.bipush 9, 2) := by decide +kernel
theorem dX5_goOn_69 : decode cX5_goOn 69 = .ok (.iload 5, 2) := by decide +kernel
theorem dX5_goOn_71 : decode cX5_goOn 71 = .ok (.isub, 1) := by decide +kernel
theorem dX5_goOn_72 : decode cX5_goOn 72 = .ok (.i2l, 1) := by decide +kernel
theorem dX5_goOn_73 : decode cX5_goOn 73 = .ok (.lmul, 1) := by decide +kernel
theorem dX5_goOn_74 : decode cX5_goOn 74 = .ok (.lastore, 1) := by decide +kernel
theorem dX5_goOn_75 : decode cX5_goOn 75 = .ok (.iinc 4 1, 3) := by decide +kernel
theorem dX5_goOn_78 : decode cX5_goOn 78 = .ok (.goto (-59), 3) := by decide +kernel
theorem dX5_goOn_81 : decode cX5_goOn 81 = .ok (.return_, 1) := by decide +kernel
abbrev rm_X5_goOn : Room := { frames := 2, cells := 0, slots := 0, locals := 44 }
noncomputable def fX5_goOn_b72 (o0 : Nat) (x1 : Int32) (x2 : Int32) (x3 : Int32) (x4 : Int32) (s0 : Nat) (s1 : Int32) (s2 : Int64) (s3 : Int32) (h : z_T) : Option ((Int32 × z_T) ⊕ (z_T)) :=
  y_gd (z_ok h s0 14) <|
  y_gd (z_ix s1 (z_N h s0)) <|
  y_nm (z_sL h s0 s1.toNatClampNeg (s2 * (s3).toInt64)) fun h3 =>
  y_nm (x4 + 1) fun v4 =>
  some (.inl (v4, h3))
noncomputable def fX5_goOn_b19_i (o0 : Nat) (x1 : Int32) (x2 : Int32) (x3 : Int32) (x4 : Int32) (h : z_T) : Option ((Int32 × z_T) ⊕ (z_T)) :=
  y_br ((7 : Int32) ≤ x4)
    (y_mp <|
    some h)
    (y_gd (z_ok h o0 5) <|
    y_bi (z_R h o0 5) fun o8 =>
    y_gd (z_ok h o8 0) <|
    y_bi (fX0_plainChance o8 x2 x4 h) fun r10 =>
    y_bi (z_R h o0 0) fun o15 =>
    y_gd (z_ok h o15 18) <|
    y_gd (z_ix (x1 + (1 : Int32)) (z_N h o15)) <|
    y_bi (z_R h o15 (x1 + (1 : Int32)).toNatClampNeg) fun o18 =>
    y_gd (z_ix x1 (z_N h o15)) <|
    y_bi (z_R h o15 x1.toNatClampNeg) fun o20 =>
    y_gd (z_ok h o20 14) <|
    y_gd (z_ix x4 (z_N h o20)) <|
    y_br (x3 = (1 : Int32))
      (fX5_goOn_b72 o0 x1 x2 x3 x4 o18 x4 (z_L h o20 x4.toNatClampNeg) r10 h)
      (fX5_goOn_b72 o0 x1 x2 x3 x4 o18 x4 (z_L h o20 x4.toNatClampNeg) ((9 : Int32) - r10) h))
noncomputable def fX5_goOn_b19 (o0 : Nat) (x1 : Int32) (x2 : Int32) (x3 : Int32) (x4 : Int32) (h : z_T) : Option (z_T) := y_lp (fun q : Int32 × z_T => fX5_goOn_b19_i o0 x1 x2 x3 q.1 q.2) (x4, h)
noncomputable def fX5_goOn (o0 : Nat) (x1 : Int32) (x2 : Int32) (x3 : Int32) (h : z_T) : Option (z_T) :=
  y_br (x1 < 0)
    (some h)
    (y_gd (z_ok h o0 5) <|
    y_bi (z_R h o0 0) fun o26 =>
    y_gd (z_ok h o26 18) <|
    y_br ((x1 + (1 : Int32)) < (nI (z_N h o26)))
      (fX5_goOn_b19 o0 x1 x2 x3 (0 : Int32) h)
      (some h))
set_option maxHeartbeats 4000000 in
set_option maxRecDepth 100000 in
theorem mm_X5_goOn {G : z_Gt} (hSK : z_SK (z_S G)) (l : Launch) (ad : Nat → Nat) (o0 : Nat) (x1 : Int32) (x2 : Int32) (x3 : Int32) (h : z_T) {h9 : z_T} (hv : fX5_goOn o0 x1 x2 x3 h = some h9) : z_Mv G (z_S G) l yX5_goOn cX5_goOn 6 rm_X5_goOn 0 0 [.ref (ad o0), .int x1, .int x2, .int x3] ad h h9 := by
  refine z_ofW hSK (by decide) (Nat.le_of_ble_eq_true rfl) ?_
  intro p e s m args below meth c ls hc hr hnm hB hl
  have hx := hc.1.1
  have hb := hc.1.2.1
  have hown := hc.1.2.2.2.1
  have hts := hc.1.2.2.2.2
  replace hc : z_C G (z_S G) ad (z_n h) p m c cX5_goOn 6 s args RX5 meth := hc
  replace hown : s.vm.findClass RX5 = some m.cls := hown
  replace hl : lv_has ls 6 [(0, .ref (ad o0)), (1, .int x1), (2, .int x2), (3, .int x3)] := hl
  show W p l e rm_X5_goOn s m args below meth c s.heap [] 0 0 (MQ below (z_Qv G ad h9 (z_n h) s.heap.size) args s 0 0 (z_A ad (z_n h) s.heap.size)) (F0 m 0 ls [])
  obtain ⟨rs, kt⟩ : ∃ rs : z_T, rs = h9 := ⟨_, rfl⟩
  generalize hn0 : z_n h = n0 at hc hB ⊢
  have L19 : ∀ (nn19 : Nat) (x4 : Int32) (h : z_T) (H : Heap) (locs : List Loc) (ls : Array Slot), z_B G ad n0 s h H locs → lv_has ls 6 [(0, .ref (ad o0)), (1, .int x1), (2, .int x2), (3, .int x3), (4, .int x4)] → ∀ vv19, y_lpN (fun q : Int32 × z_T => fX5_goOn_b19_i o0 x1 x2 x3 q.1 q.2) nn19 (x4, h) = some vv19 → vv19 = h9 → W p l e rm_X5_goOn s m args below meth c H locs 0 0 (MQ below (z_Qv G ad h9 n0 s.heap.size) args s 0 0 (z_A ad n0 s.heap.size)) (F0 m 19 ls []) := by
    intro nn19
    induction nn19 with
    | zero => intro x4 h H locs ls hB hl vv19 hv kv19; exact absurd hv (fun q => y_lpN_0 q)
    | succ nn19 ih19 =>
      intro x4 h H locs ls hB hl vv19 hv kv19
      obtain ⟨w, hq, kw19⟩ := y_lpN_e hv
      clear hv
      have hv : fX5_goOn_b19_i o0 x1 x2 x3 x4 h = some w := hq
      clear hq
      have b72 : ∀ (x4 : Int32) (s0 : Nat) (s1 : Int32) (s2 : Int64) (s3 : Int32) (h : z_T) (H : Heap) (locs : List Loc) (ls : Array Slot), z_B G ad n0 s h H locs → lv_has ls 6 [(0, .ref (ad o0)), (1, .int x1), (2, .int x2), (3, .int x3), (4, .int x4)] → ∀ w, fX5_goOn_b72 o0 x1 x2 x3 x4 s0 s1 s2 s3 h = some w → y_lq (fun q : Int32 × z_T => fX5_goOn_b19_i o0 x1 x2 x3 q.1 q.2) nn19 vv19 w → W p l e rm_X5_goOn s m args below meth c H locs 0 0 (MQ below (z_Qv G ad h9 n0 s.heap.size) args s 0 0 (z_A ad n0 s.heap.size)) (F0 m 72 ls [.int s3, .long s2, .int s1, .ref (ad s0)]) := by
        intro x4 s0 s1 s2 s3 h H locs ls hB hl w hv kw19
        refine lv_i2l hx hb dX5_goOn_72 rfl ?_
        refine lv_lmul hx hb dX5_goOn_73 ?_
        obtain ⟨g1, hv⟩ := y_gd_e hv
        obtain ⟨i2, hv⟩ := y_gd_e hv
        obtain ⟨h3, eh3, hv⟩ := y_nm_e hv
        refine y_last hc hB eh3 g1 i2 dX5_goOn_74 (fun H locs hB => ?_)
        obtain ⟨v4, ev4, hv⟩ := y_nm_e hv
        refine lv_iinc (v := v4) (lv' := [(4, .int v4), (0, .ref (ad o0)), (1, .int x1), (2, .int x2), (3, .int x3)]) hx hb dX5_goOn_75 hl (k := 4) rfl (by rw [ev4]; rfl) (by decide) rfl (fun ls hl => ?_)
        refine lv_goto (tgt := 19) hx hb dX5_goOn_78 (by decide) ?_
        replace hv := Option.some.inj hv
        subst hv
        exact ih19 v4 h3 _ _ _ hB (lv_sub hl [1, 2, 3, 4, 0] rfl) _ kw19 kv19
      refine lv_iload hx hb dX5_goOn_19 (lv_at hl 4 rfl) ?_
      refine lv_bipush (v := (7 : Int32)) hx hb dX5_goOn_21 (by decide) ?_
      refine lv_icmp_ge (tgt := 81) hx hb dX5_goOn_23 (by decide) (fun c5 => ?_) (fun c5 => ?_)
      · replace hv := y_br_t hv c5
        obtain ⟨t6, hq, ew⟩ := y_mp_e hv
        clear hv; subst ew
        replace kw19 : t6 = _ := kw19
        subst kw19
        have hv := hq
        clear hq
        replace hv := Option.some.inj hv
        subst hv
        rw [← kv19]
        exact z_vret hc hB hr dX5_goOn_81
      · replace hv := y_br_f hv c5
        refine lv_aload_n hx hb dX5_goOn_26 rfl (lv_at hl 0 rfl) ?_
        obtain ⟨g7, hv⟩ := y_gd_e hv
        obtain ⟨o8, eo8, hv⟩ := y_bi_e hv
        refine z_getR hc hB 5 5 g7 eo8 (by decide) (by decide) rfl (z_l1 hc qfX5_31) dX5_goOn_27 ?_
        refine lv_iload_n hx hb dX5_goOn_30 rfl (lv_at hl 2 rfl) ?_
        refine lv_iload hx hb dX5_goOn_31 (lv_at hl 4 rfl) ?_
        obtain ⟨g14, hv⟩ := y_gd_e hv
        obtain ⟨r10, c9, hv⟩ := y_bi_e hv
        refine z_thI hc hB (z_runV hc hB 0 (mm_X0_plainChance hSK l ad o8 x2 x4 h c9) md_X0_plainChance qmX5_115 g14 (by decide) rfl rfl rfl ⟨Nat.le_of_ble_eq_true rfl, Nat.le_of_ble_eq_true rfl⟩ rfl hl.1 rfl (Nat.le_of_ble_eq_true rfl) dX5_goOn_33 ⟨Nat.le_of_ble_eq_true rfl, Nat.le_of_ble_eq_true rfl⟩) (fun H locs hB => ?_)
        refine lv_istore (lv' := [(5, .int r10), (0, .ref (ad o0)), (1, .int x1), (2, .int x2), (3, .int x3), (4, .int x4)]) hx hb dX5_goOn_36 hl (by decide) rfl (fun ls hl => ?_)
        refine lv_aload_n hx hb dX5_goOn_38 rfl (lv_at hl 1 rfl) ?_
        obtain ⟨o15, eo15, hv⟩ := y_bi_e hv
        refine z_getR hc hB 5 0 g7 eo15 (by decide) (by decide) rfl (z_l1 hc qfX5_13) dX5_goOn_39 ?_
        refine lv_iload_n hx hb dX5_goOn_42 rfl (lv_at hl 2 rfl) ?_
        refine lv_iconst (v := (1 : Int32)) hx hb dX5_goOn_43 (by decide) ?_
        refine lv_iadd hx hb dX5_goOn_44 ?_
        obtain ⟨g16, hv⟩ := y_gd_e hv
        obtain ⟨i17, hv⟩ := y_gd_e hv
        obtain ⟨o18, eo18, hv⟩ := y_bi_e hv
        refine z_aald hc hB 18 (by decide) (by decide) rfl g16 i17 eo18 dX5_goOn_45 ?_
        refine lv_iload hx hb dX5_goOn_46 (lv_at hl 5 rfl) ?_
        refine lv_aload_n hx hb dX5_goOn_48 rfl (lv_at hl 1 rfl) ?_
        refine z_getR hc hB 5 0 g7 eo15 (by decide) (by decide) rfl (z_l1 hc qfX5_13) dX5_goOn_49 ?_
        refine lv_iload_n hx hb dX5_goOn_52 rfl (lv_at hl 2 rfl) ?_
        obtain ⟨i19, hv⟩ := y_gd_e hv
        obtain ⟨o20, eo20, hv⟩ := y_bi_e hv
        refine z_aald hc hB 18 (by decide) (by decide) rfl g16 i19 eo20 dX5_goOn_53 ?_
        refine lv_iload hx hb dX5_goOn_54 (lv_at hl 5 rfl) ?_
        obtain ⟨g21, hv⟩ := y_gd_e hv
        obtain ⟨i22, hv⟩ := y_gd_e hv
        refine z_lald hc hB g21 i22 dX5_goOn_56 ?_
        refine lv_iload_n hx hb dX5_goOn_57 rfl (lv_at hl 4 rfl) ?_
        refine lv_iconst (v := (1 : Int32)) hx hb dX5_goOn_58 (by decide) ?_
        refine lv_icmp_ne (tgt := 67) hx hb dX5_goOn_59 (by decide) (fun c23 => ?_) (fun c23 => ?_)
        · replace hv := y_br_f hv c23
          refine lv_bipush (v := (9 : Int32)) hx hb dX5_goOn_67 (by decide) ?_
          refine lv_iload hx hb dX5_goOn_69 (lv_at hl 0 rfl) ?_
          refine lv_isub hx hb dX5_goOn_71 ?_
          exact b72 x4 o18 x4 (z_L h o20 x4.toNatClampNeg) ((9 : Int32) - r10) h _ _ _ hB (lv_sub hl [1, 2, 3, 4, 5] rfl) _ hv kw19
        · replace hv := y_br_t hv c23
          refine lv_iload hx hb dX5_goOn_62 (lv_at hl 0 rfl) ?_
          refine lv_goto (tgt := 72) hx hb dX5_goOn_64 (by decide) ?_
          exact b72 x4 o18 x4 (z_L h o20 x4.toNatClampNeg) r10 h _ _ _ hB (lv_sub hl [1, 2, 3, 4, 5] rfl) _ hv kw19
  rw [← kt] at hv
  refine lv_iload_n hx hb dX5_goOn_0 rfl (lv_at hl 1 rfl) ?_
  refine lv_if_lt (tgt := 15) hx hb dX5_goOn_1 (by decide) (fun c24 => ?_) (fun c24 => ?_)
  · replace hv := y_br_t hv c24
    replace hv := Option.some.inj hv
    subst hv
    rw [← kt]
    exact z_vret hc hB hr dX5_goOn_15
  · replace hv := y_br_f hv c24
    refine lv_iload_n hx hb dX5_goOn_4 rfl (lv_at hl 1 rfl) ?_
    refine lv_iconst (v := (1 : Int32)) hx hb dX5_goOn_5 (by decide) ?_
    refine lv_iadd hx hb dX5_goOn_6 ?_
    refine lv_aload_n hx hb dX5_goOn_7 rfl (lv_at hl 0 rfl) ?_
    obtain ⟨g25, hv⟩ := y_gd_e hv
    obtain ⟨o26, eo26, hv⟩ := y_bi_e hv
    refine z_getR hc hB 5 0 g25 eo26 (by decide) (by decide) rfl (z_l1 hc qfX5_13) dX5_goOn_8 ?_
    obtain ⟨g27, hv⟩ := y_gd_e hv
    refine z_alen hc hB 18 (by decide) (by decide) g27 dX5_goOn_11 ?_
    refine lv_icmp_lt (tgt := 16) hx hb dX5_goOn_12 (by decide) (fun c28 => ?_) (fun c28 => ?_)
    · replace hv := y_br_t hv c28
      refine lv_iconst (v := (0 : Int32)) hx hb dX5_goOn_16 (by decide) ?_
      refine lv_istore (lv' := [(4, .int (0 : Int32)), (0, .ref (ad o0)), (1, .int x1), (2, .int x2), (3, .int x3)]) hx hb dX5_goOn_17 hl (by decide) rfl (fun ls hl => ?_)
      obtain ⟨n, hv⟩ := y_lp_e hv
      exact L19 n (0 : Int32) h _ _ _ hB (lv_sub hl [1, 2, 3, 4, 0] rfl) _ hv kt
    · replace hv := y_br_f hv c28
      replace hv := Option.some.inj hv
      subst hv
      rw [← kt]
      exact z_vret hc hB hr dX5_goOn_15
theorem dX5_isState_0 : decode cX5_isState 0 = .ok (.iload_n 0, 1) := by decide +kernel
theorem dX5_isState_1 : decode cX5_isState 1 = .ok (.ifCond .lt 14, 3) := by decide +kernel
theorem dX5_isState_4 : decode cX5_isState 4 = .ok (.iload_n 0, 1) := by decide +kernel
theorem dX5_isState_5 : decode cX5_isState 5 = .ok (.sipush 729, 3) := by decide +kernel
theorem dX5_isState_8 : decode cX5_isState 8 = .ok (.if_icmp .ge 7, 3) := by decide +kernel
theorem dX5_isState_11 : decode cX5_isState 11 = .ok (.iconst 1, 1) := by decide +kernel
theorem dX5_isState_12 : decode cX5_isState 12 = .ok (.goto 4, 3) := by decide +kernel
theorem dX5_isState_15 : decode cX5_isState 15 = .ok (.iconst 0, 1) := by decide +kernel
theorem dX5_isState_16 : decode cX5_isState 16 = .ok (.ireturn, 1) := by decide +kernel
abbrev rm_X5_isState : Room := { frames := 0, cells := 0, slots := 0, locals := 0 }
noncomputable def fX5_isState_b15  : Option (Int32) :=
  some (0 : Int32)
noncomputable def fX5_isState (x0 : Int32) : Option (Int32) :=
  y_br (x0 < 0)
    (fX5_isState_b15)
    (y_br ((729 : Int32) ≤ x0)
      (fX5_isState_b15)
      (some (1 : Int32)))
set_option maxHeartbeats 4000000 in
set_option maxRecDepth 100000 in
theorem mm_X5_isState {G : z_Gt} (hSK : z_SK (z_S G)) (l : Launch) (ad : Nat → Nat) (x0 : Int32) (h : z_T) {r0 : Int32} (hv : fX5_isState x0 = some r0) : z_Mi G (z_S G) l yX5_isState cX5_isState 1 (.boolean) rm_X5_isState 0 0 [.int x0] ad h h r0 := by
  refine z_ofW hSK (by decide) (Nat.le_of_ble_eq_true rfl) ?_
  intro p e s m args below meth c ls hc hr hnm hB hl
  have hx := hc.1.1
  have hb := hc.1.2.1
  have hown := hc.1.2.2.2.1
  have hts := hc.1.2.2.2.2
  replace hc : z_C G (z_S G) ad (z_n h) p m c cX5_isState 1 s args RX5 meth := hc
  replace hown : s.vm.findClass RX5 = some m.cls := hown
  replace hl : lv_has ls 1 [(0, .int x0)] := hl
  show W p l e rm_X5_isState s m args below meth c s.heap [] 0 0 (MQ below (z_Qi G ad h (z_n h) s.heap.size r0) args s 0 0 (z_A ad (z_n h) s.heap.size)) (F0 m 0 ls [])
  obtain ⟨rs, kt⟩ : ∃ rs : Int32, rs = r0 := ⟨_, rfl⟩
  generalize hn0 : z_n h = n0 at hc hB ⊢
  have b15 : ∀ (H : Heap) (locs : List Loc) (ls : Array Slot), z_B G ad n0 s h H locs → lv_has ls 1 [] → ∀ w, fX5_isState_b15 = some w → w = r0 → W p l e rm_X5_isState s m args below meth c H locs 0 0 (MQ below (z_Qi G ad h n0 s.heap.size r0) args s 0 0 (z_A ad n0 s.heap.size)) (F0 m 15 ls []) := by
    intro H locs ls hB hl w hv kb
    refine lv_iconst (v := (0 : Int32)) hx hb dX5_isState_15 (by decide) ?_
    replace hv := Option.some.inj hv
    subst hv
    rw [← kb]
    exact z_zret hc hB hr rfl dX5_isState_16
  rw [← kt] at hv
  refine lv_iload_n hx hb dX5_isState_0 rfl (lv_at hl 0 rfl) ?_
  refine lv_if_lt (tgt := 15) hx hb dX5_isState_1 (by decide) (fun c1 => ?_) (fun c1 => ?_)
  · replace hv := y_br_t hv c1
    exact b15 _ _ _ hB (lv_sub hl [] rfl) _ hv kt
  · replace hv := y_br_f hv c1
    refine lv_iload_n hx hb dX5_isState_4 rfl (lv_at hl 0 rfl) ?_
    refine lv_sipush (v := (729 : Int32)) hx hb dX5_isState_5 (by decide) ?_
    refine lv_icmp_ge (tgt := 15) hx hb dX5_isState_8 (by decide) (fun c2 => ?_) (fun c2 => ?_)
    · replace hv := y_br_t hv c2
      exact b15 _ _ _ hB (lv_sub hl [] rfl) _ hv kt
    · replace hv := y_br_f hv c2
      refine lv_iconst (v := (1 : Int32)) hx hb dX5_isState_11 (by decide) ?_
      refine lv_goto (tgt := 16) hx hb dX5_isState_12 (by decide) ?_
      replace hv := Option.some.inj hv
      subst hv
      rw [← kt]
      exact z_zret hc hB hr rfl dX5_isState_16
theorem qkX11_264 : Cond.constantLong RX11 264 (9 : Int64) ∈ z_ws := List.mem_filter.mpr ⟨List.mem_append_right _ (List.mem_of_getElem? (i := 675) (by decide +kernel)), rfl⟩
theorem dX11_power_0 : decode cX11_power 0 = .ok (.lconst 1, 1) := by decide +kernel
theorem dX11_power_1 : decode cX11_power 1 = .ok (.lstore_n 1, 1) := by decide +kernel
theorem dX11_power_2 : decode cX11_power 2 = .ok (.iconst 0, 1) := by decide +kernel
theorem dX11_power_3 : decode cX11_power 3 = .ok (.istore_n 3, 1) := by decide +kernel
theorem dX11_power_4 : decode cX11_power 4 = .ok (.iload_n 3, 1) := by decide +kernel
theorem dX11_power_5 : decode cX11_power 5 = .ok (.iload_n 0, 1) := by decide +kernel
theorem dX11_power_6 : decode cX11_power 6 = .ok (.if_icmp .ge 15, 3) := by decide +kernel
theorem dX11_power_9 : decode cX11_power 9 = .ok (.lload_n 1, 1) := by decide +kernel
theorem dX11_power_10 : decode cX11_power 10 = .ok (.ldc2_w 264, 3) := by decide +kernel
theorem dX11_power_13 : decode cX11_power 13 = .ok (.lmul, 1) := by decide +kernel
theorem dX11_power_14 : decode cX11_power 14 = .ok (.lstore_n 1, 1) := by decide +kernel
theorem dX11_power_15 : decode cX11_power 15 = .ok (.iinc 3 1, 3) := by decide +kernel
theorem dX11_power_18 : decode cX11_power 18 = .ok (.goto (-14), 3) := by decide +kernel
theorem dX11_power_21 : decode cX11_power 21 = .ok (.lload_n 1, 1) := by decide +kernel
theorem dX11_power_22 : decode cX11_power 22 = .ok (.lreturn, 1) := by decide +kernel
abbrev rm_X11_power : Room := { frames := 0, cells := 0, slots := 0, locals := 0 }
noncomputable def fX11_power_b4_i (x0 : Int32) (l1 : Int64) (x3 : Int32) : Option ((Int64 × Int32) ⊕ (Int64)) :=
  y_br (x0 ≤ x3)
    (y_mp <|
    some l1)
    (y_nm ((l1 * (9 : Int64))) fun v3 =>
    y_nm (x3 + 1) fun v4 =>
    some (.inl (v3, v4)))
noncomputable def fX11_power_b4 (x0 : Int32) (l1 : Int64) (x3 : Int32) : Option (Int64) := y_lp (fun q : Int64 × Int32 => fX11_power_b4_i x0 q.1 q.2) (l1, x3)
noncomputable def fX11_power (x0 : Int32) : Option (Int64) :=
  fX11_power_b4 x0 (1 : Int64) (0 : Int32)
set_option maxHeartbeats 4000000 in
set_option maxRecDepth 100000 in
theorem mm_X11_power {G : z_Gt} (hSK : z_SK (z_S G)) (l : Launch) (ad : Nat → Nat) (x0 : Int32) (h : z_T) {r0 : Int64} (hv : fX11_power x0 = some r0) : z_Ml G (z_S G) l yX11_power cX11_power 4 (.long) rm_X11_power 0 0 [.int x0] ad h h r0 := by
  refine z_ofW hSK (by decide) (Nat.le_of_ble_eq_true rfl) ?_
  intro p e s m args below meth c ls hc hr hnm hB hl
  have hx := hc.1.1
  have hb := hc.1.2.1
  have hown := hc.1.2.2.2.1
  have hts := hc.1.2.2.2.2
  replace hc : z_C G (z_S G) ad (z_n h) p m c cX11_power 4 s args RX11 meth := hc
  replace hown : s.vm.findClass RX11 = some m.cls := hown
  replace hl : lv_has ls 4 [(0, .int x0)] := hl
  show W p l e rm_X11_power s m args below meth c s.heap [] 0 0 (MQ below (z_Ql G ad h (z_n h) s.heap.size r0) args s 0 0 (z_A ad (z_n h) s.heap.size)) (F0 m 0 ls [])
  obtain ⟨rs, kt⟩ : ∃ rs : Int64, rs = r0 := ⟨_, rfl⟩
  generalize hn0 : z_n h = n0 at hc hB ⊢
  have L4 : ∀ (nn4 : Nat) (l1 : Int64) (x3 : Int32) (H : Heap) (locs : List Loc) (ls : Array Slot), z_B G ad n0 s h H locs → lv_has ls 4 [(0, .int x0), (1, .long l1), (3, .int x3)] → ∀ vv4, y_lpN (fun q : Int64 × Int32 => fX11_power_b4_i x0 q.1 q.2) nn4 (l1, x3) = some vv4 → vv4 = r0 → W p l e rm_X11_power s m args below meth c H locs 0 0 (MQ below (z_Ql G ad h n0 s.heap.size r0) args s 0 0 (z_A ad n0 s.heap.size)) (F0 m 4 ls []) := by
    intro nn4
    induction nn4 with
    | zero => intro l1 x3 H locs ls hB hl vv4 hv kv4; exact absurd hv (fun q => y_lpN_0 q)
    | succ nn4 ih4 =>
      intro l1 x3 H locs ls hB hl vv4 hv kv4
      obtain ⟨w, hq, kw4⟩ := y_lpN_e hv
      clear hv
      have hv : fX11_power_b4_i x0 l1 x3 = some w := hq
      clear hq
      refine lv_iload_n hx hb dX11_power_4 rfl (lv_at hl 2 rfl) ?_
      refine lv_iload_n hx hb dX11_power_5 rfl (lv_at hl 0 rfl) ?_
      refine lv_icmp_ge (tgt := 21) hx hb dX11_power_6 (by decide) (fun c1 => ?_) (fun c1 => ?_)
      · replace hv := y_br_t hv c1
        obtain ⟨t2, hq, ew⟩ := y_mp_e hv
        clear hv; subst ew
        replace kw4 : t2 = _ := kw4
        subst kw4
        have hv := hq
        clear hq
        refine lv_lload_n hx hb dX11_power_21 rfl (lv_at hl 1 rfl) ?_
        replace hv := Option.some.inj hv
        subst hv
        rw [← kv4]
        exact z_lret hc hB hr dX11_power_22
      · replace hv := y_br_f hv c1
        refine lv_lload_n hx hb dX11_power_9 rfl (lv_at hl 1 rfl) ?_
        refine lv_ldc2 (v := (9 : Int64)) hx hb hown (hts _ qkX11_264) dX11_power_10 ?_
        refine lv_lmul hx hb dX11_power_13 ?_
        obtain ⟨v3, ev3, hv⟩ := y_nm_e hv
        rw [← ev3]
        refine lv_lstore_n (lv' := [(1, .long v3), (0, .int x0), (3, .int x3)]) hx hb dX11_power_14 rfl hl (by decide) rfl (fun ls hl => ?_)
        obtain ⟨v4, ev4, hv⟩ := y_nm_e hv
        refine lv_iinc (v := v4) (lv' := [(3, .int v4), (1, .long v3), (0, .int x0)]) hx hb dX11_power_15 hl (k := 2) rfl (by rw [ev4]; rfl) (by decide) rfl (fun ls hl => ?_)
        refine lv_goto (tgt := 4) hx hb dX11_power_18 (by decide) ?_
        replace hv := Option.some.inj hv
        subst hv
        exact ih4 v3 v4 _ _ _ hB (lv_sub hl [2, 1, 0] rfl) _ kw4 kv4
  rw [← kt] at hv
  refine lv_lconst (v := (1 : Int64)) hx hb dX11_power_0 (by decide) ?_
  refine lv_lstore_n (lv' := [(1, .long (1 : Int64)), (0, .int x0)]) hx hb dX11_power_1 rfl hl (by decide) rfl (fun ls hl => ?_)
  refine lv_iconst (v := (0 : Int32)) hx hb dX11_power_2 (by decide) ?_
  refine lv_istore_n (lv' := [(3, .int (0 : Int32)), (1, .long (1 : Int64)), (0, .int x0)]) hx hb dX11_power_3 rfl hl (by decide) rfl (fun ls hl => ?_)
  obtain ⟨n, hv⟩ := y_lp_e hv
  exact L4 n (1 : Int64) (0 : Int32) _ _ _ hB (lv_sub hl [2, 1, 0] rfl) _ hv kt
theorem qmX5_119 : Cond.methodLink RX5 119 yX0_setting ∈ z_ws := List.mem_filter.mpr ⟨List.mem_append_right _ (List.mem_of_getElem? (i := 666) (by decide +kernel)), rfl⟩
theorem dX5_costOfBed_0 : decode cX5_costOfBed 0 = .ok (.iload_n 1, 1) := by decide +kernel
theorem dX5_costOfBed_1 : decode cX5_costOfBed 1 = .ok (.ifCond .lt 12, 3) := by decide +kernel
theorem dX5_costOfBed_4 : decode cX5_costOfBed 4 = .ok (.iload_n 1, 1) := by decide +kernel
theorem dX5_costOfBed_5 : decode cX5_costOfBed 5 = .ok (.aload_n 0, 1) := by decide +kernel
theorem dX5_costOfBed_6 : decode cX5_costOfBed 6 = .ok (.getfield 13, 3) := by decide +kernel
theorem dX5_costOfBed_9 : decode cX5_costOfBed 9 = .ok (.arraylength, 1) := by decide +kernel
theorem dX5_costOfBed_10 : decode cX5_costOfBed 10 = .ok (.if_icmp .lt 5, 3) := by decide +kernel
theorem dX5_costOfBed_13 : decode cX5_costOfBed 13 = .ok (.lconst 0, 1) := by decide +kernel
theorem dX5_costOfBed_14 : decode cX5_costOfBed 14 = .ok (.lreturn, 1) := by decide +kernel
theorem dX5_costOfBed_15 : decode cX5_costOfBed 15 = .ok (.aload_n 0, 1) := by decide +kernel
theorem dX5_costOfBed_16 : decode cX5_costOfBed 16 = .ok (.getfield 31, 3) := by decide +kernel
theorem dX5_costOfBed_19 : decode cX5_costOfBed 19 = .ok (.iconst 3, 1) := by decide +kernel
theorem dX5_costOfBed_20 : decode cX5_costOfBed 20 = .ok (.invokevirtual 119, 3) := by decide +kernel
theorem dX5_costOfBed_23 : decode cX5_costOfBed 23 = .ok (.i2l, 1) := by decide +kernel
theorem dX5_costOfBed_24 : decode cX5_costOfBed 24 = .ok (.aload_n 0, 1) := by decide +kernel
theorem dX5_costOfBed_25 : decode cX5_costOfBed 25 = .ok (.getfield 13, 3) := by decide +kernel
theorem dX5_costOfBed_28 : decode cX5_costOfBed 28 = .ok (.iload_n 1, 1) := by decide +kernel
theorem dX5_costOfBed_29 : decode cX5_costOfBed 29 = .ok (.aaload, 1) := by decide +kernel
theorem dX5_costOfBed_30 : decode cX5_costOfBed 30 = .ok (.iconst 0, 1) := by decide +kernel
theorem dX5_costOfBed_31 : decode cX5_costOfBed 31 = .ok (.laload, 1) := by decide +kernel
theorem dX5_costOfBed_32 : decode cX5_costOfBed 32 = .ok (.lmul, 1) := by decide +kernel
theorem dX5_costOfBed_33 : decode cX5_costOfBed 33 = .ok (.lreturn, 1) := by decide +kernel
abbrev rm_X5_costOfBed : Room := { frames := 1, cells := 0, slots := 0, locals := 21 }
noncomputable def fX5_costOfBed (o0 : Nat) (x1 : Int32) (h : z_T) : Option (Int64) :=
  y_br (x1 < 0)
    (some (0 : Int64))
    (y_gd (z_ok h o0 5) <|
    y_bi (z_R h o0 0) fun o3 =>
    y_gd (z_ok h o3 18) <|
    y_br (x1 < (nI (z_N h o3)))
      (y_bi (z_R h o0 5) fun o6 =>
      y_gd (z_ok h o6 0) <|
      y_bi (fX0_setting o6 (3 : Int32) h) fun r8 =>
      y_gd (z_ix x1 (z_N h o3)) <|
      y_bi (z_R h o3 x1.toNatClampNeg) fun o14 =>
      y_gd (z_ok h o14 14) <|
      y_gd (z_ix (0 : Int32) (z_N h o14)) <|
      some ((r8).toInt64 * (z_L h o14 (0 : Int32).toNatClampNeg)))
      (some (0 : Int64)))
set_option maxHeartbeats 4000000 in
set_option maxRecDepth 100000 in
theorem mm_X5_costOfBed {G : z_Gt} (hSK : z_SK (z_S G)) (l : Launch) (ad : Nat → Nat) (o0 : Nat) (x1 : Int32) (h : z_T) {r0 : Int64} (hv : fX5_costOfBed o0 x1 h = some r0) : z_Ml G (z_S G) l yX5_costOfBed cX5_costOfBed 2 (.long) rm_X5_costOfBed 0 0 [.ref (ad o0), .int x1] ad h h r0 := by
  refine z_ofW hSK (by decide) (Nat.le_of_ble_eq_true rfl) ?_
  intro p e s m args below meth c ls hc hr hnm hB hl
  have hx := hc.1.1
  have hb := hc.1.2.1
  have hown := hc.1.2.2.2.1
  have hts := hc.1.2.2.2.2
  replace hc : z_C G (z_S G) ad (z_n h) p m c cX5_costOfBed 2 s args RX5 meth := hc
  replace hown : s.vm.findClass RX5 = some m.cls := hown
  replace hl : lv_has ls 2 [(0, .ref (ad o0)), (1, .int x1)] := hl
  show W p l e rm_X5_costOfBed s m args below meth c s.heap [] 0 0 (MQ below (z_Ql G ad h (z_n h) s.heap.size r0) args s 0 0 (z_A ad (z_n h) s.heap.size)) (F0 m 0 ls [])
  obtain ⟨rs, kt⟩ : ∃ rs : Int64, rs = r0 := ⟨_, rfl⟩
  generalize hn0 : z_n h = n0 at hc hB ⊢
  rw [← kt] at hv
  refine lv_iload_n hx hb dX5_costOfBed_0 rfl (lv_at hl 1 rfl) ?_
  refine lv_if_lt (tgt := 13) hx hb dX5_costOfBed_1 (by decide) (fun c1 => ?_) (fun c1 => ?_)
  · replace hv := y_br_t hv c1
    refine lv_lconst (v := (0 : Int64)) hx hb dX5_costOfBed_13 (by decide) ?_
    replace hv := Option.some.inj hv
    subst hv
    rw [← kt]
    exact z_lret hc hB hr dX5_costOfBed_14
  · replace hv := y_br_f hv c1
    refine lv_iload_n hx hb dX5_costOfBed_4 rfl (lv_at hl 1 rfl) ?_
    refine lv_aload_n hx hb dX5_costOfBed_5 rfl (lv_at hl 0 rfl) ?_
    obtain ⟨g2, hv⟩ := y_gd_e hv
    obtain ⟨o3, eo3, hv⟩ := y_bi_e hv
    refine z_getR hc hB 5 0 g2 eo3 (by decide) (by decide) rfl (z_l1 hc qfX5_13) dX5_costOfBed_6 ?_
    obtain ⟨g4, hv⟩ := y_gd_e hv
    refine z_alen hc hB 18 (by decide) (by decide) g4 dX5_costOfBed_9 ?_
    refine lv_icmp_lt (tgt := 15) hx hb dX5_costOfBed_10 (by decide) (fun c5 => ?_) (fun c5 => ?_)
    · replace hv := y_br_t hv c5
      refine lv_aload_n hx hb dX5_costOfBed_15 rfl (lv_at hl 0 rfl) ?_
      obtain ⟨o6, eo6, hv⟩ := y_bi_e hv
      refine z_getR hc hB 5 5 g2 eo6 (by decide) (by decide) rfl (z_l1 hc qfX5_31) dX5_costOfBed_16 ?_
      refine lv_iconst (v := (3 : Int32)) hx hb dX5_costOfBed_19 (by decide) ?_
      obtain ⟨g12, hv⟩ := y_gd_e hv
      obtain ⟨r8, c7, hv⟩ := y_bi_e hv
      refine z_thI hc hB (z_runV hc hB 0 (mm_X0_setting hSK l ad o6 (3 : Int32) h c7) md_X0_setting qmX5_119 g12 (by decide) rfl rfl rfl ⟨Nat.le_of_ble_eq_true rfl, Nat.le_of_ble_eq_true rfl⟩ rfl hl.1 rfl (Nat.le_of_ble_eq_true rfl) dX5_costOfBed_20 ⟨Nat.le_of_ble_eq_true rfl, Nat.le_of_ble_eq_true rfl⟩) (fun H locs hB => ?_)
      refine lv_i2l hx hb dX5_costOfBed_23 rfl ?_
      refine lv_aload_n hx hb dX5_costOfBed_24 rfl (lv_at hl 0 rfl) ?_
      refine z_getR hc hB 5 0 g2 eo3 (by decide) (by decide) rfl (z_l1 hc qfX5_13) dX5_costOfBed_25 ?_
      refine lv_iload_n hx hb dX5_costOfBed_28 rfl (lv_at hl 1 rfl) ?_
      obtain ⟨i13, hv⟩ := y_gd_e hv
      obtain ⟨o14, eo14, hv⟩ := y_bi_e hv
      refine z_aald hc hB 18 (by decide) (by decide) rfl g4 i13 eo14 dX5_costOfBed_29 ?_
      refine lv_iconst (v := (0 : Int32)) hx hb dX5_costOfBed_30 (by decide) ?_
      obtain ⟨g15, hv⟩ := y_gd_e hv
      obtain ⟨i16, hv⟩ := y_gd_e hv
      refine z_lald hc hB g15 i16 dX5_costOfBed_31 ?_
      refine lv_lmul hx hb dX5_costOfBed_32 ?_
      replace hv := Option.some.inj hv
      subst hv
      rw [← kt]
      exact z_lret hc hB hr dX5_costOfBed_33
    · replace hv := y_br_f hv c5
      refine lv_lconst (v := (0 : Int64)) hx hb dX5_costOfBed_13 (by decide) ?_
      replace hv := Option.some.inj hv
      subst hv
      rw [← kt]
      exact z_lret hc hB hr dX5_costOfBed_14
theorem dX5_costOfUp_0 : decode cX5_costOfUp 0 = .ok (.iload_n 1, 1) := by decide +kernel
theorem dX5_costOfUp_1 : decode cX5_costOfUp 1 = .ok (.ifCond .lt 12, 3) := by decide +kernel
theorem dX5_costOfUp_4 : decode cX5_costOfUp 4 = .ok (.iload_n 1, 1) := by decide +kernel
theorem dX5_costOfUp_5 : decode cX5_costOfUp 5 = .ok (.aload_n 0, 1) := by decide +kernel
theorem dX5_costOfUp_6 : decode cX5_costOfUp 6 = .ok (.getfield 13, 3) := by decide +kernel
theorem dX5_costOfUp_9 : decode cX5_costOfUp 9 = .ok (.arraylength, 1) := by decide +kernel
theorem dX5_costOfUp_10 : decode cX5_costOfUp 10 = .ok (.if_icmp .lt 5, 3) := by decide +kernel
theorem dX5_costOfUp_13 : decode cX5_costOfUp 13 = .ok (.lconst 0, 1) := by decide +kernel
theorem dX5_costOfUp_14 : decode cX5_costOfUp 14 = .ok (.lreturn, 1) := by decide +kernel
theorem dX5_costOfUp_15 : decode cX5_costOfUp 15 = .ok (.lconst 0, 1) := by decide +kernel
theorem dX5_costOfUp_16 : decode cX5_costOfUp 16 = .ok (.lstore_n 2, 1) := by decide +kernel
theorem dX5_costOfUp_17 : decode cX5_costOfUp 17 = .ok (.iconst 1, 1) := by decide +kernel
theorem dX5_costOfUp_18 : decode cX5_costOfUp 18 = .ok (.istore 4, 2) := by decide +kernel
theorem dX5_costOfUp_20 : decode cX5_costOfUp 20 = .ok (.iload 4, 2) := by decide +kernel
theorem dX5_costOfUp_22 : decode cX5_costOfUp 22 = .ok (.bipush 7, 2) := by decide +kernel
theorem dX5_costOfUp_24 : decode cX5_costOfUp 24 = .ok (.if_icmp .ge 21, 3) := by decide +kernel
theorem dX5_costOfUp_27 : decode cX5_costOfUp 27 = .ok (.lload_n 2, 1) := by decide +kernel
theorem dX5_costOfUp_28 : decode cX5_costOfUp 28 = .ok (.aload_n 0, 1) := by decide +kernel
theorem dX5_costOfUp_29 : decode cX5_costOfUp 29 = .ok (.getfield 13, 3) := by decide +kernel
theorem dX5_costOfUp_32 : decode cX5_costOfUp 32 = .ok (.iload_n 1, 1) := by decide +kernel
theorem dX5_costOfUp_33 : decode cX5_costOfUp 33 = .ok (.aaload, 1) := by decide +kernel
theorem dX5_costOfUp_34 : decode cX5_costOfUp 34 = .ok (.iload 4, 2) := by decide +kernel
theorem dX5_costOfUp_36 : decode cX5_costOfUp 36 = .ok (.laload, 1) := by decide +kernel
theorem dX5_costOfUp_37 : decode cX5_costOfUp 37 = .ok (.ladd, 1) := by decide +kernel
theorem dX5_costOfUp_38 : decode cX5_costOfUp 38 = .ok (.lstore_n 2, 1) := by decide +kernel
theorem dX5_costOfUp_39 : decode cX5_costOfUp 39 = .ok (.iinc 4 1, 3) := by decide +kernel
theorem dX5_costOfUp_42 : decode cX5_costOfUp 42 = .ok (.goto (-22), 3) := by decide +kernel
theorem dX5_costOfUp_45 : decode cX5_costOfUp 45 = .ok (.aload_n 0, 1) := by decide +kernel
theorem dX5_costOfUp_46 : decode cX5_costOfUp 46 = .ok (.getfield 31, 3) := by decide +kernel
theorem dX5_costOfUp_49 : decode cX5_costOfUp 49 = .ok (.iconst 4, 1) := by decide +kernel
theorem dX5_costOfUp_50 : decode cX5_costOfUp 50 = .ok (.invokevirtual 119, 3) := by decide +kernel
theorem dX5_costOfUp_53 : decode cX5_costOfUp 53 = .ok (.i2l, 1) := by decide +kernel
theorem dX5_costOfUp_54 : decode cX5_costOfUp 54 = .ok (.lload_n 2, 1) := by decide +kernel
theorem dX5_costOfUp_55 : decode cX5_costOfUp 55 = .ok (.lmul, 1) := by decide +kernel
theorem dX5_costOfUp_56 : decode cX5_costOfUp 56 = .ok (.lreturn, 1) := by decide +kernel
abbrev rm_X5_costOfUp : Room := { frames := 1, cells := 0, slots := 0, locals := 21 }
noncomputable def fX5_costOfUp_b20_i (o0 : Nat) (x1 : Int32) (h : z_T) (l2 : Int64) (x4 : Int32) : Option ((Int64 × Int32) ⊕ (Int64)) :=
  y_br ((7 : Int32) ≤ x4)
    (y_mp <|
    y_gd (z_ok h o0 5) <|
    y_bi (z_R h o0 5) fun o4 =>
    y_gd (z_ok h o4 0) <|
    y_bi (fX0_setting o4 (4 : Int32) h) fun r6 =>
    some ((r6).toInt64 * l2))
    (y_gd (z_ok h o0 5) <|
    y_bi (z_R h o0 0) fun o12 =>
    y_gd (z_ok h o12 18) <|
    y_gd (z_ix x1 (z_N h o12)) <|
    y_bi (z_R h o12 x1.toNatClampNeg) fun o15 =>
    y_gd (z_ok h o15 14) <|
    y_gd (z_ix x4 (z_N h o15)) <|
    y_nm ((l2 + (z_L h o15 x4.toNatClampNeg))) fun v18 =>
    y_nm (x4 + 1) fun v19 =>
    some (.inl (v18, v19)))
noncomputable def fX5_costOfUp_b20 (o0 : Nat) (x1 : Int32) (l2 : Int64) (x4 : Int32) (h : z_T) : Option (Int64) := y_lp (fun q : Int64 × Int32 => fX5_costOfUp_b20_i o0 x1 h q.1 q.2) (l2, x4)
noncomputable def fX5_costOfUp (o0 : Nat) (x1 : Int32) (h : z_T) : Option (Int64) :=
  y_br (x1 < 0)
    (some (0 : Int64))
    (y_gd (z_ok h o0 5) <|
    y_bi (z_R h o0 0) fun o22 =>
    y_gd (z_ok h o22 18) <|
    y_br (x1 < (nI (z_N h o22)))
      (fX5_costOfUp_b20 o0 x1 (0 : Int64) (1 : Int32) h)
      (some (0 : Int64)))
set_option maxHeartbeats 4000000 in
set_option maxRecDepth 100000 in
theorem mm_X5_costOfUp {G : z_Gt} (hSK : z_SK (z_S G)) (l : Launch) (ad : Nat → Nat) (o0 : Nat) (x1 : Int32) (h : z_T) {r0 : Int64} (hv : fX5_costOfUp o0 x1 h = some r0) : z_Ml G (z_S G) l yX5_costOfUp cX5_costOfUp 5 (.long) rm_X5_costOfUp 0 0 [.ref (ad o0), .int x1] ad h h r0 := by
  refine z_ofW hSK (by decide) (Nat.le_of_ble_eq_true rfl) ?_
  intro p e s m args below meth c ls hc hr hnm hB hl
  have hx := hc.1.1
  have hb := hc.1.2.1
  have hown := hc.1.2.2.2.1
  have hts := hc.1.2.2.2.2
  replace hc : z_C G (z_S G) ad (z_n h) p m c cX5_costOfUp 5 s args RX5 meth := hc
  replace hown : s.vm.findClass RX5 = some m.cls := hown
  replace hl : lv_has ls 5 [(0, .ref (ad o0)), (1, .int x1)] := hl
  show W p l e rm_X5_costOfUp s m args below meth c s.heap [] 0 0 (MQ below (z_Ql G ad h (z_n h) s.heap.size r0) args s 0 0 (z_A ad (z_n h) s.heap.size)) (F0 m 0 ls [])
  obtain ⟨rs, kt⟩ : ∃ rs : Int64, rs = r0 := ⟨_, rfl⟩
  generalize hn0 : z_n h = n0 at hc hB ⊢
  have L20 : ∀ (nn20 : Nat) (l2 : Int64) (x4 : Int32) (H : Heap) (locs : List Loc) (ls : Array Slot), z_B G ad n0 s h H locs → lv_has ls 5 [(0, .ref (ad o0)), (1, .int x1), (2, .long l2), (4, .int x4)] → ∀ vv20, y_lpN (fun q : Int64 × Int32 => fX5_costOfUp_b20_i o0 x1 h q.1 q.2) nn20 (l2, x4) = some vv20 → vv20 = r0 → W p l e rm_X5_costOfUp s m args below meth c H locs 0 0 (MQ below (z_Ql G ad h n0 s.heap.size r0) args s 0 0 (z_A ad n0 s.heap.size)) (F0 m 20 ls []) := by
    intro nn20
    induction nn20 with
    | zero => intro l2 x4 H locs ls hB hl vv20 hv kv20; exact absurd hv (fun q => y_lpN_0 q)
    | succ nn20 ih20 =>
      intro l2 x4 H locs ls hB hl vv20 hv kv20
      obtain ⟨w, hq, kw20⟩ := y_lpN_e hv
      clear hv
      have hv : fX5_costOfUp_b20_i o0 x1 h l2 x4 = some w := hq
      clear hq
      refine lv_iload hx hb dX5_costOfUp_20 (lv_at hl 3 rfl) ?_
      refine lv_bipush (v := (7 : Int32)) hx hb dX5_costOfUp_22 (by decide) ?_
      refine lv_icmp_ge (tgt := 45) hx hb dX5_costOfUp_24 (by decide) (fun c1 => ?_) (fun c1 => ?_)
      · replace hv := y_br_t hv c1
        obtain ⟨t2, hq, ew⟩ := y_mp_e hv
        clear hv; subst ew
        replace kw20 : t2 = _ := kw20
        subst kw20
        have hv := hq
        clear hq
        refine lv_aload_n hx hb dX5_costOfUp_45 rfl (lv_at hl 0 rfl) ?_
        obtain ⟨g3, hv⟩ := y_gd_e hv
        obtain ⟨o4, eo4, hv⟩ := y_bi_e hv
        refine z_getR hc hB 5 5 g3 eo4 (by decide) (by decide) rfl (z_l1 hc qfX5_31) dX5_costOfUp_46 ?_
        refine lv_iconst (v := (4 : Int32)) hx hb dX5_costOfUp_49 (by decide) ?_
        obtain ⟨g10, hv⟩ := y_gd_e hv
        obtain ⟨r6, c5, hv⟩ := y_bi_e hv
        refine z_thI hc hB (z_runV hc hB 0 (mm_X0_setting hSK l ad o4 (4 : Int32) h c5) md_X0_setting qmX5_119 g10 (by decide) rfl rfl rfl ⟨Nat.le_of_ble_eq_true rfl, Nat.le_of_ble_eq_true rfl⟩ rfl hl.1 rfl (Nat.le_of_ble_eq_true rfl) dX5_costOfUp_50 ⟨Nat.le_of_ble_eq_true rfl, Nat.le_of_ble_eq_true rfl⟩) (fun H locs hB => ?_)
        refine lv_i2l hx hb dX5_costOfUp_53 rfl ?_
        refine lv_lload_n hx hb dX5_costOfUp_54 rfl (lv_at hl 2 rfl) ?_
        refine lv_lmul hx hb dX5_costOfUp_55 ?_
        replace hv := Option.some.inj hv
        subst hv
        rw [← kv20]
        exact z_lret hc hB hr dX5_costOfUp_56
      · replace hv := y_br_f hv c1
        refine lv_lload_n hx hb dX5_costOfUp_27 rfl (lv_at hl 2 rfl) ?_
        refine lv_aload_n hx hb dX5_costOfUp_28 rfl (lv_at hl 0 rfl) ?_
        obtain ⟨g11, hv⟩ := y_gd_e hv
        obtain ⟨o12, eo12, hv⟩ := y_bi_e hv
        refine z_getR hc hB 5 0 g11 eo12 (by decide) (by decide) rfl (z_l1 hc qfX5_13) dX5_costOfUp_29 ?_
        refine lv_iload_n hx hb dX5_costOfUp_32 rfl (lv_at hl 1 rfl) ?_
        obtain ⟨g13, hv⟩ := y_gd_e hv
        obtain ⟨i14, hv⟩ := y_gd_e hv
        obtain ⟨o15, eo15, hv⟩ := y_bi_e hv
        refine z_aald hc hB 18 (by decide) (by decide) rfl g13 i14 eo15 dX5_costOfUp_33 ?_
        refine lv_iload hx hb dX5_costOfUp_34 (lv_at hl 3 rfl) ?_
        obtain ⟨g16, hv⟩ := y_gd_e hv
        obtain ⟨i17, hv⟩ := y_gd_e hv
        refine z_lald hc hB g16 i17 dX5_costOfUp_36 ?_
        refine lv_ladd hx hb dX5_costOfUp_37 ?_
        obtain ⟨v18, ev18, hv⟩ := y_nm_e hv
        rw [← ev18]
        refine lv_lstore_n (lv' := [(2, .long v18), (0, .ref (ad o0)), (1, .int x1), (4, .int x4)]) hx hb dX5_costOfUp_38 rfl hl (by decide) rfl (fun ls hl => ?_)
        obtain ⟨v19, ev19, hv⟩ := y_nm_e hv
        refine lv_iinc (v := v19) (lv' := [(4, .int v19), (2, .long v18), (0, .ref (ad o0)), (1, .int x1)]) hx hb dX5_costOfUp_39 hl (k := 3) rfl (by rw [ev19]; rfl) (by decide) rfl (fun ls hl => ?_)
        refine lv_goto (tgt := 20) hx hb dX5_costOfUp_42 (by decide) ?_
        replace hv := Option.some.inj hv
        subst hv
        exact ih20 v18 v19 _ _ _ hB (lv_sub hl [2, 3, 1, 0] rfl) _ kw20 kv20
  rw [← kt] at hv
  refine lv_iload_n hx hb dX5_costOfUp_0 rfl (lv_at hl 1 rfl) ?_
  refine lv_if_lt (tgt := 13) hx hb dX5_costOfUp_1 (by decide) (fun c20 => ?_) (fun c20 => ?_)
  · replace hv := y_br_t hv c20
    refine lv_lconst (v := (0 : Int64)) hx hb dX5_costOfUp_13 (by decide) ?_
    replace hv := Option.some.inj hv
    subst hv
    rw [← kt]
    exact z_lret hc hB hr dX5_costOfUp_14
  · replace hv := y_br_f hv c20
    refine lv_iload_n hx hb dX5_costOfUp_4 rfl (lv_at hl 1 rfl) ?_
    refine lv_aload_n hx hb dX5_costOfUp_5 rfl (lv_at hl 0 rfl) ?_
    obtain ⟨g21, hv⟩ := y_gd_e hv
    obtain ⟨o22, eo22, hv⟩ := y_bi_e hv
    refine z_getR hc hB 5 0 g21 eo22 (by decide) (by decide) rfl (z_l1 hc qfX5_13) dX5_costOfUp_6 ?_
    obtain ⟨g23, hv⟩ := y_gd_e hv
    refine z_alen hc hB 18 (by decide) (by decide) g23 dX5_costOfUp_9 ?_
    refine lv_icmp_lt (tgt := 15) hx hb dX5_costOfUp_10 (by decide) (fun c24 => ?_) (fun c24 => ?_)
    · replace hv := y_br_t hv c24
      refine lv_lconst (v := (0 : Int64)) hx hb dX5_costOfUp_15 (by decide) ?_
      refine lv_lstore_n (lv' := [(2, .long (0 : Int64)), (0, .ref (ad o0)), (1, .int x1)]) hx hb dX5_costOfUp_16 rfl hl (by decide) rfl (fun ls hl => ?_)
      refine lv_iconst (v := (1 : Int32)) hx hb dX5_costOfUp_17 (by decide) ?_
      refine lv_istore (lv' := [(4, .int (1 : Int32)), (2, .long (0 : Int64)), (0, .ref (ad o0)), (1, .int x1)]) hx hb dX5_costOfUp_18 hl (by decide) rfl (fun ls hl => ?_)
      obtain ⟨n, hv⟩ := y_lp_e hv
      exact L20 n (0 : Int64) (1 : Int32) _ _ _ hB (lv_sub hl [2, 3, 1, 0] rfl) _ hv kt
    · replace hv := y_br_f hv c24
      refine lv_lconst (v := (0 : Int64)) hx hb dX5_costOfUp_13 (by decide) ?_
      replace hv := Option.some.inj hv
      subst hv
      rw [← kt]
      exact z_lret hc hB hr dX5_costOfUp_14
theorem qfX5_16 : Cond.fieldLink RX5 16 "DreamTests$Plan" "costs" "[J" ∈ z_ws := List.mem_filter.mpr ⟨List.mem_append_right _ (List.mem_of_getElem? (i := 234) (by decide +kernel)), rfl⟩
theorem qmX5_85 : Cond.methodLink RX5 85 yX5_behind ∈ z_ws := List.mem_filter.mpr ⟨List.mem_append_right _ (List.mem_of_getElem? (i := 680) (by decide +kernel)), rfl⟩
theorem qn_RX5 : Cond.initialized RX5 ∈ z_ws := List.mem_filter.mpr ⟨List.mem_append_right _ (List.mem_of_getElem? (i := 10) (by decide +kernel)), rfl⟩
theorem qc_X5_behind : Cond.code yX5_behind cX5_behind 4 (some .int) ∈ z_ws := List.mem_filter.mpr ⟨List.mem_append_right _ (List.mem_of_getElem? (i := 682) (by decide +kernel)), rfl⟩
theorem qs_X5_behind : Cond.static yX5_behind ∈ z_ws := List.mem_filter.mpr ⟨List.mem_append_right _ (List.mem_of_getElem? (i := 681) (by decide +kernel)), rfl⟩
theorem md_X5_behind : z_mdS yX5_behind cX5_behind 4 (some .int) 3 := ⟨⟨qn_RX5, qc_X5_behind, ⟨by decide +kernel, by decide +kernel, by decide +kernel⟩⟩, qs_X5_behind⟩
theorem qmX5_61 : Cond.methodLink RX5 61 yX5_isState ∈ z_ws := List.mem_filter.mpr ⟨List.mem_append_right _ (List.mem_of_getElem? (i := 659) (by decide +kernel)), rfl⟩
theorem qc_X5_isState : Cond.code yX5_isState cX5_isState 1 (some .boolean) ∈ z_ws := List.mem_filter.mpr ⟨List.mem_append_right _ (List.mem_of_getElem? (i := 661) (by decide +kernel)), rfl⟩
theorem qs_X5_isState : Cond.static yX5_isState ∈ z_ws := List.mem_filter.mpr ⟨List.mem_append_right _ (List.mem_of_getElem? (i := 660) (by decide +kernel)), rfl⟩
theorem md_X5_isState : z_mdS yX5_isState cX5_isState 1 (some .boolean) 1 := ⟨⟨qn_RX5, qc_X5_isState, ⟨by decide +kernel, by decide +kernel, by decide +kernel⟩⟩, qs_X5_isState⟩
theorem qfX5_28 : Cond.fieldLink RX5 28 "DreamTests$Plan" "known" "[Z" ∈ z_ws := List.mem_filter.mpr ⟨List.mem_append_right _ (List.mem_of_getElem? (i := 237) (by decide +kernel)), rfl⟩
theorem qmX5_56 : Cond.methodLink RX5 56 yJ6_bitCount_0f7a4 ∈ z_ws := List.mem_filter.mpr ⟨List.mem_append_right _ (List.mem_of_getElem? (i := 658) (by decide +kernel)), rfl⟩
theorem qmX5_89 : Cond.methodLink RX5 89 yX5_goOn ∈ z_ws := List.mem_filter.mpr ⟨List.mem_append_right _ (List.mem_of_getElem? (i := 685) (by decide +kernel)), rfl⟩
theorem qc_X5_goOn : Cond.code yX5_goOn cX5_goOn 6 none ∈ z_ws := List.mem_filter.mpr ⟨List.mem_append_right _ (List.mem_of_getElem? (i := 688) (by decide +kernel)), rfl⟩
theorem qi_X5_goOn : Cond.instanceMethod yX5_goOn ∈ z_ws := List.mem_filter.mpr ⟨List.mem_append_right _ (List.mem_of_getElem? (i := 687) (by decide +kernel)), rfl⟩
theorem qs_X5_goOn : Cond.selects RX5 yX5_goOn yX5_goOn ∈ z_ws := List.mem_filter.mpr ⟨List.mem_append_left _ (List.mem_of_getElem? (i := 11) (by decide +kernel)), rfl⟩
theorem md_X5_goOn : z_mdV yX5_goOn cX5_goOn 6 none 3 := ⟨⟨qn_RX5, qc_X5_goOn, ⟨by decide +kernel, by decide +kernel, by decide +kernel⟩⟩, qi_X5_goOn, qs_X5_goOn⟩
theorem qmX5_45 : Cond.methodLink RX5 45 yX5_choose ∈ z_ws := List.mem_filter.mpr ⟨List.mem_append_right _ (List.mem_of_getElem? (i := 654) (by decide +kernel)), rfl⟩
theorem qc_X5_choose : Cond.code yX5_choose cX5_choose 15 none ∈ z_ws := List.mem_filter.mpr ⟨List.mem_append_right _ (List.mem_of_getElem? (i := 657) (by decide +kernel)), rfl⟩
theorem qi_X5_choose : Cond.instanceMethod yX5_choose ∈ z_ws := List.mem_filter.mpr ⟨List.mem_append_right _ (List.mem_of_getElem? (i := 656) (by decide +kernel)), rfl⟩
theorem qs_X5_choose : Cond.selects RX5 yX5_choose yX5_choose ∈ z_ws := List.mem_filter.mpr ⟨List.mem_append_left _ (List.mem_of_getElem? (i := 7) (by decide +kernel)), rfl⟩
theorem md_X5_choose : z_mdV yX5_choose cX5_choose 15 none 3 := ⟨⟨qn_RX5, qc_X5_choose, ⟨by decide +kernel, by decide +kernel, by decide +kernel⟩⟩, qi_X5_choose, qs_X5_choose⟩
theorem qfX5_20 : Cond.fieldLink RX5 20 "DreamTests$Plan" "choices" "[I" ∈ z_ws := List.mem_filter.mpr ⟨List.mem_append_right _ (List.mem_of_getElem? (i := 235) (by decide +kernel)), rfl⟩
theorem qfX5_24 : Cond.fieldLink RX5 24 "DreamTests$Plan" "ups" "[Z" ∈ z_ws := List.mem_filter.mpr ⟨List.mem_append_right _ (List.mem_of_getElem? (i := 236) (by decide +kernel)), rfl⟩
theorem qmX5_81 : Cond.methodLink RX5 81 yX5_costBehind ∈ z_ws := List.mem_filter.mpr ⟨List.mem_append_right _ (List.mem_of_getElem? (i := 676) (by decide +kernel)), rfl⟩
theorem qc_X5_costBehind : Cond.code yX5_costBehind cX5_costBehind 7 (some .long) ∈ z_ws := List.mem_filter.mpr ⟨List.mem_append_right _ (List.mem_of_getElem? (i := 679) (by decide +kernel)), rfl⟩
theorem qi_X5_costBehind : Cond.instanceMethod yX5_costBehind ∈ z_ws := List.mem_filter.mpr ⟨List.mem_append_right _ (List.mem_of_getElem? (i := 678) (by decide +kernel)), rfl⟩
theorem qs_X5_costBehind : Cond.selects RX5 yX5_costBehind yX5_costBehind ∈ z_ws := List.mem_filter.mpr ⟨List.mem_append_left _ (List.mem_of_getElem? (i := 10) (by decide +kernel)), rfl⟩
theorem md_X5_costBehind : z_mdV yX5_costBehind cX5_costBehind 7 (some .long) 5 := ⟨⟨qn_RX5, qc_X5_costBehind, ⟨by decide +kernel, by decide +kernel, by decide +kernel⟩⟩, qi_X5_costBehind, qs_X5_costBehind⟩
theorem qmX5_65 : Cond.methodLink RX5 65 yX5_costOfUp ∈ z_ws := List.mem_filter.mpr ⟨List.mem_append_right _ (List.mem_of_getElem? (i := 662) (by decide +kernel)), rfl⟩
theorem qc_X5_costOfUp : Cond.code yX5_costOfUp cX5_costOfUp 5 (some .long) ∈ z_ws := List.mem_filter.mpr ⟨List.mem_append_right _ (List.mem_of_getElem? (i := 665) (by decide +kernel)), rfl⟩
theorem qi_X5_costOfUp : Cond.instanceMethod yX5_costOfUp ∈ z_ws := List.mem_filter.mpr ⟨List.mem_append_right _ (List.mem_of_getElem? (i := 664) (by decide +kernel)), rfl⟩
theorem qs_X5_costOfUp : Cond.selects RX5 yX5_costOfUp yX5_costOfUp ∈ z_ws := List.mem_filter.mpr ⟨List.mem_append_left _ (List.mem_of_getElem? (i := 8) (by decide +kernel)), rfl⟩
theorem md_X5_costOfUp : z_mdV yX5_costOfUp cX5_costOfUp 5 (some .long) 1 := ⟨⟨qn_RX5, qc_X5_costOfUp, ⟨by decide +kernel, by decide +kernel, by decide +kernel⟩⟩, qi_X5_costOfUp, qs_X5_costOfUp⟩
theorem qmX5_69 : Cond.methodLink RX5 69 yX5_costOfBed ∈ z_ws := List.mem_filter.mpr ⟨List.mem_append_right _ (List.mem_of_getElem? (i := 667) (by decide +kernel)), rfl⟩
theorem qc_X5_costOfBed : Cond.code yX5_costOfBed cX5_costOfBed 2 (some .long) ∈ z_ws := List.mem_filter.mpr ⟨List.mem_append_right _ (List.mem_of_getElem? (i := 670) (by decide +kernel)), rfl⟩
theorem qi_X5_costOfBed : Cond.instanceMethod yX5_costOfBed ∈ z_ws := List.mem_filter.mpr ⟨List.mem_append_right _ (List.mem_of_getElem? (i := 669) (by decide +kernel)), rfl⟩
theorem qs_X5_costOfBed : Cond.selects RX5 yX5_costOfBed yX5_costOfBed ∈ z_ws := List.mem_filter.mpr ⟨List.mem_append_left _ (List.mem_of_getElem? (i := 9) (by decide +kernel)), rfl⟩
theorem md_X5_costOfBed : z_mdV yX5_costOfBed cX5_costOfBed 2 (some .long) 1 := ⟨⟨qn_RX5, qc_X5_costOfBed, ⟨by decide +kernel, by decide +kernel, by decide +kernel⟩⟩, qi_X5_costOfBed, qs_X5_costOfBed⟩
theorem qmX5_72 : Cond.methodLink RX5 72 Lib.MathLoose.min_long.x ∈ z_ws := List.mem_filter.mpr ⟨List.mem_append_right _ (List.mem_of_getElem? (i := 671) (by decide +kernel)), rfl⟩
theorem qmX5_78 : Cond.methodLinkNest RX5 78 yX11_power "DreamTests" ∈ z_nw := List.mem_filter.mpr ⟨List.mem_of_getElem? (i := 672) (by decide +kernel), rfl⟩
theorem qn_RX11 : Cond.initialized RX11 ∈ z_ws := List.mem_filter.mpr ⟨List.mem_append_right _ (List.mem_of_getElem? (i := 1) (by decide +kernel)), rfl⟩
theorem qc_X11_power : Cond.code yX11_power cX11_power 4 (some .long) ∈ z_ws := List.mem_filter.mpr ⟨List.mem_append_right _ (List.mem_of_getElem? (i := 674) (by decide +kernel)), rfl⟩
theorem qs_X11_power : Cond.static yX11_power ∈ z_ws := List.mem_filter.mpr ⟨List.mem_append_right _ (List.mem_of_getElem? (i := 673) (by decide +kernel)), rfl⟩
theorem md_X11_power : z_mdS yX11_power cX11_power 4 (some .long) 1 := ⟨⟨qn_RX11, qc_X11_power, ⟨by decide +kernel, by decide +kernel, by decide +kernel⟩⟩, qs_X11_power⟩
abbrev rm_X5_costBehind (d : Nat) : Room := { frames := 2 * d + 6, cells := 0, slots := 0, locals := 68 * d + 171 }
abbrev rm_X5_choose (d : Nat) : Room := { frames := 2 * d + 5, cells := 0, slots := 0, locals := 68 * d + 137 }
theorem dX5_costBehind_0 : decode cX5_costBehind 0 = .ok (.iload_n 1, 1) := by decide +kernel
theorem dX5_costBehind_1 : decode cX5_costBehind 1 = .ok (.iload 4, 2) := by decide +kernel
theorem dX5_costBehind_3 : decode cX5_costBehind 3 = .ok (.iload 5, 2) := by decide +kernel
theorem dX5_costBehind_5 : decode cX5_costBehind 5 = .ok (.invokestatic 85, 3) := by decide +kernel
theorem dX5_costBehind_8 : decode cX5_costBehind 8 = .ok (.istore 6, 2) := by decide +kernel
theorem dX5_costBehind_10 : decode cX5_costBehind 10 = .ok (.iload 6, 2) := by decide +kernel
theorem dX5_costBehind_12 : decode cX5_costBehind 12 = .ok (.invokestatic 61, 3) := by decide +kernel
theorem dX5_costBehind_15 : decode cX5_costBehind 15 = .ok (.ifCond .ne 5, 3) := by decide +kernel
theorem dX5_costBehind_18 : decode cX5_costBehind 18 = .ok (.lconst 0, 1) := by decide +kernel
theorem dX5_costBehind_19 : decode cX5_costBehind 19 = .ok (.lreturn, 1) := by decide +kernel
theorem dX5_costBehind_20 : decode cX5_costBehind 20 = .ok (.aload_n 0, 1) := by decide +kernel
theorem dX5_costBehind_21 : decode cX5_costBehind 21 = .ok (.getfield 28, 3) := by decide +kernel
theorem dX5_costBehind_24 : decode cX5_costBehind 24 = .ok (.iload 6, 2) := by decide +kernel
theorem dX5_costBehind_26 : decode cX5_costBehind 26 = .ok (.baload, 1) := by decide +kernel
theorem dX5_costBehind_27 : decode cX5_costBehind 27 = .ok (.ifCond .ne 30, 3) := by decide +kernel
theorem dX5_costBehind_30 : decode cX5_costBehind 30 = .ok (.aload_n 0, 1) := by decide +kernel
theorem dX5_costBehind_31 : decode cX5_costBehind 31 = .ok (.iload_n 2, 1) := by decide +kernel
theorem dX5_costBehind_32 : decode cX5_costBehind 32 = .ok (.invokestatic 56, 3) := by decide +kernel
theorem dX5_costBehind_35 : decode cX5_costBehind 35 = .ok (.iload 4, 2) := by decide +kernel
theorem dX5_costBehind_37 : decode cX5_costBehind 37 = .ok (.iload 5, 2) := by decide +kernel
theorem dX5_costBehind_39 : decode cX5_costBehind 39 = .ok (.invokevirtual 89, 3) := by decide +kernel
theorem dX5_costBehind_42 : decode cX5_costBehind 42 = .ok (.aload_n 0, 1) := by decide +kernel
theorem dX5_costBehind_43 : decode cX5_costBehind 43 = .ok (.iload 6, 2) := by decide +kernel
theorem dX5_costBehind_45 : decode cX5_costBehind 45 = .ok (.iload_n 2, 1) := by decide +kernel
theorem dX5_costBehind_46 : decode cX5_costBehind 46 = .ok (.iconst 1, 1) := by decide +kernel
theorem dX5_costBehind_47 : decode cX5_costBehind 47 = .ok (.iload 4, 2) := by decide +kernel
theorem dX5_costBehind_49 : decode cX5_costBehind 49 = .ok (.ishl, 1) := by decide +kernel
theorem dX5_costBehind_50 : decode cX5_costBehind 50 = .ok (.ior, 1) := by decide +kernel
theorem dX5_costBehind_51 : decode cX5_costBehind 51 = .ok (.iload_n 3, 1) := by decide +kernel
theorem dX5_costBehind_52 : decode cX5_costBehind 52 = .ok (.iconst 1, 1) := by decide +kernel
theorem dX5_costBehind_53 : decode cX5_costBehind 53 = .ok (.isub, 1) := by decide +kernel
theorem dX5_costBehind_54 : decode cX5_costBehind 54 = .ok (.invokevirtual 45, 3) := by decide +kernel
theorem dX5_costBehind_57 : decode cX5_costBehind 57 = .ok (.aload_n 0, 1) := by decide +kernel
theorem dX5_costBehind_58 : decode cX5_costBehind 58 = .ok (.getfield 16, 3) := by decide +kernel
theorem dX5_costBehind_61 : decode cX5_costBehind 61 = .ok (.iload 6, 2) := by decide +kernel
theorem dX5_costBehind_63 : decode cX5_costBehind 63 = .ok (.laload, 1) := by decide +kernel
theorem dX5_costBehind_64 : decode cX5_costBehind 64 = .ok (.lreturn, 1) := by decide +kernel
noncomputable def fX5_costBehind_b57 (rc : Nat → Int32 → Int32 → Int32 → z_T → Option (z_T)) (o0 : Nat) (x6 : Int32) (h : z_T) : Option (Int64 × z_T) :=
  y_gd (z_ok h o0 5) <|
  y_bi (z_R h o0 1) fun o2 =>
  y_gd (z_ok h o2 14) <|
  y_gd (z_ix x6 (z_N h o2)) <|
  some ((z_L h o2 x6.toNatClampNeg), h)
noncomputable def fX5_costBehind (rc : Nat → Int32 → Int32 → Int32 → z_T → Option (z_T)) (o0 : Nat) (x1 : Int32) (x2 : Int32) (x3 : Int32) (x4 : Int32) (x5 : Int32) (h : z_T) : Option (Int64 × z_T) :=
  y_bi (fX5_behind x1 x4 x5 h) fun r6 =>
  y_bi (fX5_isState r6) fun r11 =>
  y_br (r11 = 0)
    (some ((0 : Int64), h))
    (y_gd (z_ok h o0 5) <|
    y_bi (z_R h o0 4) fun o17 =>
    y_gd (z_ok h o17 15) <|
    y_gd (z_ix r6 (z_N h o17)) <|
    y_br ((z_I h o17 r6.toNatClampNeg) = 0)
      (y_bi (fJ6_bitCount_0f7a4 x2) fun r22 =>
      y_bi (fX5_goOn o0 r22 x4 x5 h) fun h27 =>
      y_gd (z_ok h27 o0 5) <|
      y_bi (rc o0 r6 (x2 ||| ((1 : Int32) <<< (x4 &&& 31))) (x3 - (1 : Int32)) h27) fun h29 =>
      fX5_costBehind_b57 rc o0 r6 h29)
      (fX5_costBehind_b57 rc o0 r6 h))
set_option maxHeartbeats 4000000 in
set_option maxRecDepth 100000 in
theorem mh_X5_costBehind {G : z_Gt} (hSK : z_SK (z_S G)) (l : Launch) (ad : Nat → Nat) (d : Nat) (rc : Nat → Int32 → Int32 → Int32 → z_T → Option (z_T)) (hrc : ∀ (o0 : Nat) (x1 : Int32) (x2 : Int32) (x3 : Int32) (h : z_T) {h9 : z_T}, rc o0 x1 x2 x3 h = some h9 → z_Mv G (z_S G) l yX5_choose cX5_choose 15 (rm_X5_choose d) 0 0 [.ref (ad o0), .int x1, .int x2, .int x3] ad h h9) (o0 : Nat) (x1 : Int32) (x2 : Int32) (x3 : Int32) (x4 : Int32) (x5 : Int32) (h : z_T) {r0 : Int64} {h9 : z_T} (hv : fX5_costBehind rc o0 x1 x2 x3 x4 x5 h = some (r0, h9)) : z_Ml G (z_S G) l yX5_costBehind cX5_costBehind 7 (.long) (rm_X5_costBehind d) 0 0 [.ref (ad o0), .int x1, .int x2, .int x3, .int x4, .int x5] ad h h9 r0 := by
  refine z_ofW hSK (by decide) (Nat.le_of_ble_eq_true rfl) ?_
  intro p e s m args below meth c ls hc hr hnm hB hl
  have hx := hc.1.1
  have hb := hc.1.2.1
  have hown := hc.1.2.2.2.1
  have hts := hc.1.2.2.2.2
  replace hc : z_C G (z_S G) ad (z_n h) p m c cX5_costBehind 7 s args RX5 meth := hc
  replace hown : s.vm.findClass RX5 = some m.cls := hown
  replace hl : lv_has ls 7 [(0, .ref (ad o0)), (1, .int x1), (2, .int x2), (3, .int x3), (4, .int x4), (5, .int x5)] := hl
  show W p l e (rm_X5_costBehind d) s m args below meth c s.heap [] 0 0 (MQ below (z_Ql G ad h9 (z_n h) s.heap.size r0) args s 0 0 (z_A ad (z_n h) s.heap.size)) (F0 m 0 ls [])
  obtain ⟨rs, kt⟩ : ∃ rs : Int64 × z_T, rs = (r0, h9) := ⟨_, rfl⟩
  generalize hn0 : z_n h = n0 at hc hB ⊢
  have b57 : ∀ (x6 : Int32) (h : z_T) (H : Heap) (locs : List Loc) (ls : Array Slot), z_B G ad n0 s h H locs → lv_has ls 7 [(0, .ref (ad o0)), (6, .int x6)] → ∀ w, fX5_costBehind_b57 rc o0 x6 h = some w → w = (r0, h9) → W p l e (rm_X5_costBehind d) s m args below meth c H locs 0 0 (MQ below (z_Ql G ad h9 n0 s.heap.size r0) args s 0 0 (z_A ad n0 s.heap.size)) (F0 m 57 ls []) := by
    intro x6 h H locs ls hB hl w hv kb
    refine lv_aload_n hx hb dX5_costBehind_57 rfl (lv_at hl 0 rfl) ?_
    obtain ⟨g1, hv⟩ := y_gd_e hv
    obtain ⟨o2, eo2, hv⟩ := y_bi_e hv
    refine z_getR hc hB 5 1 g1 eo2 (by decide) (by decide) rfl (z_l1 hc qfX5_16) dX5_costBehind_58 ?_
    refine lv_iload hx hb dX5_costBehind_61 (lv_at hl 1 rfl) ?_
    obtain ⟨g3, hv⟩ := y_gd_e hv
    obtain ⟨i4, hv⟩ := y_gd_e hv
    refine z_lald hc hB g3 i4 dX5_costBehind_63 ?_
    replace hv := Option.some.inj hv
    subst hv
    obtain ⟨e1, e2⟩ := y_pr kb
    rw [← e1, ← e2]
    exact z_lret hc hB hr dX5_costBehind_64
  rw [← kt] at hv
  refine lv_iload_n hx hb dX5_costBehind_0 rfl (lv_at hl 1 rfl) ?_
  refine lv_iload hx hb dX5_costBehind_1 (lv_at hl 4 rfl) ?_
  refine lv_iload hx hb dX5_costBehind_3 (lv_at hl 5 rfl) ?_
  obtain ⟨r6, c5, hv⟩ := y_bi_e hv
  refine z_thI hc hB (z_runS hc hB (mm_X5_behind hSK l ad x1 x4 x5 h c5) md_X5_behind qmX5_85 rfl rfl ⟨by simp only [rm_X5_costBehind, rm_X5_behind]; omega, by simp only [rm_X5_costBehind, rm_X5_behind]; omega⟩ rfl hl.1 rfl (Nat.le_of_ble_eq_true rfl) dX5_costBehind_5 ⟨Nat.le_of_ble_eq_true rfl, Nat.le_of_ble_eq_true rfl⟩) (fun H locs hB => ?_)
  refine lv_istore (lv' := [(6, .int r6), (0, .ref (ad o0)), (1, .int x1), (2, .int x2), (3, .int x3), (4, .int x4), (5, .int x5)]) hx hb dX5_costBehind_8 hl (by decide) rfl (fun ls hl => ?_)
  refine lv_iload hx hb dX5_costBehind_10 (lv_at hl 0 rfl) ?_
  obtain ⟨r11, c10, hv⟩ := y_bi_e hv
  refine z_thI hc hB (z_runS hc hB (mm_X5_isState hSK l ad r6 h c10) md_X5_isState qmX5_61 rfl rfl ⟨by simp only [rm_X5_costBehind, rm_X5_isState]; omega, by simp only [rm_X5_costBehind, rm_X5_isState]; omega⟩ rfl hl.1 rfl (Nat.le_of_ble_eq_true rfl) dX5_costBehind_12 ⟨Nat.le_of_ble_eq_true rfl, Nat.le_of_ble_eq_true rfl⟩) (fun H locs hB => ?_)
  refine lv_if_ne (tgt := 20) hx hb dX5_costBehind_15 (by decide) (fun c15 => ?_) (fun c15 => ?_)
  · replace hv := y_br_f hv c15
    refine lv_aload_n hx hb dX5_costBehind_20 rfl (lv_at hl 1 rfl) ?_
    obtain ⟨g16, hv⟩ := y_gd_e hv
    obtain ⟨o17, eo17, hv⟩ := y_bi_e hv
    refine z_getR hc hB 5 4 g16 eo17 (by decide) (by decide) rfl (z_l1 hc qfX5_28) dX5_costBehind_21 ?_
    refine lv_iload hx hb dX5_costBehind_24 (lv_at hl 0 rfl) ?_
    obtain ⟨g18, hv⟩ := y_gd_e hv
    obtain ⟨i19, hv⟩ := y_gd_e hv
    refine z_zald hc hB g18 i19 dX5_costBehind_26 ?_
    refine lv_if_ne (tgt := 57) hx hb dX5_costBehind_27 (by decide) (fun c20 => ?_) (fun c20 => ?_)
    · replace hv := y_br_f hv c20
      exact b57 r6 h _ _ _ hB (lv_sub hl [1, 0] rfl) _ hv kt
    · replace hv := y_br_t hv c20
      refine lv_aload_n hx hb dX5_costBehind_30 rfl (lv_at hl 1 rfl) ?_
      refine lv_iload_n hx hb dX5_costBehind_31 rfl (lv_at hl 3 rfl) ?_
      obtain ⟨r22, c21, hv⟩ := y_bi_e hv
      refine z_thI hc hB (z_runS hc hB (mm_J6_bitCount_0f7a4 hSK l ad x2 h c21) md_J6_bitCount_0f7a4 qmX5_56 rfl rfl ⟨by simp only [rm_X5_costBehind, rm_J6_bitCount_0f7a4]; omega, by simp only [rm_X5_costBehind, rm_J6_bitCount_0f7a4]; omega⟩ rfl hl.1 rfl (Nat.le_of_ble_eq_true rfl) dX5_costBehind_32 ⟨Nat.le_of_ble_eq_true rfl, Nat.le_of_ble_eq_true rfl⟩) (fun H locs hB => ?_)
      refine lv_iload hx hb dX5_costBehind_35 (lv_at hl 5 rfl) ?_
      refine lv_iload hx hb dX5_costBehind_37 (lv_at hl 6 rfl) ?_
      obtain ⟨h27, c26, hv⟩ := y_bi_e hv
      refine z_thV hc hB (z_runV hc hB 5 (mm_X5_goOn hSK l ad o0 r22 x4 x5 h c26) md_X5_goOn qmX5_89 g16 (by decide) rfl rfl rfl ⟨by simp only [rm_X5_costBehind, rm_X5_goOn]; omega, by simp only [rm_X5_costBehind, rm_X5_goOn]; omega⟩ rfl hl.1 rfl (Nat.le_of_ble_eq_true rfl) dX5_costBehind_39 ⟨Nat.le_of_ble_eq_true rfl, Nat.le_of_ble_eq_true rfl⟩) (fun H locs hB => ?_)
      refine lv_aload_n hx hb dX5_costBehind_42 rfl (lv_at hl 1 rfl) ?_
      refine lv_iload hx hb dX5_costBehind_43 (lv_at hl 0 rfl) ?_
      refine lv_iload_n hx hb dX5_costBehind_45 rfl (lv_at hl 3 rfl) ?_
      refine lv_iconst (v := (1 : Int32)) hx hb dX5_costBehind_46 (by decide) ?_
      refine lv_iload hx hb dX5_costBehind_47 (lv_at hl 5 rfl) ?_
      refine lv_ishl hx hb dX5_costBehind_49 ?_
      refine lv_ior hx hb dX5_costBehind_50 ?_
      refine lv_iload_n hx hb dX5_costBehind_51 rfl (lv_at hl 4 rfl) ?_
      refine lv_iconst (v := (1 : Int32)) hx hb dX5_costBehind_52 (by decide) ?_
      refine lv_isub hx hb dX5_costBehind_53 ?_
      obtain ⟨g30, hv⟩ := y_gd_e hv
      obtain ⟨h29, c28, hv⟩ := y_bi_e hv
      refine z_thV hc hB (z_runV hc hB 5 (hrc o0 r6 (x2 ||| ((1 : Int32) <<< (x4 &&& 31))) (x3 - (1 : Int32)) h27 c28) md_X5_choose qmX5_45 g30 (by decide) rfl rfl rfl ⟨by simp only [rm_X5_costBehind, rm_X5_choose]; omega, by simp only [rm_X5_costBehind, rm_X5_choose]; omega⟩ rfl hl.1 rfl (Nat.le_of_ble_eq_true rfl) dX5_costBehind_54 ⟨Nat.le_of_ble_eq_true rfl, Nat.le_of_ble_eq_true rfl⟩) (fun H locs hB => ?_)
      exact b57 r6 h29 _ _ _ hB (lv_sub hl [1, 0] rfl) _ hv kt
  · replace hv := y_br_t hv c15
    refine lv_lconst (v := (0 : Int64)) hx hb dX5_costBehind_18 (by decide) ?_
    replace hv := Option.some.inj hv
    subst hv
    obtain ⟨e1, e2⟩ := y_pr kt
    rw [← e1, ← e2]
    exact z_lret hc hB hr dX5_costBehind_19
theorem dX5_choose_0 : decode cX5_choose 0 = .ok (.iload_n 2, 1) := by decide +kernel
theorem dX5_choose_1 : decode cX5_choose 1 = .ok (.invokestatic 56, 3) := by decide +kernel
theorem dX5_choose_4 : decode cX5_choose 4 = .ok (.istore 4, 2) := by decide +kernel
theorem dX5_choose_6 : decode cX5_choose 6 = .ok (.iload_n 1, 1) := by decide +kernel
theorem dX5_choose_7 : decode cX5_choose 7 = .ok (.invokestatic 61, 3) := by decide +kernel
theorem dX5_choose_10 : decode cX5_choose 10 = .ok (.ifCond .eq 9, 3) := by decide +kernel
theorem dX5_choose_13 : decode cX5_choose 13 = .ok (.iload 4, 2) := by decide +kernel
theorem dX5_choose_15 : decode cX5_choose 15 = .ok (.iconst 4, 1) := by decide +kernel
theorem dX5_choose_16 : decode cX5_choose 16 = .ok (.if_icmp .le 4, 3) := by decide +kernel
theorem dX5_choose_19 : decode cX5_choose 19 = .ok (.return_, 1) := by decide +kernel
theorem dX5_choose_20 : decode cX5_choose 20 = .ok (.aload_n 0, 1) := by decide +kernel
theorem dX5_choose_21 : decode cX5_choose 21 = .ok (.iload 4, 2) := by decide +kernel
theorem dX5_choose_23 : decode cX5_choose 23 = .ok (.invokevirtual 65, 3) := by decide +kernel
theorem dX5_choose_26 : decode cX5_choose 26 = .ok (.lstore 5, 2) := by decide +kernel
theorem dX5_choose_28 : decode cX5_choose 28 = .ok (.aload_n 0, 1) := by decide +kernel
theorem dX5_choose_29 : decode cX5_choose 29 = .ok (.iload 4, 2) := by decide +kernel
theorem dX5_choose_31 : decode cX5_choose 31 = .ok (.invokevirtual 69, 3) := by decide +kernel
theorem dX5_choose_34 : decode cX5_choose 34 = .ok (.lstore 7, 2) := by decide +kernel
theorem dX5_choose_36 : decode cX5_choose 36 = .ok (.lload 5, 2) := by decide +kernel
theorem dX5_choose_38 : decode cX5_choose 38 = .ok (.lload 7, 2) := by decide +kernel
theorem dX5_choose_40 : decode cX5_choose 40 = .ok (.invokestatic 72, 3) := by decide +kernel
theorem dX5_choose_43 : decode cX5_choose 43 = .ok (.iload_n 3, 1) := by decide +kernel
theorem dX5_choose_44 : decode cX5_choose 44 = .ok (.invokestatic 78, 3) := by decide +kernel
theorem dX5_choose_47 : decode cX5_choose 47 = .ok (.lmul, 1) := by decide +kernel
theorem dX5_choose_48 : decode cX5_choose 48 = .ok (.lstore 9, 2) := by decide +kernel
theorem dX5_choose_50 : decode cX5_choose 50 = .ok (.iconst (-1), 1) := by decide +kernel
theorem dX5_choose_51 : decode cX5_choose 51 = .ok (.istore 11, 2) := by decide +kernel
theorem dX5_choose_53 : decode cX5_choose 53 = .ok (.iconst 0, 1) := by decide +kernel
theorem dX5_choose_54 : decode cX5_choose 54 = .ok (.istore 12, 2) := by decide +kernel
theorem dX5_choose_56 : decode cX5_choose 56 = .ok (.iload 12, 2) := by decide +kernel
theorem dX5_choose_58 : decode cX5_choose 58 = .ok (.aload_n 0, 1) := by decide +kernel
theorem dX5_choose_59 : decode cX5_choose 59 = .ok (.getfield 31, 3) := by decide +kernel
theorem dX5_choose_62 : decode cX5_choose 62 = .ok (.getfield 35, 3) := by decide +kernel
theorem dX5_choose_65 : decode cX5_choose 65 = .ok (.if_icmp .ge 61, 3) := by decide +kernel
theorem dX5_choose_68 : decode cX5_choose 68 = .ok (.iload_n 3, 1) := by decide +kernel
theorem dX5_choose_69 : decode cX5_choose 69 = .ok (.ifCond .le 57, 3) := by decide +kernel
theorem dX5_choose_72 : decode cX5_choose 72 = .ok (.iload_n 2, 1) := by decide +kernel
theorem dX5_choose_73 : decode cX5_choose 73 = .ok (.iconst 1, 1) := by decide +kernel
theorem dX5_choose_74 : decode cX5_choose 74 = .ok (.iload 12, 2) := by decide +kernel
theorem dX5_choose_76 : decode cX5_choose 76 = .ok (.ishl, 1) := by decide +kernel
theorem dX5_choose_77 : decode cX5_choose 77 = .ok (.iand, 1) := by decide +kernel
theorem dX5_choose_78 : decode cX5_choose 78 = .ok (.ifCond .ne 42, 3) := by decide +kernel
theorem dX5_choose_81 : decode cX5_choose 81 = .ok (.aload_n 0, 1) := by decide +kernel
theorem dX5_choose_82 : decode cX5_choose 82 = .ok (.iload_n 1, 1) := by decide +kernel
theorem dX5_choose_83 : decode cX5_choose 83 = .ok (.iload_n 2, 1) := by decide +kernel
theorem dX5_choose_84 : decode cX5_choose 84 = .ok (.iload_n 3, 1) := by decide +kernel
theorem dX5_choose_85 : decode cX5_choose 85 = .ok (.iload 12, 2) := by decide +kernel
theorem dX5_choose_87 : decode cX5_choose 87 = .ok (.iconst 1, 1) := by decide +kernel
theorem dX5_choose_88 : decode cX5_choose 88 = .ok (.invokevirtual 81, 3) := by decide +kernel
theorem dX5_choose_91 : decode cX5_choose 91 = .ok (.aload_n 0, 1) := by decide +kernel
theorem dX5_choose_92 : decode cX5_choose 92 = .ok (.iload_n 1, 1) := by decide +kernel
theorem dX5_choose_93 : decode cX5_choose 93 = .ok (.iload_n 2, 1) := by decide +kernel
theorem dX5_choose_94 : decode cX5_choose 94 = .ok (.iload_n 3, 1) := by decide +kernel
theorem dX5_choose_95 : decode cX5_choose 95 = .ok (.iload 12, 2) := by decide +kernel
theorem dX5_choose_97 : decode cX5_choose 97 = .ok (.iconst 0, 1) := by decide +kernel
theorem dX5_choose_98 : decode cX5_choose 98 = .ok (.invokevirtual 81, 3) := by decide +kernel
theorem dX5_choose_101 : decode cX5_choose 101 = .ok (.ladd, 1) := by decide +kernel
theorem dX5_choose_102 : decode cX5_choose 102 = .ok (.lstore 13, 2) := by decide +kernel
theorem dX5_choose_104 : decode cX5_choose 104 = .ok (.lload 13, 2) := by decide +kernel
theorem dX5_choose_106 : decode cX5_choose 106 = .ok (.lload 9, 2) := by decide +kernel
theorem dX5_choose_108 : decode cX5_choose 108 = .ok (.lcmp, 1) := by decide +kernel
theorem dX5_choose_109 : decode cX5_choose 109 = .ok (.ifCond .ge 11, 3) := by decide +kernel
theorem dX5_choose_112 : decode cX5_choose 112 = .ok (.lload 13, 2) := by decide +kernel
theorem dX5_choose_114 : decode cX5_choose 114 = .ok (.lstore 9, 2) := by decide +kernel
theorem dX5_choose_116 : decode cX5_choose 116 = .ok (.iload 12, 2) := by decide +kernel
theorem dX5_choose_118 : decode cX5_choose 118 = .ok (.istore 11, 2) := by decide +kernel
theorem dX5_choose_120 : decode cX5_choose 120 = .ok (.iinc 12 1, 3) := by decide +kernel
theorem dX5_choose_123 : decode cX5_choose 123 = .ok (.goto (-67), 3) := by decide +kernel
theorem dX5_choose_126 : decode cX5_choose 126 = .ok (.aload_n 0, 1) := by decide +kernel
theorem dX5_choose_127 : decode cX5_choose 127 = .ok (.getfield 28, 3) := by decide +kernel
theorem dX5_choose_130 : decode cX5_choose 130 = .ok (.iload_n 1, 1) := by decide +kernel
theorem dX5_choose_131 : decode cX5_choose 131 = .ok (.iconst 1, 1) := by decide +kernel
theorem dX5_choose_132 : decode cX5_choose 132 = .ok (.bastore, 1) := by decide +kernel
theorem dX5_choose_133 : decode cX5_choose 133 = .ok (.aload_n 0, 1) := by decide +kernel
theorem dX5_choose_134 : decode cX5_choose 134 = .ok (.getfield 16, 3) := by decide +kernel
theorem dX5_choose_137 : decode cX5_choose 137 = .ok (.iload_n 1, 1) := by decide +kernel
theorem dX5_choose_138 : decode cX5_choose 138 = .ok (.lload 9, 2) := by decide +kernel
theorem dX5_choose_140 : decode cX5_choose 140 = .ok (.lastore, 1) := by decide +kernel
theorem dX5_choose_141 : decode cX5_choose 141 = .ok (.aload_n 0, 1) := by decide +kernel
theorem dX5_choose_142 : decode cX5_choose 142 = .ok (.getfield 20, 3) := by decide +kernel
theorem dX5_choose_145 : decode cX5_choose 145 = .ok (.iload_n 1, 1) := by decide +kernel
theorem dX5_choose_146 : decode cX5_choose 146 = .ok (.iload 11, 2) := by decide +kernel
theorem dX5_choose_148 : decode cX5_choose 148 = .ok (.iastore, 1) := by decide +kernel
theorem dX5_choose_149 : decode cX5_choose 149 = .ok (.aload_n 0, 1) := by decide +kernel
theorem dX5_choose_150 : decode cX5_choose 150 = .ok (.getfield 24, 3) := by decide +kernel
theorem dX5_choose_153 : decode cX5_choose 153 = .ok (.iload_n 1, 1) := by decide +kernel
theorem dX5_choose_154 : decode cX5_choose 154 = .ok (.lload 5, 2) := by decide +kernel
theorem dX5_choose_156 : decode cX5_choose 156 = .ok (.lload 7, 2) := by decide +kernel
theorem dX5_choose_158 : decode cX5_choose 158 = .ok (.lcmp, 1) := by decide +kernel
theorem dX5_choose_159 : decode cX5_choose 159 = .ok (.ifCond .gt 7, 3) := by decide +kernel
theorem dX5_choose_162 : decode cX5_choose 162 = .ok (.iconst 1, 1) := by decide +kernel
theorem dX5_choose_163 : decode cX5_choose 163 = .ok (.goto 4, 3) := by decide +kernel
theorem dX5_choose_166 : decode cX5_choose 166 = .ok (.iconst 0, 1) := by decide +kernel
theorem dX5_choose_167 : decode cX5_choose 167 = .ok (.bastore, 1) := by decide +kernel
theorem dX5_choose_168 : decode cX5_choose 168 = .ok (.return_, 1) := by decide +kernel
noncomputable def fX5_choose_b126 (rc : Nat → Int32 → Int32 → Int32 → z_T → Option (z_T)) (o0 : Nat) (x1 : Int32) (l5 : Int64) (l7 : Int64) (l9 : Int64) (x11 : Int32) (h : z_T) : Option (z_T) :=
  y_gd (z_ok h o0 5) <|
  y_bi (z_R h o0 4) fun o2 =>
  y_gd (z_ok h o2 15) <|
  y_gd (z_ix x1 (z_N h o2)) <|
  y_nm (z_sI h o2 x1.toNatClampNeg (vp_nar .boolean (1 : Int32))) fun h5 =>
  y_bi (z_R h5 o0 1) fun o6 =>
  y_gd (z_ok h5 o6 14) <|
  y_gd (z_ix x1 (z_N h5 o6)) <|
  y_nm (z_sL h5 o6 x1.toNatClampNeg l9) fun h9 =>
  y_bi (z_R h9 o0 2) fun o10 =>
  y_gd (z_ok h9 o10 13) <|
  y_gd (z_ix x1 (z_N h9 o10)) <|
  y_nm (z_sI h9 o10 x1.toNatClampNeg x11) fun h13 =>
  y_bi (z_R h13 o0 3) fun o14 =>
  y_br (0 < (lg_cmp l5 l7))
    (y_gd (z_ok h13 o14 15) <|
    y_gd (z_ix x1 (z_N h13 o14)) <|
    y_nm (z_sI h13 o14 x1.toNatClampNeg (vp_nar .boolean (0 : Int32))) fun h18 =>
    some h18)
    (y_gd (z_ok h13 o14 15) <|
    y_gd (z_ix x1 (z_N h13 o14)) <|
    y_nm (z_sI h13 o14 x1.toNatClampNeg (vp_nar .boolean (1 : Int32))) fun h21 =>
    some h21)
noncomputable def fX5_choose_b120 (rc : Nat → Int32 → Int32 → Int32 → z_T → Option (z_T)) (o0 : Nat) (x1 : Int32) (x2 : Int32) (x3 : Int32) (l5 : Int64) (l7 : Int64) (l9 : Int64) (x11 : Int32) (x12 : Int32) (h : z_T) : Option ((Int64 × Int32 × Int32 × z_T) ⊕ (z_T)) :=
  y_nm (x12 + 1) fun v22 =>
  some (.inl (l9, x11, v22, h))
noncomputable def fX5_choose_b56_i (rc : Nat → Int32 → Int32 → Int32 → z_T → Option (z_T)) (o0 : Nat) (x1 : Int32) (x2 : Int32) (x3 : Int32) (l5 : Int64) (l7 : Int64) (l9 : Int64) (x11 : Int32) (x12 : Int32) (h : z_T) : Option ((Int64 × Int32 × Int32 × z_T) ⊕ (z_T)) :=
  y_gd (z_ok h o0 5) <|
  y_bi (z_R h o0 5) fun o24 =>
  y_gd (z_ok h o24 0) <|
  y_br ((z_I h o24 1) ≤ x12)
    (y_mp <|
    fX5_choose_b126 rc o0 x1 l5 l7 l9 x11 h)
    (y_br (x3 ≤ 0)
      (y_mp <|
      fX5_choose_b126 rc o0 x1 l5 l7 l9 x11 h)
      (y_br ((x2 &&& ((1 : Int32) <<< (x12 &&& 31))) = 0)
        (y_bi (fX5_costBehind rc o0 x1 x2 x3 x12 (1 : Int32) h) fun ⟨r33, h36⟩ =>
        y_gd (z_ok h36 o0 5) <|
        y_bi (fX5_costBehind rc o0 x1 x2 x3 x12 (0 : Int32) h36) fun ⟨r39, h42⟩ =>
        y_nm ((r33 + r39)) fun v44 =>
        y_br (0 ≤ (lg_cmp v44 l9))
          (fX5_choose_b120 rc o0 x1 x2 x3 l5 l7 l9 x11 x12 h42)
          (fX5_choose_b120 rc o0 x1 x2 x3 l5 l7 v44 x12 x12 h42))
        (fX5_choose_b120 rc o0 x1 x2 x3 l5 l7 l9 x11 x12 h)))
noncomputable def fX5_choose_b56 (rc : Nat → Int32 → Int32 → Int32 → z_T → Option (z_T)) (o0 : Nat) (x1 : Int32) (x2 : Int32) (x3 : Int32) (l5 : Int64) (l7 : Int64) (l9 : Int64) (x11 : Int32) (x12 : Int32) (h : z_T) : Option (z_T) := y_lp (fun q : Int64 × Int32 × Int32 × z_T => fX5_choose_b56_i rc o0 x1 x2 x3 l5 l7 q.1 q.2.1 q.2.2.1 q.2.2.2) (l9, x11, x12, h)
noncomputable def fX5_choose_s (rc : Nat → Int32 → Int32 → Int32 → z_T → Option (z_T)) (o0 : Nat) (x1 : Int32) (x2 : Int32) (x3 : Int32) (h : z_T) : Option (z_T) :=
  y_bi (fJ6_bitCount_0f7a4 x2) fun r47 =>
  y_bi (fX5_isState x1) fun r52 =>
  y_br (r52 = 0)
    (some h)
    (y_br (r47 ≤ (4 : Int32))
      (y_gd (z_ok h o0 5) <|
      y_bi (fX5_costOfUp o0 r47 h) fun r60 =>
      y_bi (fX5_costOfBed o0 r47 h) fun r66 =>
      y_bi (fX11_power x3) fun r71 =>
      y_nm (((if r66 < r60 then r66 else r60) * r71)) fun v74 =>
      fX5_choose_b56 rc o0 x1 x2 x3 r60 r66 v74 (-1 : Int32) (0 : Int32) h)
      (some h))
set_option maxHeartbeats 4000000 in
set_option maxRecDepth 100000 in
theorem mh_X5_choose {G : z_Gt} (hSK : z_SK (z_S G)) (l : Launch) (ad : Nat → Nat) (d : Nat) (rc : Nat → Int32 → Int32 → Int32 → z_T → Option (z_T)) (hrc : ∀ (o0 : Nat) (x1 : Int32) (x2 : Int32) (x3 : Int32) (h : z_T) {h9 : z_T}, rc o0 x1 x2 x3 h = some h9 → z_Mv G (z_S G) l yX5_choose cX5_choose 15 (rm_X5_choose d) 0 0 [.ref (ad o0), .int x1, .int x2, .int x3] ad h h9) (o0 : Nat) (x1 : Int32) (x2 : Int32) (x3 : Int32) (h : z_T) {h9 : z_T} (hv : fX5_choose_s rc o0 x1 x2 x3 h = some h9) : z_Mv G (z_S G) l yX5_choose cX5_choose 15 (rm_X5_choose (d + 1)) 0 0 [.ref (ad o0), .int x1, .int x2, .int x3] ad h h9 := by
  refine z_ofW hSK (by decide) (Nat.le_of_ble_eq_true rfl) ?_
  intro p e s m args below meth c ls hc hr hnm hB hl
  have hx := hc.1.1
  have hb := hc.1.2.1
  have hown := hc.1.2.2.2.1
  have hts := hc.1.2.2.2.2
  replace hc : z_C G (z_S G) ad (z_n h) p m c cX5_choose 15 s args RX5 meth := hc
  replace hown : s.vm.findClass RX5 = some m.cls := hown
  replace hl : lv_has ls 15 [(0, .ref (ad o0)), (1, .int x1), (2, .int x2), (3, .int x3)] := hl
  show W p l e (rm_X5_choose (d + 1)) s m args below meth c s.heap [] 0 0 (MQ below (z_Qv G ad h9 (z_n h) s.heap.size) args s 0 0 (z_A ad (z_n h) s.heap.size)) (F0 m 0 ls [])
  obtain ⟨rs, kt⟩ : ∃ rs : z_T, rs = h9 := ⟨_, rfl⟩
  generalize hn0 : z_n h = n0 at hc hB ⊢
  have b126 : ∀ (l5 : Int64) (l7 : Int64) (l9 : Int64) (x11 : Int32) (h : z_T) (H : Heap) (locs : List Loc) (ls : Array Slot), z_B G ad n0 s h H locs → lv_has ls 15 [(0, .ref (ad o0)), (1, .int x1), (5, .long l5), (7, .long l7), (9, .long l9), (11, .int x11)] → ∀ w, fX5_choose_b126 rc o0 x1 l5 l7 l9 x11 h = some w → w = h9 → W p l e (rm_X5_choose (d + 1)) s m args below meth c H locs 0 0 (MQ below (z_Qv G ad h9 n0 s.heap.size) args s 0 0 (z_A ad n0 s.heap.size)) (F0 m 126 ls []) := by
    intro l5 l7 l9 x11 h H locs ls hB hl w hv kb
    refine lv_aload_n hx hb dX5_choose_126 rfl (lv_at hl 0 rfl) ?_
    obtain ⟨g1, hv⟩ := y_gd_e hv
    obtain ⟨o2, eo2, hv⟩ := y_bi_e hv
    refine z_getR hc hB 5 4 g1 eo2 (by decide) (by decide) rfl (z_l1 hc qfX5_28) dX5_choose_127 ?_
    refine lv_iload_n hx hb dX5_choose_130 rfl (lv_at hl 1 rfl) ?_
    refine lv_iconst (v := (1 : Int32)) hx hb dX5_choose_131 (by decide) ?_
    obtain ⟨g3, hv⟩ := y_gd_e hv
    obtain ⟨i4, hv⟩ := y_gd_e hv
    obtain ⟨h5, eh5, hv⟩ := y_nm_e hv
    refine y_zast hc hB eh5 g3 i4 dX5_choose_132 (fun H locs hB => ?_)
    refine lv_aload_n hx hb dX5_choose_133 rfl (lv_at hl 0 rfl) ?_
    obtain ⟨o6, eo6, hv⟩ := y_bi_e hv
    refine z_getR hc hB 5 1 (by rw [eh5]; exact g1) eo6 (by decide) (by decide) rfl (z_l1 hc qfX5_16) dX5_choose_134 ?_
    refine lv_iload_n hx hb dX5_choose_137 rfl (lv_at hl 1 rfl) ?_
    refine lv_lload hx hb dX5_choose_138 (lv_at hl 4 rfl) ?_
    obtain ⟨g7, hv⟩ := y_gd_e hv
    obtain ⟨i8, hv⟩ := y_gd_e hv
    obtain ⟨h9, eh9, hv⟩ := y_nm_e hv
    refine y_last hc hB eh9 g7 i8 dX5_choose_140 (fun H locs hB => ?_)
    refine lv_aload_n hx hb dX5_choose_141 rfl (lv_at hl 0 rfl) ?_
    obtain ⟨o10, eo10, hv⟩ := y_bi_e hv
    refine z_getR hc hB 5 2 (by rw [eh9, eh5]; exact g1) eo10 (by decide) (by decide) rfl (z_l1 hc qfX5_20) dX5_choose_142 ?_
    refine lv_iload_n hx hb dX5_choose_145 rfl (lv_at hl 1 rfl) ?_
    refine lv_iload hx hb dX5_choose_146 (lv_at hl 5 rfl) ?_
    obtain ⟨g11, hv⟩ := y_gd_e hv
    obtain ⟨i12, hv⟩ := y_gd_e hv
    obtain ⟨h13, eh13, hv⟩ := y_nm_e hv
    refine y_iast hc hB eh13 g11 i12 dX5_choose_148 (fun H locs hB => ?_)
    refine lv_aload_n hx hb dX5_choose_149 rfl (lv_at hl 0 rfl) ?_
    obtain ⟨o14, eo14, hv⟩ := y_bi_e hv
    refine z_getR hc hB 5 3 (by rw [eh13, eh9, eh5]; exact g1) eo14 (by decide) (by decide) rfl (z_l1 hc qfX5_24) dX5_choose_150 ?_
    refine lv_iload_n hx hb dX5_choose_153 rfl (lv_at hl 1 rfl) ?_
    refine lv_lload hx hb dX5_choose_154 (lv_at hl 2 rfl) ?_
    refine lv_lload hx hb dX5_choose_156 (lv_at hl 3 rfl) ?_
    refine W.lcmp hx hb dX5_choose_158 ?_
    refine lv_if_gt (tgt := 166) hx hb dX5_choose_159 (by decide) (fun c15 => ?_) (fun c15 => ?_)
    · replace hv := y_br_t hv c15
      refine lv_iconst (v := (0 : Int32)) hx hb dX5_choose_166 (by decide) ?_
      obtain ⟨g16, hv⟩ := y_gd_e hv
      obtain ⟨i17, hv⟩ := y_gd_e hv
      obtain ⟨h18, eh18, hv⟩ := y_nm_e hv
      refine y_zast hc hB eh18 g16 i17 dX5_choose_167 (fun H locs hB => ?_)
      replace hv := Option.some.inj hv
      subst hv
      rw [← kb]
      exact z_vret hc hB hr dX5_choose_168
    · replace hv := y_br_f hv c15
      refine lv_iconst (v := (1 : Int32)) hx hb dX5_choose_162 (by decide) ?_
      refine lv_goto (tgt := 167) hx hb dX5_choose_163 (by decide) ?_
      obtain ⟨g19, hv⟩ := y_gd_e hv
      obtain ⟨i20, hv⟩ := y_gd_e hv
      obtain ⟨h21, eh21, hv⟩ := y_nm_e hv
      refine y_zast hc hB eh21 g19 i20 dX5_choose_167 (fun H locs hB => ?_)
      replace hv := Option.some.inj hv
      subst hv
      rw [← kb]
      exact z_vret hc hB hr dX5_choose_168
  have L56 : ∀ (l5 : Int64) (l7 : Int64) (nn56 : Nat) (l9 : Int64) (x11 : Int32) (x12 : Int32) (h : z_T) (H : Heap) (locs : List Loc) (ls : Array Slot), z_B G ad n0 s h H locs → lv_has ls 15 [(0, .ref (ad o0)), (1, .int x1), (2, .int x2), (3, .int x3), (5, .long l5), (7, .long l7), (9, .long l9), (11, .int x11), (12, .int x12)] → ∀ vv56, y_lpN (fun q : Int64 × Int32 × Int32 × z_T => fX5_choose_b56_i rc o0 x1 x2 x3 l5 l7 q.1 q.2.1 q.2.2.1 q.2.2.2) nn56 (l9, x11, x12, h) = some vv56 → vv56 = h9 → W p l e (rm_X5_choose (d + 1)) s m args below meth c H locs 0 0 (MQ below (z_Qv G ad h9 n0 s.heap.size) args s 0 0 (z_A ad n0 s.heap.size)) (F0 m 56 ls []) := by
    intro l5 l7 nn56
    induction nn56 with
    | zero => intro l9 x11 x12 h H locs ls hB hl vv56 hv kv56; exact absurd hv (fun q => y_lpN_0 q)
    | succ nn56 ih56 =>
      intro l9 x11 x12 h H locs ls hB hl vv56 hv kv56
      obtain ⟨w, hq, kw56⟩ := y_lpN_e hv
      clear hv
      have hv : fX5_choose_b56_i rc o0 x1 x2 x3 l5 l7 l9 x11 x12 h = some w := hq
      clear hq
      have b120 : ∀ (l9 : Int64) (x11 : Int32) (x12 : Int32) (h : z_T) (H : Heap) (locs : List Loc) (ls : Array Slot), z_B G ad n0 s h H locs → lv_has ls 15 [(0, .ref (ad o0)), (1, .int x1), (2, .int x2), (3, .int x3), (5, .long l5), (7, .long l7), (9, .long l9), (11, .int x11), (12, .int x12)] → ∀ w, fX5_choose_b120 rc o0 x1 x2 x3 l5 l7 l9 x11 x12 h = some w → y_lq (fun q : Int64 × Int32 × Int32 × z_T => fX5_choose_b56_i rc o0 x1 x2 x3 l5 l7 q.1 q.2.1 q.2.2.1 q.2.2.2) nn56 vv56 w → W p l e (rm_X5_choose (d + 1)) s m args below meth c H locs 0 0 (MQ below (z_Qv G ad h9 n0 s.heap.size) args s 0 0 (z_A ad n0 s.heap.size)) (F0 m 120 ls []) := by
        intro l9 x11 x12 h H locs ls hB hl w hv kw56
        obtain ⟨v22, ev22, hv⟩ := y_nm_e hv
        refine lv_iinc (v := v22) (lv' := [(12, .int v22), (0, .ref (ad o0)), (1, .int x1), (2, .int x2), (3, .int x3), (5, .long l5), (7, .long l7), (9, .long l9), (11, .int x11)]) hx hb dX5_choose_120 hl (k := 8) rfl (by rw [ev22]; rfl) (by decide) rfl (fun ls hl => ?_)
        refine lv_goto (tgt := 56) hx hb dX5_choose_123 (by decide) ?_
        replace hv := Option.some.inj hv
        subst hv
        exact ih56 l9 x11 v22 h _ _ _ hB (lv_sub hl [1, 2, 3, 4, 5, 6, 7, 8, 0] rfl) _ kw56 kv56
      refine lv_iload hx hb dX5_choose_56 (lv_at hl 8 rfl) ?_
      refine lv_aload_n hx hb dX5_choose_58 rfl (lv_at hl 0 rfl) ?_
      obtain ⟨g23, hv⟩ := y_gd_e hv
      obtain ⟨o24, eo24, hv⟩ := y_bi_e hv
      refine z_getR hc hB 5 5 g23 eo24 (by decide) (by decide) rfl (z_l1 hc qfX5_31) dX5_choose_59 ?_
      obtain ⟨g25, hv⟩ := y_gd_e hv
      refine z_getI hc hB 0 1 g25 (by decide) (by decide) rfl (z_l2 hc qfX5_35) dX5_choose_62 ?_
      refine lv_icmp_ge (tgt := 126) hx hb dX5_choose_65 (by decide) (fun c26 => ?_) (fun c26 => ?_)
      · replace hv := y_br_t hv c26
        obtain ⟨t27, hq, ew⟩ := y_mp_e hv
        clear hv; subst ew
        replace kw56 : t27 = _ := kw56
        subst kw56
        have hv := hq
        clear hq
        exact b126 l5 l7 l9 x11 h _ _ _ hB (lv_sub hl [0, 1, 4, 5, 6, 7] rfl) _ hv kv56
      · replace hv := y_br_f hv c26
        refine lv_iload_n hx hb dX5_choose_68 rfl (lv_at hl 3 rfl) ?_
        refine lv_if_le (tgt := 126) hx hb dX5_choose_69 (by decide) (fun c28 => ?_) (fun c28 => ?_)
        · replace hv := y_br_t hv c28
          obtain ⟨t29, hq, ew⟩ := y_mp_e hv
          clear hv; subst ew
          replace kw56 : t29 = _ := kw56
          subst kw56
          have hv := hq
          clear hq
          exact b126 l5 l7 l9 x11 h _ _ _ hB (lv_sub hl [0, 1, 4, 5, 6, 7] rfl) _ hv kv56
        · replace hv := y_br_f hv c28
          refine lv_iload_n hx hb dX5_choose_72 rfl (lv_at hl 2 rfl) ?_
          refine lv_iconst (v := (1 : Int32)) hx hb dX5_choose_73 (by decide) ?_
          refine lv_iload hx hb dX5_choose_74 (lv_at hl 8 rfl) ?_
          refine lv_ishl hx hb dX5_choose_76 ?_
          refine lv_iand hx hb dX5_choose_77 ?_
          refine lv_if_ne (tgt := 120) hx hb dX5_choose_78 (by decide) (fun c30 => ?_) (fun c30 => ?_)
          · replace hv := y_br_f hv c30
            exact b120 l9 x11 x12 h _ _ _ hB (lv_sub hl [0, 1, 2, 3, 4, 5, 6, 7, 8] rfl) _ hv kw56
          · replace hv := y_br_t hv c30
            refine lv_aload_n hx hb dX5_choose_81 rfl (lv_at hl 0 rfl) ?_
            refine lv_iload_n hx hb dX5_choose_82 rfl (lv_at hl 1 rfl) ?_
            refine lv_iload_n hx hb dX5_choose_83 rfl (lv_at hl 2 rfl) ?_
            refine lv_iload_n hx hb dX5_choose_84 rfl (lv_at hl 3 rfl) ?_
            refine lv_iload hx hb dX5_choose_85 (lv_at hl 8 rfl) ?_
            refine lv_iconst (v := (1 : Int32)) hx hb dX5_choose_87 (by decide) ?_
            obtain ⟨⟨r33, h36⟩, c31, hv⟩ := y_bi_e hv
            refine z_thL hc hB (z_runV hc hB 5 (mh_X5_costBehind hSK l ad d rc hrc o0 x1 x2 x3 x12 (1 : Int32) h c31) md_X5_costBehind qmX5_81 g23 (by decide) rfl rfl rfl ⟨by simp only [rm_X5_choose, rm_X5_costBehind]; omega, by simp only [rm_X5_choose, rm_X5_costBehind]; omega⟩ rfl hl.1 rfl (Nat.le_of_ble_eq_true rfl) dX5_choose_88 ⟨Nat.le_of_ble_eq_true rfl, Nat.le_of_ble_eq_true rfl⟩) (fun H locs hB => ?_)
            refine lv_aload_n hx hb dX5_choose_91 rfl (lv_at hl 0 rfl) ?_
            refine lv_iload_n hx hb dX5_choose_92 rfl (lv_at hl 1 rfl) ?_
            refine lv_iload_n hx hb dX5_choose_93 rfl (lv_at hl 2 rfl) ?_
            refine lv_iload_n hx hb dX5_choose_94 rfl (lv_at hl 3 rfl) ?_
            refine lv_iload hx hb dX5_choose_95 (lv_at hl 8 rfl) ?_
            refine lv_iconst (v := (0 : Int32)) hx hb dX5_choose_97 (by decide) ?_
            obtain ⟨g43, hv⟩ := y_gd_e hv
            obtain ⟨⟨r39, h42⟩, c37, hv⟩ := y_bi_e hv
            refine z_thL hc hB (z_runV hc hB 5 (mh_X5_costBehind hSK l ad d rc hrc o0 x1 x2 x3 x12 (0 : Int32) h36 c37) md_X5_costBehind qmX5_81 g43 (by decide) rfl rfl rfl ⟨by simp only [rm_X5_choose, rm_X5_costBehind]; omega, by simp only [rm_X5_choose, rm_X5_costBehind]; omega⟩ rfl hl.1 rfl (Nat.le_of_ble_eq_true rfl) dX5_choose_98 ⟨Nat.le_of_ble_eq_true rfl, Nat.le_of_ble_eq_true rfl⟩) (fun H locs hB => ?_)
            refine lv_ladd hx hb dX5_choose_101 ?_
            obtain ⟨v44, ev44, hv⟩ := y_nm_e hv
            rw [← ev44]
            refine lv_lstore (lv' := [(13, .long v44), (0, .ref (ad o0)), (1, .int x1), (2, .int x2), (3, .int x3), (5, .long l5), (7, .long l7), (9, .long l9), (11, .int x11), (12, .int x12)]) hx hb dX5_choose_102 hl (by decide) rfl (fun ls hl => ?_)
            refine lv_lload hx hb dX5_choose_104 (lv_at hl 0 rfl) ?_
            refine lv_lload hx hb dX5_choose_106 (lv_at hl 7 rfl) ?_
            refine W.lcmp hx hb dX5_choose_108 ?_
            refine lv_if_ge (tgt := 120) hx hb dX5_choose_109 (by decide) (fun c45 => ?_) (fun c45 => ?_)
            · replace hv := y_br_t hv c45
              exact b120 l9 x11 x12 h42 _ _ _ hB (lv_sub hl [1, 2, 3, 4, 5, 6, 7, 8, 9] rfl) _ hv kw56
            · replace hv := y_br_f hv c45
              refine lv_lload hx hb dX5_choose_112 (lv_at hl 0 rfl) ?_
              refine lv_lstore (lv' := [(9, .long v44), (13, .long v44), (0, .ref (ad o0)), (1, .int x1), (2, .int x2), (3, .int x3), (5, .long l5), (7, .long l7), (11, .int x11), (12, .int x12)]) hx hb dX5_choose_114 hl (by decide) rfl (fun ls hl => ?_)
              refine lv_iload hx hb dX5_choose_116 (lv_at hl 9 rfl) ?_
              refine lv_istore (lv' := [(11, .int x12), (9, .long v44), (13, .long v44), (0, .ref (ad o0)), (1, .int x1), (2, .int x2), (3, .int x3), (5, .long l5), (7, .long l7), (12, .int x12)]) hx hb dX5_choose_118 hl (by decide) rfl (fun ls hl => ?_)
              exact b120 v44 x12 x12 h42 _ _ _ hB (lv_sub hl [3, 4, 5, 6, 7, 8, 1, 0, 9] rfl) _ hv kw56
  rw [← kt] at hv
  refine lv_iload_n hx hb dX5_choose_0 rfl (lv_at hl 2 rfl) ?_
  obtain ⟨r47, c46, hv⟩ := y_bi_e hv
  refine z_thI hc hB (z_runS hc hB (mm_J6_bitCount_0f7a4 hSK l ad x2 h c46) md_J6_bitCount_0f7a4 qmX5_56 rfl rfl ⟨by simp only [rm_X5_choose, rm_J6_bitCount_0f7a4]; omega, by simp only [rm_X5_choose, rm_J6_bitCount_0f7a4]; omega⟩ rfl hl.1 rfl (Nat.le_of_ble_eq_true rfl) dX5_choose_1 ⟨Nat.le_of_ble_eq_true rfl, Nat.le_of_ble_eq_true rfl⟩) (fun H locs hB => ?_)
  refine lv_istore (lv' := [(4, .int r47), (0, .ref (ad o0)), (1, .int x1), (2, .int x2), (3, .int x3)]) hx hb dX5_choose_4 hl (by decide) rfl (fun ls hl => ?_)
  refine lv_iload_n hx hb dX5_choose_6 rfl (lv_at hl 2 rfl) ?_
  obtain ⟨r52, c51, hv⟩ := y_bi_e hv
  refine z_thI hc hB (z_runS hc hB (mm_X5_isState hSK l ad x1 h c51) md_X5_isState qmX5_61 rfl rfl ⟨by simp only [rm_X5_choose, rm_X5_isState]; omega, by simp only [rm_X5_choose, rm_X5_isState]; omega⟩ rfl hl.1 rfl (Nat.le_of_ble_eq_true rfl) dX5_choose_7 ⟨Nat.le_of_ble_eq_true rfl, Nat.le_of_ble_eq_true rfl⟩) (fun H locs hB => ?_)
  refine lv_if_eq (tgt := 19) hx hb dX5_choose_10 (by decide) (fun c56 => ?_) (fun c56 => ?_)
  · replace hv := y_br_t hv c56
    replace hv := Option.some.inj hv
    subst hv
    rw [← kt]
    exact z_vret hc hB hr dX5_choose_19
  · replace hv := y_br_f hv c56
    refine lv_iload hx hb dX5_choose_13 (lv_at hl 0 rfl) ?_
    refine lv_iconst (v := (4 : Int32)) hx hb dX5_choose_15 (by decide) ?_
    refine lv_icmp_le (tgt := 20) hx hb dX5_choose_16 (by decide) (fun c57 => ?_) (fun c57 => ?_)
    · replace hv := y_br_t hv c57
      refine lv_aload_n hx hb dX5_choose_20 rfl (lv_at hl 1 rfl) ?_
      refine lv_iload hx hb dX5_choose_21 (lv_at hl 0 rfl) ?_
      obtain ⟨g63, hv⟩ := y_gd_e hv
      obtain ⟨r60, c58, hv⟩ := y_bi_e hv
      refine z_thL hc hB (z_runV hc hB 5 (mm_X5_costOfUp hSK l ad o0 r47 h c58) md_X5_costOfUp qmX5_65 g63 (by decide) rfl rfl rfl ⟨by simp only [rm_X5_choose, rm_X5_costOfUp]; omega, by simp only [rm_X5_choose, rm_X5_costOfUp]; omega⟩ rfl hl.1 rfl (Nat.le_of_ble_eq_true rfl) dX5_choose_23 ⟨Nat.le_of_ble_eq_true rfl, Nat.le_of_ble_eq_true rfl⟩) (fun H locs hB => ?_)
      refine lv_lstore (lv' := [(5, .long r60), (4, .int r47), (0, .ref (ad o0)), (1, .int x1), (2, .int x2), (3, .int x3)]) hx hb dX5_choose_26 hl (by decide) rfl (fun ls hl => ?_)
      refine lv_aload_n hx hb dX5_choose_28 rfl (lv_at hl 2 rfl) ?_
      refine lv_iload hx hb dX5_choose_29 (lv_at hl 1 rfl) ?_
      obtain ⟨r66, c64, hv⟩ := y_bi_e hv
      refine z_thL hc hB (z_runV hc hB 5 (mm_X5_costOfBed hSK l ad o0 r47 h c64) md_X5_costOfBed qmX5_69 g63 (by decide) rfl rfl rfl ⟨by simp only [rm_X5_choose, rm_X5_costOfBed]; omega, by simp only [rm_X5_choose, rm_X5_costOfBed]; omega⟩ rfl hl.1 rfl (Nat.le_of_ble_eq_true rfl) dX5_choose_31 ⟨Nat.le_of_ble_eq_true rfl, Nat.le_of_ble_eq_true rfl⟩) (fun H locs hB => ?_)
      refine lv_lstore (lv' := [(7, .long r66), (5, .long r60), (4, .int r47), (0, .ref (ad o0)), (1, .int x1), (2, .int x2), (3, .int x3)]) hx hb dX5_choose_34 hl (by decide) rfl (fun ls hl => ?_)
      refine lv_lload hx hb dX5_choose_36 (lv_at hl 1 rfl) ?_
      refine lv_lload hx hb dX5_choose_38 (lv_at hl 0 rfl) ?_
      refine va_mmin_long hx hb (hc.1.2.2.1.trans hl.1.symm) hown (hts _ qmX5_72) (hts _ q_minl_st) (hts _ q_mathIni) (hts _ q_minl_cd) (Nat.le_of_ble_eq_true rfl) (Nat.le_of_ble_eq_true rfl) (Nat.le_of_ble_eq_true rfl) (Nat.le_of_ble_eq_true rfl) dX5_choose_40 ?_
      refine lv_iload_n hx hb dX5_choose_43 rfl (lv_at hl 6 rfl) ?_
      obtain ⟨r71, c69, hv⟩ := y_bi_e hv
      refine z_thL hc hB (z_runSN hc hB (mm_X11_power hSK l ad x3 h c69) md_X11_power qmX5_78 rfl rfl ⟨by simp only [rm_X5_choose, rm_X11_power]; omega, by simp only [rm_X5_choose, rm_X11_power]; omega⟩ rfl hl.1 rfl (Nat.le_of_ble_eq_true rfl) dX5_choose_44 ⟨Nat.le_of_ble_eq_true rfl, Nat.le_of_ble_eq_true rfl⟩) (fun H locs hB => ?_)
      refine lv_lmul hx hb dX5_choose_47 ?_
      obtain ⟨v74, ev74, hv⟩ := y_nm_e hv
      rw [← ev74]
      refine lv_lstore (lv' := [(9, .long v74), (7, .long r66), (5, .long r60), (4, .int r47), (0, .ref (ad o0)), (1, .int x1), (2, .int x2), (3, .int x3)]) hx hb dX5_choose_48 hl (by decide) rfl (fun ls hl => ?_)
      refine lv_iconst (v := (-1 : Int32)) hx hb dX5_choose_50 (by decide) ?_
      refine lv_istore (lv' := [(11, .int (-1 : Int32)), (9, .long v74), (7, .long r66), (5, .long r60), (4, .int r47), (0, .ref (ad o0)), (1, .int x1), (2, .int x2), (3, .int x3)]) hx hb dX5_choose_51 hl (by decide) rfl (fun ls hl => ?_)
      refine lv_iconst (v := (0 : Int32)) hx hb dX5_choose_53 (by decide) ?_
      refine lv_istore (lv' := [(12, .int (0 : Int32)), (11, .int (-1 : Int32)), (9, .long v74), (7, .long r66), (5, .long r60), (4, .int r47), (0, .ref (ad o0)), (1, .int x1), (2, .int x2), (3, .int x3)]) hx hb dX5_choose_54 hl (by decide) rfl (fun ls hl => ?_)
      obtain ⟨n, hv⟩ := y_lp_e hv
      exact L56 r60 r66 n v74 (-1 : Int32) (0 : Int32) h _ _ _ hB (lv_sub hl [6, 7, 8, 9, 4, 3, 2, 1, 0] rfl) _ hv kt
    · replace hv := y_br_f hv c57
      replace hv := Option.some.inj hv
      subst hv
      rw [← kt]
      exact z_vret hc hB hr dX5_choose_19
noncomputable def fX5_choose : Nat → Nat → Int32 → Int32 → Int32 → z_T → Option (z_T)
  | 0, _, _, _, _, _ => none
  | d + 1, o0, x1, x2, x3, h => fX5_choose_s (fX5_choose d) o0 x1 x2 x3 h
theorem mm_X5_choose {G : z_Gt} (hSK : z_SK (z_S G)) (l : Launch) (ad : Nat → Nat) : ∀ (d : Nat) (o0 : Nat) (x1 : Int32) (x2 : Int32) (x3 : Int32) (h : z_T) {h9 : z_T}, fX5_choose d o0 x1 x2 x3 h = some h9 → z_Mv G (z_S G) l yX5_choose cX5_choose 15 (rm_X5_choose d) 0 0 [.ref (ad o0), .int x1, .int x2, .int x3] ad h h9
  | 0, o0, x1, x2, x3, h, _, hv => by cases hv
  | d + 1, o0, x1, x2, x3, h, _, hv => mh_X5_choose hSK l ad d (fX5_choose d) (fun o0 x1 x2 x3 h => fun hv => mm_X5_choose hSK l ad d o0 x1 x2 x3 h hv) o0 x1 x2 x3 h hv
theorem qmX5_41 : Cond.methodLink RX5 41 yX0_weightOf ∈ z_ws := List.mem_filter.mpr ⟨List.mem_append_right _ (List.mem_of_getElem? (i := 653) (by decide +kernel)), rfl⟩
theorem dX5_open_0 : decode cX5_open 0 = .ok (.aload_n 0, 1) := by decide +kernel
theorem dX5_open_1 : decode cX5_open 1 = .ok (.aload_n 1, 1) := by decide +kernel
theorem dX5_open_2 : decode cX5_open 2 = .ok (.putfield 31, 3) := by decide +kernel
theorem dX5_open_5 : decode cX5_open 5 = .ok (.iconst 0, 1) := by decide +kernel
theorem dX5_open_6 : decode cX5_open 6 = .ok (.istore_n 3, 1) := by decide +kernel
theorem dX5_open_7 : decode cX5_open 7 = .ok (.iload_n 3, 1) := by decide +kernel
theorem dX5_open_8 : decode cX5_open 8 = .ok (.aload_n 0, 1) := by decide +kernel
theorem dX5_open_9 : decode cX5_open 9 = .ok (.getfield 28, 3) := by decide +kernel
theorem dX5_open_12 : decode cX5_open 12 = .ok (.arraylength, 1) := by decide +kernel
theorem dX5_open_13 : decode cX5_open 13 = .ok (.if_icmp .ge 16, 3) := by decide +kernel
theorem dX5_open_16 : decode cX5_open 16 = .ok (.aload_n 0, 1) := by decide +kernel
theorem dX5_open_17 : decode cX5_open 17 = .ok (.getfield 28, 3) := by decide +kernel
theorem dX5_open_20 : decode cX5_open 20 = .ok (.iload_n 3, 1) := by decide +kernel
theorem dX5_open_21 : decode cX5_open 21 = .ok (.iconst 0, 1) := by decide +kernel
theorem dX5_open_22 : decode cX5_open 22 = .ok (.bastore, 1) := by decide +kernel
theorem dX5_open_23 : decode cX5_open 23 = .ok (.iinc 3 1, 3) := by decide +kernel
theorem dX5_open_26 : decode cX5_open 26 = .ok (.goto (-19), 3) := by decide +kernel
theorem dX5_open_29 : decode cX5_open 29 = .ok (.iconst 0, 1) := by decide +kernel
theorem dX5_open_30 : decode cX5_open 30 = .ok (.istore_n 3, 1) := by decide +kernel
theorem dX5_open_31 : decode cX5_open 31 = .ok (.iload_n 3, 1) := by decide +kernel
theorem dX5_open_32 : decode cX5_open 32 = .ok (.bipush 7, 2) := by decide +kernel
theorem dX5_open_34 : decode cX5_open 34 = .ok (.if_icmp .ge 26, 3) := by decide +kernel
theorem dX5_open_37 : decode cX5_open 37 = .ok (.aload_n 0, 1) := by decide +kernel
theorem dX5_open_38 : decode cX5_open 38 = .ok (.getfield 13, 3) := by decide +kernel
theorem dX5_open_41 : decode cX5_open 41 = .ok (.iconst 0, 1) := by decide +kernel
theorem dX5_open_42 : decode cX5_open 42 = .ok (.aaload, 1) := by decide +kernel
theorem dX5_open_43 : decode cX5_open 43 = .ok (.iload_n 3, 1) := by decide +kernel
theorem dX5_open_44 : decode cX5_open 44 = .ok (.aload_n 0, 1) := by decide +kernel
theorem dX5_open_45 : decode cX5_open 45 = .ok (.getfield 31, 3) := by decide +kernel
theorem dX5_open_48 : decode cX5_open 48 = .ok (.iload_n 3, 1) := by decide +kernel
theorem dX5_open_49 : decode cX5_open 49 = .ok (.invokevirtual 41, 3) := by decide +kernel
theorem dX5_open_52 : decode cX5_open 52 = .ok (.i2l, 1) := by decide +kernel
theorem dX5_open_53 : decode cX5_open 53 = .ok (.lastore, 1) := by decide +kernel
theorem dX5_open_54 : decode cX5_open 54 = .ok (.iinc 3 1, 3) := by decide +kernel
theorem dX5_open_57 : decode cX5_open 57 = .ok (.goto (-26), 3) := by decide +kernel
theorem dX5_open_60 : decode cX5_open 60 = .ok (.aload_n 0, 1) := by decide +kernel
theorem dX5_open_61 : decode cX5_open 61 = .ok (.iconst 0, 1) := by decide +kernel
theorem dX5_open_62 : decode cX5_open 62 = .ok (.iconst 0, 1) := by decide +kernel
theorem dX5_open_63 : decode cX5_open 63 = .ok (.iload_n 2, 1) := by decide +kernel
theorem dX5_open_64 : decode cX5_open 64 = .ok (.invokevirtual 45, 3) := by decide +kernel
theorem dX5_open_67 : decode cX5_open 67 = .ok (.return_, 1) := by decide +kernel
abbrev rm_X5_open : Room := { frames := 18, cells := 0, slots := 0, locals := 579 }
noncomputable def fX5_open_b31_i (o0 : Nat) (x2 : Int32) (x3 : Int32) (h : z_T) : Option ((Int32 × z_T) ⊕ (z_T)) :=
  y_br ((7 : Int32) ≤ x3)
    (y_mp <|
    y_gd (z_ok h o0 5) <|
    y_bi (fX5_choose 6 o0 (0 : Int32) (0 : Int32) x2 h) fun h4 =>
    some h4)
    (y_gd (z_ok h o0 5) <|
    y_bi (z_R h o0 0) fun ob7 =>
    y_gd (z_ok h ob7 18) <|
    y_gd (z_ix (0 : Int32) (z_N h ob7)) <|
    y_bi (z_R h ob7 (0 : Int32).toNatClampNeg) fun ob10 =>
    y_bi (z_R h o0 5) fun ob11 =>
    y_gd (z_ok h ob11 0) <|
    y_bi (fX0_weightOf ob11 x3 h) fun r13 =>
    y_gd (z_ok h ob10 14) <|
    y_gd (z_ix x3 (z_N h ob10)) <|
    y_nm (z_sL h ob10 x3.toNatClampNeg ((r13).toInt64)) fun h20 =>
    y_nm (x3 + 1) fun v21 =>
    some (.inl (v21, h20)))
noncomputable def fX5_open_b31 (o0 : Nat) (x2 : Int32) (x3 : Int32) (h : z_T) : Option (z_T) := y_lp (fun q : Int32 × z_T => fX5_open_b31_i o0 x2 q.1 q.2) (x3, h)
noncomputable def fX5_open_b7_i (o0 : Nat) (x2 : Int32) (x3 : Int32) (h : z_T) : Option ((Int32 × z_T) ⊕ (z_T)) :=
  y_gd (z_ok h o0 5) <|
  y_bi (z_R h o0 4) fun ob23 =>
  y_gd (z_ok h ob23 15) <|
  y_br ((nI (z_N h ob23)) ≤ x3)
    (y_mp <|
    fX5_open_b31 o0 x2 (0 : Int32) h)
    (y_gd (z_ix x3 (z_N h ob23)) <|
    y_nm (z_sI h ob23 x3.toNatClampNeg (vp_nar .boolean (0 : Int32))) fun h28 =>
    y_nm (x3 + 1) fun v29 =>
    some (.inl (v29, h28)))
noncomputable def fX5_open_b7 (o0 : Nat) (x2 : Int32) (x3 : Int32) (h : z_T) : Option (z_T) := y_lp (fun q : Int32 × z_T => fX5_open_b7_i o0 x2 q.1 q.2) (x3, h)
noncomputable def fX5_open (o0 : Nat) (o1 : Nat) (x2 : Int32) (h : z_T) : Option (z_T) :=
  y_gd (z_ok h o0 5) <|
  y_gd (z_ok h o1 0) <|
  y_nm (z_sR h o0 5 (some o1)) fun h32 =>
  fX5_open_b7 o0 x2 (0 : Int32) h32
set_option maxHeartbeats 4000000 in
set_option maxRecDepth 100000 in
theorem mm_X5_open {G : z_Gt} (hSK : z_SK (z_S G)) (l : Launch) (ad : Nat → Nat) (o0 : Nat) (o1 : Nat) (x2 : Int32) (h : z_T) {h9 : z_T} (hv : fX5_open o0 o1 x2 h = some h9) : z_Mv G (z_S G) l yX5_open cX5_open 4 rm_X5_open 0 0 [.ref (ad o0), .ref (ad o1), .int x2] ad h h9 := by
  refine z_ofW hSK (by decide) (Nat.le_of_ble_eq_true rfl) ?_
  intro p e s m args below meth c ls hc hr hnm hB hl
  have hx := hc.1.1
  have hb := hc.1.2.1
  have hown := hc.1.2.2.2.1
  have hts := hc.1.2.2.2.2
  replace hc : z_C G (z_S G) ad (z_n h) p m c cX5_open 4 s args RX5 meth := hc
  replace hown : s.vm.findClass RX5 = some m.cls := hown
  replace hl : lv_has ls 4 [(0, .ref (ad o0)), (1, .ref (ad o1)), (2, .int x2)] := hl
  show W p l e rm_X5_open s m args below meth c s.heap [] 0 0 (MQ below (z_Qv G ad h9 (z_n h) s.heap.size) args s 0 0 (z_A ad (z_n h) s.heap.size)) (F0 m 0 ls [])
  obtain ⟨rs, kt⟩ : ∃ rs : z_T, rs = h9 := ⟨_, rfl⟩
  generalize hn0 : z_n h = n0 at hc hB ⊢
  have L31 : ∀ (nn31 : Nat) (x3 : Int32) (h : z_T) (H : Heap) (locs : List Loc) (ls : Array Slot), z_B G ad n0 s h H locs → lv_has ls 4 [(0, .ref (ad o0)), (2, .int x2), (3, .int x3)] → ∀ vv31, y_lpN (fun q : Int32 × z_T => fX5_open_b31_i o0 x2 q.1 q.2) nn31 (x3, h) = some vv31 → vv31 = h9 → W p l e rm_X5_open s m args below meth c H locs 0 0 (MQ below (z_Qv G ad h9 n0 s.heap.size) args s 0 0 (z_A ad n0 s.heap.size)) (F0 m 31 ls []) := by
    intro nn31
    induction nn31 with
    | zero => intro x3 h H locs ls hB hl vv31 hv kv31; exact absurd hv (fun q => y_lpN_0 q)
    | succ nn31 ih31 =>
      intro x3 h H locs ls hB hl vv31 hv kv31
      obtain ⟨w, hq, kw31⟩ := y_lpN_e hv
      clear hv
      have hv : fX5_open_b31_i o0 x2 x3 h = some w := hq
      clear hq
      refine lv_iload_n hx hb dX5_open_31 rfl (lv_at hl 2 rfl) ?_
      refine lv_bipush (v := (7 : Int32)) hx hb dX5_open_32 (by decide) ?_
      refine lv_icmp_ge (tgt := 60) hx hb dX5_open_34 (by decide) (fun c1 => ?_) (fun c1 => ?_)
      · replace hv := y_br_t hv c1
        obtain ⟨t2, hq, ew⟩ := y_mp_e hv
        clear hv; subst ew
        replace kw31 : t2 = _ := kw31
        subst kw31
        have hv := hq
        clear hq
        refine lv_aload_n hx hb dX5_open_60 rfl (lv_at hl 0 rfl) ?_
        refine lv_iconst (v := (0 : Int32)) hx hb dX5_open_61 (by decide) ?_
        refine lv_iconst (v := (0 : Int32)) hx hb dX5_open_62 (by decide) ?_
        refine lv_iload_n hx hb dX5_open_63 rfl (lv_at hl 1 rfl) ?_
        obtain ⟨g5, hv⟩ := y_gd_e hv
        obtain ⟨h4, c3, hv⟩ := y_bi_e hv
        refine z_thV hc hB (z_runV hc hB 5 (mm_X5_choose hSK l ad 6 o0 (0 : Int32) (0 : Int32) x2 h c3) md_X5_choose qmX5_45 g5 (by decide) rfl rfl rfl ⟨Nat.le_of_ble_eq_true rfl, Nat.le_of_ble_eq_true rfl⟩ rfl hl.1 rfl (Nat.le_of_ble_eq_true rfl) dX5_open_64 ⟨Nat.le_of_ble_eq_true rfl, Nat.le_of_ble_eq_true rfl⟩) (fun H locs hB => ?_)
        replace hv := Option.some.inj hv
        subst hv
        rw [← kv31]
        exact z_vret hc hB hr dX5_open_67
      · replace hv := y_br_f hv c1
        refine lv_aload_n hx hb dX5_open_37 rfl (lv_at hl 0 rfl) ?_
        obtain ⟨g6, hv⟩ := y_gd_e hv
        obtain ⟨ob7, eob7, hv⟩ := y_bi_e hv
        refine z_getR hc hB 5 0 g6 eob7 (by decide) (by decide) rfl (z_l1 hc qfX5_13) dX5_open_38 ?_
        refine lv_iconst (v := (0 : Int32)) hx hb dX5_open_41 (by decide) ?_
        obtain ⟨g8, hv⟩ := y_gd_e hv
        obtain ⟨i9, hv⟩ := y_gd_e hv
        obtain ⟨ob10, eob10, hv⟩ := y_bi_e hv
        refine z_aald hc hB 18 (by decide) (by decide) rfl g8 i9 eob10 dX5_open_42 ?_
        refine lv_iload_n hx hb dX5_open_43 rfl (lv_at hl 2 rfl) ?_
        refine lv_aload_n hx hb dX5_open_44 rfl (lv_at hl 0 rfl) ?_
        obtain ⟨ob11, eob11, hv⟩ := y_bi_e hv
        refine z_getR hc hB 5 5 g6 eob11 (by decide) (by decide) rfl (z_l1 hc qfX5_31) dX5_open_45 ?_
        refine lv_iload_n hx hb dX5_open_48 rfl (lv_at hl 2 rfl) ?_
        obtain ⟨g17, hv⟩ := y_gd_e hv
        obtain ⟨r13, c12, hv⟩ := y_bi_e hv
        refine z_thI hc hB (z_runV hc hB 0 (mm_X0_weightOf hSK l ad ob11 x3 h c12) md_X0_weightOf qmX5_41 g17 (by decide) rfl rfl rfl ⟨Nat.le_of_ble_eq_true rfl, Nat.le_of_ble_eq_true rfl⟩ rfl hl.1 rfl (Nat.le_of_ble_eq_true rfl) dX5_open_49 ⟨Nat.le_of_ble_eq_true rfl, Nat.le_of_ble_eq_true rfl⟩) (fun H locs hB => ?_)
        refine lv_i2l hx hb dX5_open_52 rfl ?_
        obtain ⟨g18, hv⟩ := y_gd_e hv
        obtain ⟨i19, hv⟩ := y_gd_e hv
        obtain ⟨h20, eh20, hv⟩ := y_nm_e hv
        refine y_last hc hB eh20 g18 i19 dX5_open_53 (fun H locs hB => ?_)
        obtain ⟨v21, ev21, hv⟩ := y_nm_e hv
        refine lv_iinc (v := v21) (lv' := [(3, .int v21), (0, .ref (ad o0)), (2, .int x2)]) hx hb dX5_open_54 hl (k := 2) rfl (by rw [ev21]; rfl) (by decide) rfl (fun ls hl => ?_)
        refine lv_goto (tgt := 31) hx hb dX5_open_57 (by decide) ?_
        replace hv := Option.some.inj hv
        subst hv
        exact ih31 v21 h20 _ _ _ hB (lv_sub hl [1, 2, 0] rfl) _ kw31 kv31
  have L7 : ∀ (nn7 : Nat) (x3 : Int32) (h : z_T) (H : Heap) (locs : List Loc) (ls : Array Slot), z_B G ad n0 s h H locs → lv_has ls 4 [(0, .ref (ad o0)), (2, .int x2), (3, .int x3)] → ∀ vv7, y_lpN (fun q : Int32 × z_T => fX5_open_b7_i o0 x2 q.1 q.2) nn7 (x3, h) = some vv7 → vv7 = h9 → W p l e rm_X5_open s m args below meth c H locs 0 0 (MQ below (z_Qv G ad h9 n0 s.heap.size) args s 0 0 (z_A ad n0 s.heap.size)) (F0 m 7 ls []) := by
    intro nn7
    induction nn7 with
    | zero => intro x3 h H locs ls hB hl vv7 hv kv7; exact absurd hv (fun q => y_lpN_0 q)
    | succ nn7 ih7 =>
      intro x3 h H locs ls hB hl vv7 hv kv7
      obtain ⟨w, hq, kw7⟩ := y_lpN_e hv
      clear hv
      have hv : fX5_open_b7_i o0 x2 x3 h = some w := hq
      clear hq
      refine lv_iload_n hx hb dX5_open_7 rfl (lv_at hl 2 rfl) ?_
      refine lv_aload_n hx hb dX5_open_8 rfl (lv_at hl 0 rfl) ?_
      obtain ⟨g22, hv⟩ := y_gd_e hv
      obtain ⟨ob23, eob23, hv⟩ := y_bi_e hv
      refine z_getR hc hB 5 4 g22 eob23 (by decide) (by decide) rfl (z_l1 hc qfX5_28) dX5_open_9 ?_
      obtain ⟨g24, hv⟩ := y_gd_e hv
      refine z_alen hc hB 15 (by decide) (by decide) g24 dX5_open_12 ?_
      refine lv_icmp_ge (tgt := 29) hx hb dX5_open_13 (by decide) (fun c25 => ?_) (fun c25 => ?_)
      · replace hv := y_br_t hv c25
        obtain ⟨t26, hq, ew⟩ := y_mp_e hv
        clear hv; subst ew
        replace kw7 : t26 = _ := kw7
        subst kw7
        have hv := hq
        clear hq
        refine lv_iconst (v := (0 : Int32)) hx hb dX5_open_29 (by decide) ?_
        refine lv_istore_n (lv' := [(3, .int (0 : Int32)), (0, .ref (ad o0)), (2, .int x2)]) hx hb dX5_open_30 rfl hl (by decide) rfl (fun ls hl => ?_)
        obtain ⟨n, hv⟩ := y_lp_e hv
        exact L31 n (0 : Int32) h _ _ _ hB (lv_sub hl [1, 2, 0] rfl) _ hv kv7
      · replace hv := y_br_f hv c25
        refine lv_aload_n hx hb dX5_open_16 rfl (lv_at hl 0 rfl) ?_
        refine z_getR hc hB 5 4 g22 eob23 (by decide) (by decide) rfl (z_l1 hc qfX5_28) dX5_open_17 ?_
        refine lv_iload_n hx hb dX5_open_20 rfl (lv_at hl 2 rfl) ?_
        refine lv_iconst (v := (0 : Int32)) hx hb dX5_open_21 (by decide) ?_
        obtain ⟨i27, hv⟩ := y_gd_e hv
        obtain ⟨h28, eh28, hv⟩ := y_nm_e hv
        refine y_zast hc hB eh28 g24 i27 dX5_open_22 (fun H locs hB => ?_)
        obtain ⟨v29, ev29, hv⟩ := y_nm_e hv
        refine lv_iinc (v := v29) (lv' := [(3, .int v29), (0, .ref (ad o0)), (2, .int x2)]) hx hb dX5_open_23 hl (k := 2) rfl (by rw [ev29]; rfl) (by decide) rfl (fun ls hl => ?_)
        refine lv_goto (tgt := 7) hx hb dX5_open_26 (by decide) ?_
        replace hv := Option.some.inj hv
        subst hv
        exact ih7 v29 h28 _ _ _ hB (lv_sub hl [1, 2, 0] rfl) _ kw7 kv7
  rw [← kt] at hv
  refine lv_aload_n hx hb dX5_open_0 rfl (lv_at hl 0 rfl) ?_
  refine lv_aload_n hx hb dX5_open_1 rfl (lv_at hl 1 rfl) ?_
  obtain ⟨g30, hv⟩ := y_gd_e hv
  obtain ⟨g31, hv⟩ := y_gd_e hv
  obtain ⟨h32, eh32, hv⟩ := y_nm_e hv
  refine z_putN hc hB 5 5 (r := (some o1)) rfl (z_hrS (k := 0) g31) eh32 g30 (z_l1 hc qfX5_31) dX5_open_2 (by decide) (by decide) rfl rfl (fun r => by cases r <;> rfl) (fun r => by cases r <;> rfl) (fun H locs hB => ?_)
  refine lv_iconst (v := (0 : Int32)) hx hb dX5_open_5 (by decide) ?_
  refine lv_istore_n (lv' := [(3, .int (0 : Int32)), (0, .ref (ad o0)), (1, .ref (ad o1)), (2, .int x2)]) hx hb dX5_open_6 rfl hl (by decide) rfl (fun ls hl => ?_)
  obtain ⟨n, hv⟩ := y_lp_e hv
  exact L7 n (0 : Int32) h32 _ _ _ hB (lv_sub hl [1, 3, 0] rfl) _ hv kt
theorem dX5_leastCost_0 : decode cX5_leastCost 0 = .ok (.aload_n 0, 1) := by decide +kernel
theorem dX5_leastCost_1 : decode cX5_leastCost 1 = .ok (.getfield 16, 3) := by decide +kernel
theorem dX5_leastCost_4 : decode cX5_leastCost 4 = .ok (.iconst 0, 1) := by decide +kernel
theorem dX5_leastCost_5 : decode cX5_leastCost 5 = .ok (.laload, 1) := by decide +kernel
theorem dX5_leastCost_6 : decode cX5_leastCost 6 = .ok (.lreturn, 1) := by decide +kernel
abbrev rm_X5_leastCost : Room := { frames := 0, cells := 0, slots := 0, locals := 0 }
noncomputable def fX5_leastCost (o0 : Nat) (h : z_T) : Option (Int64) :=
  y_gd (z_ok h o0 5) <|
  y_bi (z_R h o0 1) fun o2 =>
  y_gd (z_ok h o2 14) <|
  y_gd (z_ix (0 : Int32) (z_N h o2)) <|
  some (z_L h o2 (0 : Int32).toNatClampNeg)
set_option maxHeartbeats 4000000 in
set_option maxRecDepth 100000 in
theorem mm_X5_leastCost {G : z_Gt} (hSK : z_SK (z_S G)) (l : Launch) (ad : Nat → Nat) (o0 : Nat) (h : z_T) {r0 : Int64} (hv : fX5_leastCost o0 h = some r0) : z_Ml G (z_S G) l yX5_leastCost cX5_leastCost 1 (.long) rm_X5_leastCost 0 0 [.ref (ad o0)] ad h h r0 := by
  refine z_ofW hSK (by decide) (Nat.le_of_ble_eq_true rfl) ?_
  intro p e s m args below meth c ls hc hr hnm hB hl
  have hx := hc.1.1
  have hb := hc.1.2.1
  have hown := hc.1.2.2.2.1
  have hts := hc.1.2.2.2.2
  replace hc : z_C G (z_S G) ad (z_n h) p m c cX5_leastCost 1 s args RX5 meth := hc
  replace hown : s.vm.findClass RX5 = some m.cls := hown
  replace hl : lv_has ls 1 [(0, .ref (ad o0))] := hl
  show W p l e rm_X5_leastCost s m args below meth c s.heap [] 0 0 (MQ below (z_Ql G ad h (z_n h) s.heap.size r0) args s 0 0 (z_A ad (z_n h) s.heap.size)) (F0 m 0 ls [])
  obtain ⟨rs, kt⟩ : ∃ rs : Int64, rs = r0 := ⟨_, rfl⟩
  generalize hn0 : z_n h = n0 at hc hB ⊢
  rw [← kt] at hv
  refine lv_aload_n hx hb dX5_leastCost_0 rfl (lv_at hl 0 rfl) ?_
  obtain ⟨g1, hv⟩ := y_gd_e hv
  obtain ⟨o2, eo2, hv⟩ := y_bi_e hv
  refine z_getR hc hB 5 1 g1 eo2 (by decide) (by decide) rfl (z_l1 hc qfX5_16) dX5_leastCost_1 ?_
  refine lv_iconst (v := (0 : Int32)) hx hb dX5_leastCost_4 (by decide) ?_
  obtain ⟨g3, hv⟩ := y_gd_e hv
  obtain ⟨i4, hv⟩ := y_gd_e hv
  refine z_lald hc hB g3 i4 dX5_leastCost_5 ?_
  replace hv := Option.some.inj hv
  subst hv
  rw [← kt]
  exact z_lret hc hB hr dX5_leastCost_6
theorem dX5_firstTest_0 : decode cX5_firstTest 0 = .ok (.aload_n 0, 1) := by decide +kernel
theorem dX5_firstTest_1 : decode cX5_firstTest 1 = .ok (.getfield 20, 3) := by decide +kernel
theorem dX5_firstTest_4 : decode cX5_firstTest 4 = .ok (.iconst 0, 1) := by decide +kernel
theorem dX5_firstTest_5 : decode cX5_firstTest 5 = .ok (.iaload, 1) := by decide +kernel
theorem dX5_firstTest_6 : decode cX5_firstTest 6 = .ok (.ireturn, 1) := by decide +kernel
abbrev rm_X5_firstTest : Room := { frames := 0, cells := 0, slots := 0, locals := 0 }
noncomputable def fX5_firstTest (o0 : Nat) (h : z_T) : Option (Int32) :=
  y_gd (z_ok h o0 5) <|
  y_bi (z_R h o0 2) fun o2 =>
  y_gd (z_ok h o2 13) <|
  y_gd (z_ix (0 : Int32) (z_N h o2)) <|
  some (z_I h o2 (0 : Int32).toNatClampNeg)
set_option maxHeartbeats 4000000 in
set_option maxRecDepth 100000 in
theorem mm_X5_firstTest {G : z_Gt} (hSK : z_SK (z_S G)) (l : Launch) (ad : Nat → Nat) (o0 : Nat) (h : z_T) {r0 : Int32} (hv : fX5_firstTest o0 h = some r0) : z_Mi G (z_S G) l yX5_firstTest cX5_firstTest 1 (.int) rm_X5_firstTest 0 0 [.ref (ad o0)] ad h h r0 := by
  refine z_ofW hSK (by decide) (Nat.le_of_ble_eq_true rfl) ?_
  intro p e s m args below meth c ls hc hr hnm hB hl
  have hx := hc.1.1
  have hb := hc.1.2.1
  have hown := hc.1.2.2.2.1
  have hts := hc.1.2.2.2.2
  replace hc : z_C G (z_S G) ad (z_n h) p m c cX5_firstTest 1 s args RX5 meth := hc
  replace hown : s.vm.findClass RX5 = some m.cls := hown
  replace hl : lv_has ls 1 [(0, .ref (ad o0))] := hl
  show W p l e rm_X5_firstTest s m args below meth c s.heap [] 0 0 (MQ below (z_Qi G ad h (z_n h) s.heap.size r0) args s 0 0 (z_A ad (z_n h) s.heap.size)) (F0 m 0 ls [])
  obtain ⟨rs, kt⟩ : ∃ rs : Int32, rs = r0 := ⟨_, rfl⟩
  generalize hn0 : z_n h = n0 at hc hB ⊢
  rw [← kt] at hv
  refine lv_aload_n hx hb dX5_firstTest_0 rfl (lv_at hl 0 rfl) ?_
  obtain ⟨g1, hv⟩ := y_gd_e hv
  obtain ⟨o2, eo2, hv⟩ := y_bi_e hv
  refine z_getR hc hB 5 2 g1 eo2 (by decide) (by decide) rfl (z_l1 hc qfX5_20) dX5_firstTest_1 ?_
  refine lv_iconst (v := (0 : Int32)) hx hb dX5_firstTest_4 (by decide) ?_
  obtain ⟨g3, hv⟩ := y_gd_e hv
  obtain ⟨i4, hv⟩ := y_gd_e hv
  refine z_iald hc hB g3 i4 dX5_firstTest_5 ?_
  replace hv := Option.some.inj hv
  subst hv
  rw [← kt]
  exact z_iret hc hB hr dX5_firstTest_6
theorem qmX6_3 : Cond.methodLink RX6 3 objectInit ∈ z_ws := List.mem_filter.mpr ⟨List.mem_append_right _ (List.mem_of_getElem? (i := 103) (by decide +kernel)), rfl⟩
theorem dX6_init_0 : decode cX6_init 0 = .ok (.aload_n 0, 1) := by decide +kernel
theorem dX6_init_1 : decode cX6_init 1 = .ok (.invokespecial 3, 3) := by decide +kernel
theorem dX6_init_4 : decode cX6_init 4 = .ok (.aload_n 0, 1) := by decide +kernel
theorem dX6_init_5 : decode cX6_init 5 = .ok (.getstatic 9, 3) := by decide +kernel
theorem dX6_init_8 : decode cX6_init 8 = .ok (.putfield 15, 3) := by decide +kernel
theorem dX6_init_11 : decode cX6_init 11 = .ok (.aload_n 0, 1) := by decide +kernel
theorem dX6_init_12 : decode cX6_init 12 = .ok (.aload_n 1, 1) := by decide +kernel
theorem dX6_init_13 : decode cX6_init 13 = .ok (.putfield 20, 3) := by decide +kernel
theorem dX6_init_16 : decode cX6_init 16 = .ok (.return_, 1) := by decide +kernel
abbrev rm_X6_init : Room := { frames := 1, cells := 0, slots := 0, locals := 12 }
noncomputable def fX6_init (o0 : Nat) (o1 : Nat) (h : z_T) : Option (z_T) :=
  y_gd (z_ok h o0 6) <|
  y_nm (z_sR h o0 7 (some 0)) fun h2 =>
  y_gd (z_ok h2 o1 1) <|
  y_nm (z_sR h2 o0 0 (some o1)) fun h4 =>
  some h4
set_option maxHeartbeats 4000000 in
set_option maxRecDepth 100000 in
theorem mm_X6_init {G : z_Gt} (hSK : z_SK (z_S G)) (l : Launch) (ad : Nat → Nat) (o0 : Nat) (o1 : Nat) (h : z_T) {h9 : z_T} (hv : fX6_init o0 o1 h = some h9) : z_Mv G (z_S G) l yX6_init cX6_init 2 rm_X6_init 0 0 [.ref (ad o0), .ref (ad o1)] ad h h9 := by
  refine z_ofW hSK (by decide) (Nat.le_of_ble_eq_true rfl) ?_
  intro p e s m args below meth c ls hc hr hnm hB hl
  have hx := hc.1.1
  have hb := hc.1.2.1
  have hown := hc.1.2.2.2.1
  have hts := hc.1.2.2.2.2
  replace hc : z_C G (z_S G) ad (z_n h) p m c cX6_init 2 s args RX6 meth := hc
  replace hown : s.vm.findClass RX6 = some m.cls := hown
  replace hl : lv_has ls 2 [(0, .ref (ad o0)), (1, .ref (ad o1))] := hl
  show W p l e rm_X6_init s m args below meth c s.heap [] 0 0 (MQ below (z_Qv G ad h9 (z_n h) s.heap.size) args s 0 0 (z_A ad (z_n h) s.heap.size)) (F0 m 0 ls [])
  obtain ⟨rs, kt⟩ : ∃ rs : z_T, rs = h9 := ⟨_, rfl⟩
  generalize hn0 : z_n h = n0 at hc hB ⊢
  rw [← kt] at hv
  refine lv_aload_n hx hb dX6_init_0 rfl (lv_at hl 0 rfl) ?_
  refine z_objI hc qmX6_3 q_objInst q_objCode hl.1 ⟨Nat.le_of_ble_eq_true rfl, Nat.le_of_ble_eq_true rfl⟩ dX6_init_1 ?_
  refine lv_aload_n hx hb dX6_init_4 rfl (lv_at hl 0 rfl) ?_
  refine z_gets hc hB (hc.2.1.2.2.2.1.1 0 (by decide)) qfX6_9 dX6_init_5 ?_
  obtain ⟨g1, hv⟩ := y_gd_e hv
  obtain ⟨h2, eh2, hv⟩ := y_nm_e hv
  refine z_putX hc hB 6 7 eh2 g1 (z_l1 hc qfX6_15) dX6_init_8 (by decide) (by decide) rfl rfl (fun _ => rfl) (fun _ => rfl) (fun H locs hB => ?_)
  refine lv_aload_n hx hb dX6_init_11 rfl (lv_at hl 0 rfl) ?_
  refine lv_aload_n hx hb dX6_init_12 rfl (lv_at hl 1 rfl) ?_
  obtain ⟨g3, hv⟩ := y_gd_e hv
  obtain ⟨h4, eh4, hv⟩ := y_nm_e hv
  refine z_putF hc hB 6 0 (r := (some o1)) rfl (z_hrS (k := 1) g3) eh4 (by rw [eh2]; exact g1) qfX6_20 dX6_init_13 hnm (by decide) (by decide) rfl rfl rfl (fun r => by cases r <;> rfl) (fun r => by cases r <;> rfl) (fun H locs hB => ?_)
  replace hv := Option.some.inj hv
  subst hv
  rw [← kt]
  exact z_vret hc hB hr dX6_init_16
theorem dX6_open_0 : decode cX6_open 0 = .ok (.aload_n 0, 1) := by decide +kernel
theorem dX6_open_1 : decode cX6_open 1 = .ok (.iload_n 1, 1) := by decide +kernel
theorem dX6_open_2 : decode cX6_open 2 = .ok (.putfield 24, 3) := by decide +kernel
theorem dX6_open_5 : decode cX6_open 5 = .ok (.aload_n 0, 1) := by decide +kernel
theorem dX6_open_6 : decode cX6_open 6 = .ok (.iconst 0, 1) := by decide +kernel
theorem dX6_open_7 : decode cX6_open 7 = .ok (.putfield 28, 3) := by decide +kernel
theorem dX6_open_10 : decode cX6_open 10 = .ok (.aload_n 0, 1) := by decide +kernel
theorem dX6_open_11 : decode cX6_open 11 = .ok (.iconst 0, 1) := by decide +kernel
theorem dX6_open_12 : decode cX6_open 12 = .ok (.putfield 31, 3) := by decide +kernel
theorem dX6_open_15 : decode cX6_open 15 = .ok (.aload_n 0, 1) := by decide +kernel
theorem dX6_open_16 : decode cX6_open 16 = .ok (.invokevirtual 34, 3) := by decide +kernel
theorem dX6_open_19 : decode cX6_open 19 = .ok (.return_, 1) := by decide +kernel
abbrev rm_X6_open : Room := { frames := 3, cells := 0, slots := 0, locals := 69 }
noncomputable def fX6_open (o0 : Nat) (x1 : Int32) (h : z_T) : Option (z_T) :=
  y_gd (z_ok h o0 6) <|
  y_nm (z_sI h o0 1 x1) fun h2 =>
  y_nm (z_sI h2 o0 2 (0 : Int32)) fun h3 =>
  y_nm (z_sI h3 o0 8 (0 : Int32)) fun h4 =>
  y_bi (fX6_advance o0 h4) fun h6 =>
  some h6
set_option maxHeartbeats 4000000 in
set_option maxRecDepth 100000 in
theorem mm_X6_open {G : z_Gt} (hSK : z_SK (z_S G)) (l : Launch) (ad : Nat → Nat) (o0 : Nat) (x1 : Int32) (h : z_T) {h9 : z_T} (hv : fX6_open o0 x1 h = some h9) : z_Mv G (z_S G) l yX6_open cX6_open 2 rm_X6_open 0 0 [.ref (ad o0), .int x1] ad h h9 := by
  refine z_ofW hSK (by decide) (Nat.le_of_ble_eq_true rfl) ?_
  intro p e s m args below meth c ls hc hr hnm hB hl
  have hx := hc.1.1
  have hb := hc.1.2.1
  have hown := hc.1.2.2.2.1
  have hts := hc.1.2.2.2.2
  replace hc : z_C G (z_S G) ad (z_n h) p m c cX6_open 2 s args RX6 meth := hc
  replace hown : s.vm.findClass RX6 = some m.cls := hown
  replace hl : lv_has ls 2 [(0, .ref (ad o0)), (1, .int x1)] := hl
  show W p l e rm_X6_open s m args below meth c s.heap [] 0 0 (MQ below (z_Qv G ad h9 (z_n h) s.heap.size) args s 0 0 (z_A ad (z_n h) s.heap.size)) (F0 m 0 ls [])
  obtain ⟨rs, kt⟩ : ∃ rs : z_T, rs = h9 := ⟨_, rfl⟩
  generalize hn0 : z_n h = n0 at hc hB ⊢
  rw [← kt] at hv
  refine lv_aload_n hx hb dX6_open_0 rfl (lv_at hl 0 rfl) ?_
  refine lv_iload_n hx hb dX6_open_1 rfl (lv_at hl 1 rfl) ?_
  obtain ⟨g1, hv⟩ := y_gd_e hv
  obtain ⟨h2, eh2, hv⟩ := y_nm_e hv
  refine y_putI hc hB 6 1 eh2 g1 (z_l1 hc qfX6_24) dX6_open_2 (by decide) (by decide) rfl rfl rfl rfl (fun H locs hB => ?_)
  refine lv_aload_n hx hb dX6_open_5 rfl (lv_at hl 0 rfl) ?_
  refine lv_iconst (v := (0 : Int32)) hx hb dX6_open_6 (by decide) ?_
  obtain ⟨h3, eh3, hv⟩ := y_nm_e hv
  refine y_putI hc hB 6 2 eh3 (by rw [eh2]; exact g1) (z_l1 hc qfX6_28) dX6_open_7 (by decide) (by decide) rfl rfl rfl rfl (fun H locs hB => ?_)
  refine lv_aload_n hx hb dX6_open_10 rfl (lv_at hl 0 rfl) ?_
  refine lv_iconst (v := (0 : Int32)) hx hb dX6_open_11 (by decide) ?_
  obtain ⟨h4, eh4, hv⟩ := y_nm_e hv
  refine y_putI hc hB 6 8 eh4 (by rw [eh3, eh2]; exact g1) (z_l1 hc qfX6_31) dX6_open_12 (by decide) (by decide) rfl rfl rfl rfl (fun H locs hB => ?_)
  refine lv_aload_n hx hb dX6_open_15 rfl (lv_at hl 0 rfl) ?_
  obtain ⟨h6, c5, hv⟩ := y_bi_e hv
  refine z_thV hc hB (z_runV hc hB 6 (mm_X6_advance hSK l ad o0 h4 c5) md_X6_advance qmX6_34 (by rw [eh4, eh3, eh2]; exact g1) (by decide) rfl rfl rfl ⟨Nat.le_of_ble_eq_true rfl, Nat.le_of_ble_eq_true rfl⟩ rfl hl.1 rfl (Nat.le_of_ble_eq_true rfl) dX6_open_16 ⟨Nat.le_of_ble_eq_true rfl, Nat.le_of_ble_eq_true rfl⟩) (fun H locs hB => ?_)
  replace hv := Option.some.inj hv
  subst hv
  rw [← kt]
  exact z_vret hc hB hr dX6_open_19
theorem dX6_takeEnd_0 : decode cX6_takeEnd 0 = .ok (.aload_n 0, 1) := by decide +kernel
theorem dX6_takeEnd_1 : decode cX6_takeEnd 1 = .ok (.getfield 60, 3) := by decide +kernel
theorem dX6_takeEnd_4 : decode cX6_takeEnd 4 = .ok (.ifCond .eq 11, 3) := by decide +kernel
theorem dX6_takeEnd_7 : decode cX6_takeEnd 7 = .ok (.aload_n 0, 1) := by decide +kernel
theorem dX6_takeEnd_8 : decode cX6_takeEnd 8 = .ok (.iconst 1, 1) := by decide +kernel
theorem dX6_takeEnd_9 : decode cX6_takeEnd 9 = .ok (.invokevirtual 93, 3) := by decide +kernel
theorem dX6_takeEnd_12 : decode cX6_takeEnd 12 = .ok (.ifCond .eq 7, 3) := by decide +kernel
theorem dX6_takeEnd_15 : decode cX6_takeEnd 15 = .ok (.iconst 1, 1) := by decide +kernel
theorem dX6_takeEnd_16 : decode cX6_takeEnd 16 = .ok (.goto 4, 3) := by decide +kernel
theorem dX6_takeEnd_19 : decode cX6_takeEnd 19 = .ok (.iconst 0, 1) := by decide +kernel
theorem dX6_takeEnd_20 : decode cX6_takeEnd 20 = .ok (.ireturn, 1) := by decide +kernel
abbrev rm_X6_takeEnd : Room := { frames := 1, cells := 0, slots := 0, locals := 21 }
noncomputable def fX6_takeEnd_b15  (h : z_T) : Option (Int32 × z_T) :=
  some ((1 : Int32), h)
noncomputable def fX6_takeEnd (o0 : Nat) (h : z_T) : Option (Int32 × z_T) :=
  y_gd (z_ok h o0 6) <|
  y_br ((z_I h o0 4) = 0)
    (fX6_takeEnd_b15 h)
    (y_bi (fX6_fail o0 (1 : Int32) h) fun ⟨r4, h8⟩ =>
    y_br (r4 = 0)
      (some ((0 : Int32), h8))
      (fX6_takeEnd_b15 h8))
set_option maxHeartbeats 4000000 in
set_option maxRecDepth 100000 in
theorem mm_X6_takeEnd {G : z_Gt} (hSK : z_SK (z_S G)) (l : Launch) (ad : Nat → Nat) (o0 : Nat) (h : z_T) {r0 : Int32} {h9 : z_T} (hv : fX6_takeEnd o0 h = some (r0, h9)) : z_Mi G (z_S G) l yX6_takeEnd cX6_takeEnd 1 (.boolean) rm_X6_takeEnd 0 0 [.ref (ad o0)] ad h h9 r0 := by
  refine z_ofW hSK (by decide) (Nat.le_of_ble_eq_true rfl) ?_
  intro p e s m args below meth c ls hc hr hnm hB hl
  have hx := hc.1.1
  have hb := hc.1.2.1
  have hown := hc.1.2.2.2.1
  have hts := hc.1.2.2.2.2
  replace hc : z_C G (z_S G) ad (z_n h) p m c cX6_takeEnd 1 s args RX6 meth := hc
  replace hown : s.vm.findClass RX6 = some m.cls := hown
  replace hl : lv_has ls 1 [(0, .ref (ad o0))] := hl
  show W p l e rm_X6_takeEnd s m args below meth c s.heap [] 0 0 (MQ below (z_Qi G ad h9 (z_n h) s.heap.size r0) args s 0 0 (z_A ad (z_n h) s.heap.size)) (F0 m 0 ls [])
  obtain ⟨rs, kt⟩ : ∃ rs : Int32 × z_T, rs = (r0, h9) := ⟨_, rfl⟩
  generalize hn0 : z_n h = n0 at hc hB ⊢
  have b15 : ∀ (h : z_T) (H : Heap) (locs : List Loc) (ls : Array Slot), z_B G ad n0 s h H locs → lv_has ls 1 [] → ∀ w, fX6_takeEnd_b15 h = some w → w = (r0, h9) → W p l e rm_X6_takeEnd s m args below meth c H locs 0 0 (MQ below (z_Qi G ad h9 n0 s.heap.size r0) args s 0 0 (z_A ad n0 s.heap.size)) (F0 m 15 ls []) := by
    intro h H locs ls hB hl w hv kb
    refine lv_iconst (v := (1 : Int32)) hx hb dX6_takeEnd_15 (by decide) ?_
    refine lv_goto (tgt := 20) hx hb dX6_takeEnd_16 (by decide) ?_
    replace hv := Option.some.inj hv
    subst hv
    obtain ⟨e1, e2⟩ := y_pr kb
    rw [← e1, ← e2]
    exact z_zret hc hB hr rfl dX6_takeEnd_20
  rw [← kt] at hv
  refine lv_aload_n hx hb dX6_takeEnd_0 rfl (lv_at hl 0 rfl) ?_
  obtain ⟨g1, hv⟩ := y_gd_e hv
  refine z_getI hc hB 6 4 g1 (by decide) (by decide) rfl (z_l1 hc qfX6_60) dX6_takeEnd_1 ?_
  refine lv_if_eq (tgt := 15) hx hb dX6_takeEnd_4 (by decide) (fun c2 => ?_) (fun c2 => ?_)
  · replace hv := y_br_t hv c2
    exact b15 h _ _ _ hB (lv_sub hl [] rfl) _ hv kt
  · replace hv := y_br_f hv c2
    refine lv_aload_n hx hb dX6_takeEnd_7 rfl (lv_at hl 0 rfl) ?_
    refine lv_iconst (v := (1 : Int32)) hx hb dX6_takeEnd_8 (by decide) ?_
    obtain ⟨⟨r4, h8⟩, c3, hv⟩ := y_bi_e hv
    refine z_thI hc hB (z_runV hc hB 6 (mm_X6_fail hSK l ad o0 (1 : Int32) h c3) md_X6_fail qmX6_93 g1 (by decide) rfl rfl rfl ⟨Nat.le_of_ble_eq_true rfl, Nat.le_of_ble_eq_true rfl⟩ rfl hl.1 rfl (Nat.le_of_ble_eq_true rfl) dX6_takeEnd_9 ⟨Nat.le_of_ble_eq_true rfl, Nat.le_of_ble_eq_true rfl⟩) (fun H locs hB => ?_)
    refine lv_if_eq (tgt := 19) hx hb dX6_takeEnd_12 (by decide) (fun c9 => ?_) (fun c9 => ?_)
    · replace hv := y_br_t hv c9
      refine lv_iconst (v := (0 : Int32)) hx hb dX6_takeEnd_19 (by decide) ?_
      replace hv := Option.some.inj hv
      subst hv
      obtain ⟨e1, e2⟩ := y_pr kt
      rw [← e1, ← e2]
      exact z_zret hc hB hr rfl dX6_takeEnd_20
    · replace hv := y_br_f hv c9
      exact b15 h8 _ _ _ hB (lv_sub hl [] rfl) _ hv kt
theorem dX6_isOrder_0 : decode cX6_isOrder 0 = .ok (.iload_n 0, 1) := by decide +kernel
theorem dX6_isOrder_1 : decode cX6_isOrder 1 = .ok (.bipush 60, 2) := by decide +kernel
theorem dX6_isOrder_3 : decode cX6_isOrder 3 = .ok (.if_icmp .eq 15, 3) := by decide +kernel
theorem dX6_isOrder_6 : decode cX6_isOrder 6 = .ok (.iload_n 0, 1) := by decide +kernel
theorem dX6_isOrder_7 : decode cX6_isOrder 7 = .ok (.bipush 61, 2) := by decide +kernel
theorem dX6_isOrder_9 : decode cX6_isOrder 9 = .ok (.if_icmp .eq 9, 3) := by decide +kernel
theorem dX6_isOrder_12 : decode cX6_isOrder 12 = .ok (.iload_n 0, 1) := by decide +kernel
theorem dX6_isOrder_13 : decode cX6_isOrder 13 = .ok (.bipush 62, 2) := by decide +kernel
theorem dX6_isOrder_15 : decode cX6_isOrder 15 = .ok (.if_icmp .ne 7, 3) := by decide +kernel
theorem dX6_isOrder_18 : decode cX6_isOrder 18 = .ok (.iconst 1, 1) := by decide +kernel
theorem dX6_isOrder_19 : decode cX6_isOrder 19 = .ok (.goto 4, 3) := by decide +kernel
theorem dX6_isOrder_22 : decode cX6_isOrder 22 = .ok (.iconst 0, 1) := by decide +kernel
theorem dX6_isOrder_23 : decode cX6_isOrder 23 = .ok (.ireturn, 1) := by decide +kernel
abbrev rm_X6_isOrder : Room := { frames := 0, cells := 0, slots := 0, locals := 0 }
noncomputable def fX6_isOrder_b18  : Option (Int32) :=
  some (1 : Int32)
noncomputable def fX6_isOrder (x0 : Int32) : Option (Int32) :=
  y_br (x0 = (60 : Int32))
    (fX6_isOrder_b18)
    (y_br (x0 = (61 : Int32))
      (fX6_isOrder_b18)
      (y_br (x0 = (62 : Int32))
        (fX6_isOrder_b18)
        (some (0 : Int32))))
set_option maxHeartbeats 4000000 in
set_option maxRecDepth 100000 in
theorem mm_X6_isOrder {G : z_Gt} (hSK : z_SK (z_S G)) (l : Launch) (ad : Nat → Nat) (x0 : Int32) (h : z_T) {r0 : Int32} (hv : fX6_isOrder x0 = some r0) : z_Mi G (z_S G) l yX6_isOrder cX6_isOrder 1 (.boolean) rm_X6_isOrder 0 0 [.int x0] ad h h r0 := by
  refine z_ofW hSK (by decide) (Nat.le_of_ble_eq_true rfl) ?_
  intro p e s m args below meth c ls hc hr hnm hB hl
  have hx := hc.1.1
  have hb := hc.1.2.1
  have hown := hc.1.2.2.2.1
  have hts := hc.1.2.2.2.2
  replace hc : z_C G (z_S G) ad (z_n h) p m c cX6_isOrder 1 s args RX6 meth := hc
  replace hown : s.vm.findClass RX6 = some m.cls := hown
  replace hl : lv_has ls 1 [(0, .int x0)] := hl
  show W p l e rm_X6_isOrder s m args below meth c s.heap [] 0 0 (MQ below (z_Qi G ad h (z_n h) s.heap.size r0) args s 0 0 (z_A ad (z_n h) s.heap.size)) (F0 m 0 ls [])
  obtain ⟨rs, kt⟩ : ∃ rs : Int32, rs = r0 := ⟨_, rfl⟩
  generalize hn0 : z_n h = n0 at hc hB ⊢
  have b18 : ∀ (H : Heap) (locs : List Loc) (ls : Array Slot), z_B G ad n0 s h H locs → lv_has ls 1 [] → ∀ w, fX6_isOrder_b18 = some w → w = r0 → W p l e rm_X6_isOrder s m args below meth c H locs 0 0 (MQ below (z_Qi G ad h n0 s.heap.size r0) args s 0 0 (z_A ad n0 s.heap.size)) (F0 m 18 ls []) := by
    intro H locs ls hB hl w hv kb
    refine lv_iconst (v := (1 : Int32)) hx hb dX6_isOrder_18 (by decide) ?_
    refine lv_goto (tgt := 23) hx hb dX6_isOrder_19 (by decide) ?_
    replace hv := Option.some.inj hv
    subst hv
    rw [← kb]
    exact z_zret hc hB hr rfl dX6_isOrder_23
  rw [← kt] at hv
  refine lv_iload_n hx hb dX6_isOrder_0 rfl (lv_at hl 0 rfl) ?_
  refine lv_bipush (v := (60 : Int32)) hx hb dX6_isOrder_1 (by decide) ?_
  refine lv_icmp_eq (tgt := 18) hx hb dX6_isOrder_3 (by decide) (fun c1 => ?_) (fun c1 => ?_)
  · replace hv := y_br_t hv c1
    exact b18 _ _ _ hB (lv_sub hl [] rfl) _ hv kt
  · replace hv := y_br_f hv c1
    refine lv_iload_n hx hb dX6_isOrder_6 rfl (lv_at hl 0 rfl) ?_
    refine lv_bipush (v := (61 : Int32)) hx hb dX6_isOrder_7 (by decide) ?_
    refine lv_icmp_eq (tgt := 18) hx hb dX6_isOrder_9 (by decide) (fun c2 => ?_) (fun c2 => ?_)
    · replace hv := y_br_t hv c2
      exact b18 _ _ _ hB (lv_sub hl [] rfl) _ hv kt
    · replace hv := y_br_f hv c2
      refine lv_iload_n hx hb dX6_isOrder_12 rfl (lv_at hl 0 rfl) ?_
      refine lv_bipush (v := (62 : Int32)) hx hb dX6_isOrder_13 (by decide) ?_
      refine lv_icmp_ne (tgt := 22) hx hb dX6_isOrder_15 (by decide) (fun c3 => ?_) (fun c3 => ?_)
      · replace hv := y_br_f hv c3
        refine lv_iconst (v := (0 : Int32)) hx hb dX6_isOrder_22 (by decide) ?_
        replace hv := Option.some.inj hv
        subst hv
        rw [← kt]
        exact z_zret hc hB hr rfl dX6_isOrder_23
      · replace hv := y_br_t hv c3
        exact b18 _ _ _ hB (lv_sub hl [] rfl) _ hv kt
theorem qmX7_3 : Cond.methodLink RX7 3 objectInit ∈ z_ws := List.mem_filter.mpr ⟨List.mem_append_right _ (List.mem_of_getElem? (i := 955) (by decide +kernel)), rfl⟩
theorem qfX7_11 : Cond.fieldLink RX7 11 "DreamTests$Sentence" "steps" "[I" ∈ z_ws := List.mem_filter.mpr ⟨List.mem_append_right _ (List.mem_of_getElem? (i := 956) (by decide +kernel)), rfl⟩
theorem qfX7_15 : Cond.fieldLink RX7 15 "DreamTests$Sentence" "sets" "[I" ∈ z_ws := List.mem_filter.mpr ⟨List.mem_append_right _ (List.mem_of_getElem? (i := 957) (by decide +kernel)), rfl⟩
theorem qfX7_18 : Cond.fieldLink RX7 18 "DreamTests$Sentence" "stack" "[I" ∈ z_ws := List.mem_filter.mpr ⟨List.mem_append_right _ (List.mem_of_getElem? (i := 958) (by decide +kernel)), rfl⟩
theorem dX7_init_0 : decode cX7_init 0 = .ok (.aload_n 0, 1) := by decide +kernel
theorem dX7_init_1 : decode cX7_init 1 = .ok (.invokespecial 3, 3) := by decide +kernel
theorem dX7_init_4 : decode cX7_init 4 = .ok (.aload_n 0, 1) := by decide +kernel
theorem dX7_init_5 : decode cX7_init 5 = .ok (.bipush 40, 2) := by decide +kernel
theorem dX7_init_7 : decode cX7_init 7 = .ok (.newarray .int, 2) := by decide +kernel
theorem dX7_init_9 : decode cX7_init 9 = .ok (.putfield 11, 3) := by decide +kernel
theorem dX7_init_12 : decode cX7_init 12 = .ok (.aload_n 0, 1) := by decide +kernel
theorem dX7_init_13 : decode cX7_init 13 = .ok (.bipush 40, 2) := by decide +kernel
theorem dX7_init_15 : decode cX7_init 15 = .ok (.newarray .int, 2) := by decide +kernel
theorem dX7_init_17 : decode cX7_init 17 = .ok (.putfield 15, 3) := by decide +kernel
theorem dX7_init_20 : decode cX7_init 20 = .ok (.aload_n 0, 1) := by decide +kernel
theorem dX7_init_21 : decode cX7_init 21 = .ok (.bipush 40, 2) := by decide +kernel
theorem dX7_init_23 : decode cX7_init 23 = .ok (.newarray .int, 2) := by decide +kernel
theorem dX7_init_25 : decode cX7_init 25 = .ok (.putfield 18, 3) := by decide +kernel
theorem dX7_init_28 : decode cX7_init 28 = .ok (.return_, 1) := by decide +kernel
abbrev rm_X7_init : Room := { frames := 1, cells := 3, slots := 120, locals := 12 }
noncomputable def fX7_init (o0 : Nat) (h : z_T) : Option (z_T) :=
  y_nm (z_n h) fun o1 =>
  y_nm (z_al h 13 40) fun h2 =>
  y_gd (z_ok h2 o0 7) <|
  y_nm (z_sR h2 o0 0 (some o1)) fun h5 =>
  y_nm (z_n h5) fun o6 =>
  y_nm (z_al h5 13 40) fun h7 =>
  y_gd (z_ok h7 o0 7) <|
  y_nm (z_sR h7 o0 1 (some o6)) fun h10 =>
  y_nm (z_n h10) fun o11 =>
  y_nm (z_al h10 13 40) fun h12 =>
  y_gd (z_ok h12 o0 7) <|
  y_nm (z_sR h12 o0 2 (some o11)) fun h15 =>
  some h15
set_option maxHeartbeats 4000000 in
set_option maxRecDepth 100000 in
theorem mm_X7_init {G : z_Gt} (hSK : z_SK (z_S G)) (l : Launch) (ad : Nat → Nat) (o0 : Nat) (h : z_T) {h9 : z_T} (hv : fX7_init o0 h = some h9) : z_Mv G (z_S G) l yX7_init cX7_init 1 rm_X7_init 3 120 [.ref (ad o0)] ad h h9 := by
  refine z_ofW hSK (by decide) (Nat.le_of_ble_eq_true rfl) ?_
  intro p e s m args below meth c ls hc hr hnm hB hl
  have hx := hc.1.1
  have hb := hc.1.2.1
  have hown := hc.1.2.2.2.1
  have hts := hc.1.2.2.2.2
  replace hc : z_C G (z_S G) ad (z_n h) p m c cX7_init 1 s args RX7 meth := hc
  replace hown : s.vm.findClass RX7 = some m.cls := hown
  replace hl : lv_has ls 1 [(0, .ref (ad o0))] := hl
  show W p l e rm_X7_init s m args below meth c s.heap [] 0 0 (MQ below (z_Qv G ad h9 (z_n h) s.heap.size) args s 3 120 (z_A ad (z_n h) s.heap.size)) (F0 m 0 ls [])
  obtain ⟨rs, kt⟩ : ∃ rs : z_T, rs = h9 := ⟨_, rfl⟩
  generalize hn0 : z_n h = n0 at hc hB ⊢
  rw [← kt] at hv
  refine lv_aload_n hx hb dX7_init_0 rfl (lv_at hl 0 rfl) ?_
  refine z_objI hc qmX7_3 q_objInst q_objCode hl.1 ⟨Nat.le_of_ble_eq_true rfl, Nat.le_of_ble_eq_true rfl⟩ dX7_init_1 ?_
  refine lv_aload_n hx hb dX7_init_4 rfl (lv_at hl 0 rfl) ?_
  refine lv_bipush (v := (40 : Int32)) hx hb dX7_init_5 (by decide) ?_
  obtain ⟨o1, eo1, hv⟩ := y_nm_e hv
  obtain ⟨h2, eh2, hv⟩ := y_nm_e hv
  refine z_newarr hc hB 13 40 (n := (40 : Int32)) eh2 (by decide) (by decide) (by decide) rfl qa_int (by decide) (by decide) (Nat.le_of_ble_eq_true rfl) (Nat.le_of_ble_eq_true rfl) dX7_init_7 (fun H hB => ?_)
  rw [← eo1]
  have g3 : z_ok h2 o1 13 = true := by rw [eh2, eo1]; exact z_al_ok
  obtain ⟨g4, hv⟩ := y_gd_e hv
  obtain ⟨h5, eh5, hv⟩ := y_nm_e hv
  refine z_putF hc hB 7 0 (r := (some o1)) rfl (z_hrS (k := 13) g3) eh5 g4 qfX7_11 dX7_init_9 hnm (by decide) (by decide) rfl rfl rfl (fun r => by cases r <;> rfl) (fun r => by cases r <;> rfl) (fun H locs hB => ?_)
  refine lv_aload_n hx hb dX7_init_12 rfl (lv_at hl 0 rfl) ?_
  refine lv_bipush (v := (40 : Int32)) hx hb dX7_init_13 (by decide) ?_
  obtain ⟨o6, eo6, hv⟩ := y_nm_e hv
  obtain ⟨h7, eh7, hv⟩ := y_nm_e hv
  refine z_newarr hc hB 13 40 (n := (40 : Int32)) eh7 (by decide) (by decide) (by decide) rfl qa_int (by decide) (by decide) (Nat.le_of_ble_eq_true rfl) (Nat.le_of_ble_eq_true rfl) dX7_init_15 (fun H hB => ?_)
  rw [← eo6]
  have g8 : z_ok h7 o6 13 = true := by rw [eh7, eo6]; exact z_al_ok
  obtain ⟨g9, hv⟩ := y_gd_e hv
  obtain ⟨h10, eh10, hv⟩ := y_nm_e hv
  refine z_putF hc hB 7 1 (r := (some o6)) rfl (z_hrS (k := 13) g8) eh10 g9 qfX7_15 dX7_init_17 hnm (by decide) (by decide) rfl rfl rfl (fun r => by cases r <;> rfl) (fun r => by cases r <;> rfl) (fun H locs hB => ?_)
  refine lv_aload_n hx hb dX7_init_20 rfl (lv_at hl 0 rfl) ?_
  refine lv_bipush (v := (40 : Int32)) hx hb dX7_init_21 (by decide) ?_
  obtain ⟨o11, eo11, hv⟩ := y_nm_e hv
  obtain ⟨h12, eh12, hv⟩ := y_nm_e hv
  refine z_newarr hc hB 13 40 (n := (40 : Int32)) eh12 (by decide) (by decide) (by decide) rfl qa_int (by decide) (by decide) (Nat.le_of_ble_eq_true rfl) (Nat.le_of_ble_eq_true rfl) dX7_init_23 (fun H hB => ?_)
  rw [← eo11]
  have g13 : z_ok h12 o11 13 = true := by rw [eh12, eo11]; exact z_al_ok
  obtain ⟨g14, hv⟩ := y_gd_e hv
  obtain ⟨h15, eh15, hv⟩ := y_nm_e hv
  refine z_putF hc hB 7 2 (r := (some o11)) rfl (z_hrS (k := 13) g13) eh15 g14 qfX7_18 dX7_init_25 hnm (by decide) (by decide) rfl rfl rfl (fun r => by cases r <;> rfl) (fun r => by cases r <;> rfl) (fun H locs hB => ?_)
  replace hv := Option.some.inj hv
  subst hv
  rw [← kt]
  exact z_vret hc hB hr dX7_init_28
