/-! the methods of the class: the rows that decode, a function each, the walk (by gen5.py) -/
theorem qfX2_18 : Cond.fieldLink RX2 18 "DreamTests$Night" "likely" "[J" ∈ z_ws := List.mem_filter.mpr ⟨List.mem_append_right _ (List.mem_of_getElem? (i := 171) (by decide +kernel)), rfl⟩
theorem qfX2_26 : Cond.fieldLink RX2 26 "DreamTests$Night" "book" "LDreamTests$Book;" ∈ z_ws := List.mem_filter.mpr ⟨List.mem_append_right _ (List.mem_of_getElem? (i := 162) (by decide +kernel)), rfl⟩
theorem qmX2_34 : Cond.methodLink RX2 34 yX0_weightOf ∈ z_ws := List.mem_filter.mpr ⟨List.mem_append_right _ (List.mem_of_getElem? (i := 158) (by decide +kernel)), rfl⟩
theorem qfX2_15 : Cond.fieldLink RX2 15 "DreamTests$Night" "times" "[I" ∈ z_ws := List.mem_filter.mpr ⟨List.mem_append_right _ (List.mem_of_getElem? (i := 170) (by decide +kernel)), rfl⟩
theorem qfX2_30 : Cond.fieldLink RX2 30 "DreamTests$Night" "asked" "I" ∈ z_ws := List.mem_filter.mpr ⟨List.mem_append_right _ (List.mem_of_getElem? (i := 166) (by decide +kernel)), rfl⟩
theorem dX2_begin_0 : decode cX2_begin 0 = .ok (.aload_n 0, 1) := by decide +kernel
theorem dX2_begin_1 : decode cX2_begin 1 = .ok (.aload_n 1, 1) := by decide +kernel
theorem dX2_begin_2 : decode cX2_begin 2 = .ok (.putfield 26, 3) := by decide +kernel
theorem dX2_begin_5 : decode cX2_begin 5 = .ok (.aload_n 0, 1) := by decide +kernel
theorem dX2_begin_6 : decode cX2_begin 6 = .ok (.iconst 0, 1) := by decide +kernel
theorem dX2_begin_7 : decode cX2_begin 7 = .ok (.putfield 30, 3) := by decide +kernel
theorem dX2_begin_10 : decode cX2_begin 10 = .ok (.iconst 0, 1) := by decide +kernel
theorem dX2_begin_11 : decode cX2_begin 11 = .ok (.istore_n 2, 1) := by decide +kernel
theorem dX2_begin_12 : decode cX2_begin 12 = .ok (.iload_n 2, 1) := by decide +kernel
theorem dX2_begin_13 : decode cX2_begin 13 = .ok (.aload_n 0, 1) := by decide +kernel
theorem dX2_begin_14 : decode cX2_begin 14 = .ok (.getfield 15, 3) := by decide +kernel
theorem dX2_begin_17 : decode cX2_begin 17 = .ok (.arraylength, 1) := by decide +kernel
theorem dX2_begin_18 : decode cX2_begin 18 = .ok (.if_icmp .ge 16, 3) := by decide +kernel
theorem dX2_begin_21 : decode cX2_begin 21 = .ok (.aload_n 0, 1) := by decide +kernel
theorem dX2_begin_22 : decode cX2_begin 22 = .ok (.getfield 15, 3) := by decide +kernel
theorem dX2_begin_25 : decode cX2_begin 25 = .ok (.iload_n 2, 1) := by decide +kernel
theorem dX2_begin_26 : decode cX2_begin 26 = .ok (.iconst 0, 1) := by decide +kernel
theorem dX2_begin_27 : decode cX2_begin 27 = .ok (.iastore, 1) := by decide +kernel
theorem dX2_begin_28 : decode cX2_begin 28 = .ok (.iinc 2 1, 3) := by decide +kernel
theorem dX2_begin_31 : decode cX2_begin 31 = .ok (.goto (-19), 3) := by decide +kernel
theorem dX2_begin_34 : decode cX2_begin 34 = .ok (.iconst 0, 1) := by decide +kernel
theorem dX2_begin_35 : decode cX2_begin 35 = .ok (.istore_n 2, 1) := by decide +kernel
theorem dX2_begin_36 : decode cX2_begin 36 = .ok (.iload_n 2, 1) := by decide +kernel
theorem dX2_begin_37 : decode cX2_begin 37 = .ok (.aload_n 0, 1) := by decide +kernel
theorem dX2_begin_38 : decode cX2_begin 38 = .ok (.getfield 18, 3) := by decide +kernel
theorem dX2_begin_41 : decode cX2_begin 41 = .ok (.arraylength, 1) := by decide +kernel
theorem dX2_begin_42 : decode cX2_begin 42 = .ok (.if_icmp .ge 24, 3) := by decide +kernel
theorem dX2_begin_45 : decode cX2_begin 45 = .ok (.aload_n 0, 1) := by decide +kernel
theorem dX2_begin_46 : decode cX2_begin 46 = .ok (.getfield 18, 3) := by decide +kernel
theorem dX2_begin_49 : decode cX2_begin 49 = .ok (.iload_n 2, 1) := by decide +kernel
theorem dX2_begin_50 : decode cX2_begin 50 = .ok (.aload_n 0, 1) := by decide +kernel
theorem dX2_begin_51 : decode cX2_begin 51 = .ok (.getfield 26, 3) := by decide +kernel
theorem dX2_begin_54 : decode cX2_begin 54 = .ok (.iload_n 2, 1) := by decide +kernel
theorem dX2_begin_55 : decode cX2_begin 55 = .ok (.invokevirtual 34, 3) := by decide +kernel
theorem dX2_begin_58 : decode cX2_begin 58 = .ok (.i2l, 1) := by decide +kernel
theorem dX2_begin_59 : decode cX2_begin 59 = .ok (.lastore, 1) := by decide +kernel
theorem dX2_begin_60 : decode cX2_begin 60 = .ok (.iinc 2 1, 3) := by decide +kernel
theorem dX2_begin_63 : decode cX2_begin 63 = .ok (.goto (-27), 3) := by decide +kernel
theorem dX2_begin_66 : decode cX2_begin 66 = .ok (.return_, 1) := by decide +kernel
abbrev rm_X2_begin : Room := { frames := 1, cells := 0, slots := 0, locals := 21 }
noncomputable def fX2_begin_b36_i (o0 : Nat) (x2 : Int32) (h : z_T) : Option ((Int32 × z_T) ⊕ (z_T)) :=
  y_gd (z_ok h o0 2) <|
  y_bi (z_R h o0 4) fun ob2 =>
  y_gd (z_ok h ob2 14) <|
  y_br ((nI (z_N h ob2)) ≤ x2)
    (y_mp <|
    some h)
    (y_bi (z_R h o0 0) fun ob6 =>
    y_gd (z_ok h ob6 0) <|
    y_bi (fX0_weightOf ob6 x2 h) fun r8 =>
    y_gd (z_ix x2 (z_N h ob2)) <|
    y_nm (z_sL h ob2 x2.toNatClampNeg ((r8).toInt64)) fun h14 =>
    y_nm (x2 + 1) fun v15 =>
    some (.inl (v15, h14)))
noncomputable def fX2_begin_b36 (o0 : Nat) (x2 : Int32) (h : z_T) : Option (z_T) := y_lp (fun q : Int32 × z_T => fX2_begin_b36_i o0 q.1 q.2) (x2, h)
noncomputable def fX2_begin_b12_i (o0 : Nat) (x2 : Int32) (h : z_T) : Option ((Int32 × z_T) ⊕ (z_T)) :=
  y_gd (z_ok h o0 2) <|
  y_bi (z_R h o0 3) fun ob17 =>
  y_gd (z_ok h ob17 13) <|
  y_br ((nI (z_N h ob17)) ≤ x2)
    (y_mp <|
    fX2_begin_b36 o0 (0 : Int32) h)
    (y_gd (z_ix x2 (z_N h ob17)) <|
    y_nm (z_sI h ob17 x2.toNatClampNeg (0 : Int32)) fun h22 =>
    y_nm (x2 + 1) fun v23 =>
    some (.inl (v23, h22)))
noncomputable def fX2_begin_b12 (o0 : Nat) (x2 : Int32) (h : z_T) : Option (z_T) := y_lp (fun q : Int32 × z_T => fX2_begin_b12_i o0 q.1 q.2) (x2, h)
noncomputable def fX2_begin (o0 : Nat) (o1 : Nat) (h : z_T) : Option (z_T) :=
  y_gd (z_ok h o0 2) <|
  y_gd (z_ok h o1 0) <|
  y_nm (z_sR h o0 0 (some o1)) fun h26 =>
  y_nm (z_sI h26 o0 1 (0 : Int32)) fun h27 =>
  fX2_begin_b12 o0 (0 : Int32) h27
set_option maxHeartbeats 4000000 in
set_option maxRecDepth 100000 in
theorem mm_X2_begin {G : z_Gt} (hSK : z_SK (z_S G)) (l : Launch) (ad : Nat → Nat) (o0 : Nat) (o1 : Nat) (h : z_T) {h9 : z_T} (hv : fX2_begin o0 o1 h = some h9) : z_Mv G (z_S G) l yX2_begin cX2_begin 3 rm_X2_begin 0 0 [.ref (ad o0), .ref (ad o1)] ad h h9 := by
  refine z_ofW hSK (by decide) (Nat.le_of_ble_eq_true rfl) ?_
  intro p e s m args below meth c ls hc hr hnm hB hl
  have hx := hc.1.1
  have hb := hc.1.2.1
  have hown := hc.1.2.2.2.1
  have hts := hc.1.2.2.2.2
  replace hc : z_C G (z_S G) ad (z_n h) p m c cX2_begin 3 s args RX2 meth := hc
  replace hown : s.vm.findClass RX2 = some m.cls := hown
  replace hl : lv_has ls 3 [(0, .ref (ad o0)), (1, .ref (ad o1))] := hl
  show W p l e rm_X2_begin s m args below meth c s.heap [] 0 0 (MQ below (z_Qv G ad h9 (z_n h) s.heap.size) args s 0 0 (z_A ad (z_n h) s.heap.size)) (F0 m 0 ls [])
  obtain ⟨rs, kt⟩ : ∃ rs : z_T, rs = h9 := ⟨_, rfl⟩
  generalize hn0 : z_n h = n0 at hc hB ⊢
  have L36 : ∀ (nn36 : Nat) (x2 : Int32) (h : z_T) (H : Heap) (locs : List Loc) (ls : Array Slot), z_B G ad n0 s h H locs → lv_has ls 3 [(0, .ref (ad o0)), (2, .int x2)] → ∀ vv36, y_lpN (fun q : Int32 × z_T => fX2_begin_b36_i o0 q.1 q.2) nn36 (x2, h) = some vv36 → vv36 = h9 → W p l e rm_X2_begin s m args below meth c H locs 0 0 (MQ below (z_Qv G ad h9 n0 s.heap.size) args s 0 0 (z_A ad n0 s.heap.size)) (F0 m 36 ls []) := by
    intro nn36
    induction nn36 with
    | zero => intro x2 h H locs ls hB hl vv36 hv kv36; exact absurd hv (fun q => y_lpN_0 q)
    | succ nn36 ih36 =>
      intro x2 h H locs ls hB hl vv36 hv kv36
      obtain ⟨w, hq, kw36⟩ := y_lpN_e hv
      clear hv
      have hv : fX2_begin_b36_i o0 x2 h = some w := hq
      clear hq
      refine lv_iload_n hx hb dX2_begin_36 rfl (lv_at hl 1 rfl) ?_
      refine lv_aload_n hx hb dX2_begin_37 rfl (lv_at hl 0 rfl) ?_
      obtain ⟨g1, hv⟩ := y_gd_e hv
      obtain ⟨ob2, eob2, hv⟩ := y_bi_e hv
      refine z_getR hc hB 2 4 g1 eob2 (by decide) (by decide) rfl (z_l1 hc qfX2_18) dX2_begin_38 ?_
      obtain ⟨g3, hv⟩ := y_gd_e hv
      refine z_alen hc hB 14 (by decide) (by decide) g3 dX2_begin_41 ?_
      refine lv_icmp_ge (tgt := 66) hx hb dX2_begin_42 (by decide) (fun c4 => ?_) (fun c4 => ?_)
      · replace hv := y_br_t hv c4
        obtain ⟨t5, hq, ew⟩ := y_mp_e hv
        clear hv; subst ew
        replace kw36 : t5 = _ := kw36
        subst kw36
        have hv := hq
        clear hq
        replace hv := Option.some.inj hv
        subst hv
        rw [← kv36]
        exact z_vret hc hB hr dX2_begin_66
      · replace hv := y_br_f hv c4
        refine lv_aload_n hx hb dX2_begin_45 rfl (lv_at hl 0 rfl) ?_
        refine z_getR hc hB 2 4 g1 eob2 (by decide) (by decide) rfl (z_l1 hc qfX2_18) dX2_begin_46 ?_
        refine lv_iload_n hx hb dX2_begin_49 rfl (lv_at hl 1 rfl) ?_
        refine lv_aload_n hx hb dX2_begin_50 rfl (lv_at hl 0 rfl) ?_
        obtain ⟨ob6, eob6, hv⟩ := y_bi_e hv
        refine z_getR hc hB 2 0 g1 eob6 (by decide) (by decide) rfl (z_l1 hc qfX2_26) dX2_begin_51 ?_
        refine lv_iload_n hx hb dX2_begin_54 rfl (lv_at hl 1 rfl) ?_
        obtain ⟨g12, hv⟩ := y_gd_e hv
        obtain ⟨r8, c7, hv⟩ := y_bi_e hv
        refine z_thI hc hB (z_runV hc hB 0 (mm_X0_weightOf hSK l ad ob6 x2 h c7) md_X0_weightOf qmX2_34 g12 (by decide) rfl rfl rfl ⟨Nat.le_of_ble_eq_true rfl, Nat.le_of_ble_eq_true rfl⟩ rfl hl.1 rfl (Nat.le_of_ble_eq_true rfl) dX2_begin_55 ⟨Nat.le_of_ble_eq_true rfl, Nat.le_of_ble_eq_true rfl⟩) (fun H locs hB => ?_)
        refine lv_i2l hx hb dX2_begin_58 rfl ?_
        obtain ⟨i13, hv⟩ := y_gd_e hv
        obtain ⟨h14, eh14, hv⟩ := y_nm_e hv
        refine y_last hc hB eh14 g3 i13 dX2_begin_59 (fun H locs hB => ?_)
        obtain ⟨v15, ev15, hv⟩ := y_nm_e hv
        refine lv_iinc (v := v15) (lv' := [(2, .int v15), (0, .ref (ad o0))]) hx hb dX2_begin_60 hl (k := 1) rfl (by rw [ev15]; rfl) (by decide) rfl (fun ls hl => ?_)
        refine lv_goto (tgt := 36) hx hb dX2_begin_63 (by decide) ?_
        replace hv := Option.some.inj hv
        subst hv
        exact ih36 v15 h14 _ _ _ hB (lv_sub hl [1, 0] rfl) _ kw36 kv36
  have L12 : ∀ (nn12 : Nat) (x2 : Int32) (h : z_T) (H : Heap) (locs : List Loc) (ls : Array Slot), z_B G ad n0 s h H locs → lv_has ls 3 [(0, .ref (ad o0)), (2, .int x2)] → ∀ vv12, y_lpN (fun q : Int32 × z_T => fX2_begin_b12_i o0 q.1 q.2) nn12 (x2, h) = some vv12 → vv12 = h9 → W p l e rm_X2_begin s m args below meth c H locs 0 0 (MQ below (z_Qv G ad h9 n0 s.heap.size) args s 0 0 (z_A ad n0 s.heap.size)) (F0 m 12 ls []) := by
    intro nn12
    induction nn12 with
    | zero => intro x2 h H locs ls hB hl vv12 hv kv12; exact absurd hv (fun q => y_lpN_0 q)
    | succ nn12 ih12 =>
      intro x2 h H locs ls hB hl vv12 hv kv12
      obtain ⟨w, hq, kw12⟩ := y_lpN_e hv
      clear hv
      have hv : fX2_begin_b12_i o0 x2 h = some w := hq
      clear hq
      refine lv_iload_n hx hb dX2_begin_12 rfl (lv_at hl 1 rfl) ?_
      refine lv_aload_n hx hb dX2_begin_13 rfl (lv_at hl 0 rfl) ?_
      obtain ⟨g16, hv⟩ := y_gd_e hv
      obtain ⟨ob17, eob17, hv⟩ := y_bi_e hv
      refine z_getR hc hB 2 3 g16 eob17 (by decide) (by decide) rfl (z_l1 hc qfX2_15) dX2_begin_14 ?_
      obtain ⟨g18, hv⟩ := y_gd_e hv
      refine z_alen hc hB 13 (by decide) (by decide) g18 dX2_begin_17 ?_
      refine lv_icmp_ge (tgt := 34) hx hb dX2_begin_18 (by decide) (fun c19 => ?_) (fun c19 => ?_)
      · replace hv := y_br_t hv c19
        obtain ⟨t20, hq, ew⟩ := y_mp_e hv
        clear hv; subst ew
        replace kw12 : t20 = _ := kw12
        subst kw12
        have hv := hq
        clear hq
        refine lv_iconst (v := (0 : Int32)) hx hb dX2_begin_34 (by decide) ?_
        refine lv_istore_n (lv' := [(2, .int (0 : Int32)), (0, .ref (ad o0))]) hx hb dX2_begin_35 rfl hl (by decide) rfl (fun ls hl => ?_)
        obtain ⟨n, hv⟩ := y_lp_e hv
        exact L36 n (0 : Int32) h _ _ _ hB (lv_sub hl [1, 0] rfl) _ hv kv12
      · replace hv := y_br_f hv c19
        refine lv_aload_n hx hb dX2_begin_21 rfl (lv_at hl 0 rfl) ?_
        refine z_getR hc hB 2 3 g16 eob17 (by decide) (by decide) rfl (z_l1 hc qfX2_15) dX2_begin_22 ?_
        refine lv_iload_n hx hb dX2_begin_25 rfl (lv_at hl 1 rfl) ?_
        refine lv_iconst (v := (0 : Int32)) hx hb dX2_begin_26 (by decide) ?_
        obtain ⟨i21, hv⟩ := y_gd_e hv
        obtain ⟨h22, eh22, hv⟩ := y_nm_e hv
        refine y_iast hc hB eh22 g18 i21 dX2_begin_27 (fun H locs hB => ?_)
        obtain ⟨v23, ev23, hv⟩ := y_nm_e hv
        refine lv_iinc (v := v23) (lv' := [(2, .int v23), (0, .ref (ad o0))]) hx hb dX2_begin_28 hl (k := 1) rfl (by rw [ev23]; rfl) (by decide) rfl (fun ls hl => ?_)
        refine lv_goto (tgt := 12) hx hb dX2_begin_31 (by decide) ?_
        replace hv := Option.some.inj hv
        subst hv
        exact ih12 v23 h22 _ _ _ hB (lv_sub hl [1, 0] rfl) _ kw12 kv12
  rw [← kt] at hv
  refine lv_aload_n hx hb dX2_begin_0 rfl (lv_at hl 0 rfl) ?_
  refine lv_aload_n hx hb dX2_begin_1 rfl (lv_at hl 1 rfl) ?_
  obtain ⟨g24, hv⟩ := y_gd_e hv
  obtain ⟨g25, hv⟩ := y_gd_e hv
  obtain ⟨h26, eh26, hv⟩ := y_nm_e hv
  refine z_putN hc hB 2 0 (r := (some o1)) rfl (z_hrS (k := 0) g25) eh26 g24 (z_l1 hc qfX2_26) dX2_begin_2 (by decide) (by decide) rfl rfl (fun r => by cases r <;> rfl) (fun r => by cases r <;> rfl) (fun H locs hB => ?_)
  refine lv_aload_n hx hb dX2_begin_5 rfl (lv_at hl 0 rfl) ?_
  refine lv_iconst (v := (0 : Int32)) hx hb dX2_begin_6 (by decide) ?_
  obtain ⟨h27, eh27, hv⟩ := y_nm_e hv
  refine y_putI hc hB 2 1 eh27 (by rw [eh26]; exact g24) (z_l1 hc qfX2_30) dX2_begin_7 (by decide) (by decide) rfl rfl rfl rfl (fun H locs hB => ?_)
  refine lv_iconst (v := (0 : Int32)) hx hb dX2_begin_10 (by decide) ?_
  refine lv_istore_n (lv' := [(2, .int (0 : Int32)), (0, .ref (ad o0)), (1, .ref (ad o1))]) hx hb dX2_begin_11 rfl hl (by decide) rfl (fun ls hl => ?_)
  obtain ⟨n, hv⟩ := y_lp_e hv
  exact L12 n (0 : Int32) h27 _ _ _ hB (lv_sub hl [1, 0] rfl) _ hv kt
theorem qmX2_3 : Cond.methodLink RX2 3 objectInit ∈ z_ws := List.mem_filter.mpr ⟨List.mem_append_right _ (List.mem_of_getElem? (i := 153) (by decide +kernel)), rfl⟩
theorem qfX2_9 : Cond.fieldLink RX2 9 "DreamTests$Night" "answers" "[I" ∈ z_ws := List.mem_filter.mpr ⟨List.mem_append_right _ (List.mem_of_getElem? (i := 169) (by decide +kernel)), rfl⟩
theorem qmX2_22 : Cond.methodLink RX2 22 yX2_begin ∈ z_ws := List.mem_filter.mpr ⟨List.mem_append_right _ (List.mem_of_getElem? (i := 154) (by decide +kernel)), rfl⟩
theorem qn_RX2 : Cond.initialized RX2 ∈ z_ws := List.mem_filter.mpr ⟨List.mem_append_right _ (List.mem_of_getElem? (i := 8) (by decide +kernel)), rfl⟩
theorem qc_X2_begin : Cond.code yX2_begin cX2_begin 3 none ∈ z_ws := List.mem_filter.mpr ⟨List.mem_append_right _ (List.mem_of_getElem? (i := 157) (by decide +kernel)), rfl⟩
theorem qi_X2_begin : Cond.instanceMethod yX2_begin ∈ z_ws := List.mem_filter.mpr ⟨List.mem_append_right _ (List.mem_of_getElem? (i := 155) (by decide +kernel)), rfl⟩
theorem qs_X2_begin : Cond.selects RX2 yX2_begin yX2_begin ∈ z_ws := List.mem_filter.mpr ⟨List.mem_append_right _ (List.mem_of_getElem? (i := 156) (by decide +kernel)), rfl⟩
theorem md_X2_begin : z_mdV yX2_begin cX2_begin 3 none 1 := ⟨⟨qn_RX2, qc_X2_begin, ⟨by decide +kernel, by decide +kernel, by decide +kernel⟩⟩, qi_X2_begin, qs_X2_begin⟩
theorem dX2_init_0 : decode cX2_init 0 = .ok (.aload_n 0, 1) := by decide +kernel
theorem dX2_init_1 : decode cX2_init 1 = .ok (.invokespecial 3, 3) := by decide +kernel
theorem dX2_init_4 : decode cX2_init 4 = .ok (.aload_n 0, 1) := by decide +kernel
theorem dX2_init_5 : decode cX2_init 5 = .ok (.bipush 12, 2) := by decide +kernel
theorem dX2_init_7 : decode cX2_init 7 = .ok (.newarray .int, 2) := by decide +kernel
theorem dX2_init_9 : decode cX2_init 9 = .ok (.putfield 9, 3) := by decide +kernel
theorem dX2_init_12 : decode cX2_init 12 = .ok (.aload_n 0, 1) := by decide +kernel
theorem dX2_init_13 : decode cX2_init 13 = .ok (.bipush 8, 2) := by decide +kernel
theorem dX2_init_15 : decode cX2_init 15 = .ok (.newarray .int, 2) := by decide +kernel
theorem dX2_init_17 : decode cX2_init 17 = .ok (.putfield 15, 3) := by decide +kernel
theorem dX2_init_20 : decode cX2_init 20 = .ok (.aload_n 0, 1) := by decide +kernel
theorem dX2_init_21 : decode cX2_init 21 = .ok (.bipush 7, 2) := by decide +kernel
theorem dX2_init_23 : decode cX2_init 23 = .ok (.newarray .long, 2) := by decide +kernel
theorem dX2_init_25 : decode cX2_init 25 = .ok (.putfield 18, 3) := by decide +kernel
theorem dX2_init_28 : decode cX2_init 28 = .ok (.aload_n 0, 1) := by decide +kernel
theorem dX2_init_29 : decode cX2_init 29 = .ok (.aload_n 1, 1) := by decide +kernel
theorem dX2_init_30 : decode cX2_init 30 = .ok (.invokevirtual 22, 3) := by decide +kernel
theorem dX2_init_33 : decode cX2_init 33 = .ok (.return_, 1) := by decide +kernel
abbrev rm_X2_init : Room := { frames := 2, cells := 3, slots := 27, locals := 43 }
noncomputable def fX2_init (o0 : Nat) (o1 : Nat) (h : z_T) : Option (z_T) :=
  y_nm (z_n h) fun ob1 =>
  y_nm (z_al h 13 12) fun h2 =>
  y_gd (z_ok h2 o0 2) <|
  y_nm (z_sR h2 o0 2 (some ob1)) fun h5 =>
  y_nm (z_n h5) fun ob6 =>
  y_nm (z_al h5 13 8) fun h7 =>
  y_gd (z_ok h7 o0 2) <|
  y_nm (z_sR h7 o0 3 (some ob6)) fun h10 =>
  y_nm (z_n h10) fun ob11 =>
  y_nm (z_al h10 14 7) fun h12 =>
  y_gd (z_ok h12 o0 2) <|
  y_nm (z_sR h12 o0 4 (some ob11)) fun h15 =>
  y_bi (fX2_begin o0 o1 h15) fun h17 =>
  some h17
set_option maxHeartbeats 4000000 in
set_option maxRecDepth 100000 in
theorem mm_X2_init {G : z_Gt} (hSK : z_SK (z_S G)) (l : Launch) (ad : Nat → Nat) (o0 : Nat) (o1 : Nat) (h : z_T) {h9 : z_T} (hv : fX2_init o0 o1 h = some h9) : z_Mv G (z_S G) l yX2_init cX2_init 2 rm_X2_init 3 27 [.ref (ad o0), .ref (ad o1)] ad h h9 := by
  refine z_ofW hSK (by decide) (Nat.le_of_ble_eq_true rfl) ?_
  intro p e s m args below meth c ls hc hr hnm hB hl
  have hx := hc.1.1
  have hb := hc.1.2.1
  have hown := hc.1.2.2.2.1
  have hts := hc.1.2.2.2.2
  replace hc : z_C G (z_S G) ad (z_n h) p m c cX2_init 2 s args RX2 meth := hc
  replace hown : s.vm.findClass RX2 = some m.cls := hown
  replace hl : lv_has ls 2 [(0, .ref (ad o0)), (1, .ref (ad o1))] := hl
  show W p l e rm_X2_init s m args below meth c s.heap [] 0 0 (MQ below (z_Qv G ad h9 (z_n h) s.heap.size) args s 3 27 (z_A ad (z_n h) s.heap.size)) (F0 m 0 ls [])
  obtain ⟨rs, kt⟩ : ∃ rs : z_T, rs = h9 := ⟨_, rfl⟩
  generalize hn0 : z_n h = n0 at hc hB ⊢
  rw [← kt] at hv
  refine lv_aload_n hx hb dX2_init_0 rfl (lv_at hl 0 rfl) ?_
  refine z_objI hc qmX2_3 q_objInst q_objCode hl.1 ⟨Nat.le_of_ble_eq_true rfl, Nat.le_of_ble_eq_true rfl⟩ dX2_init_1 ?_
  refine lv_aload_n hx hb dX2_init_4 rfl (lv_at hl 0 rfl) ?_
  refine lv_bipush (v := (12 : Int32)) hx hb dX2_init_5 (by decide) ?_
  obtain ⟨ob1, eob1, hv⟩ := y_nm_e hv
  obtain ⟨h2, eh2, hv⟩ := y_nm_e hv
  refine z_newarr hc hB 13 12 (n := (12 : Int32)) eh2 (by decide) (by decide) (by decide) rfl qa_int (by decide) (by decide) (Nat.le_of_ble_eq_true rfl) (Nat.le_of_ble_eq_true rfl) dX2_init_7 (fun H hB => ?_)
  rw [← eob1]
  have g3 : z_ok h2 ob1 13 = true := by rw [eh2, eob1]; exact z_al_ok
  obtain ⟨g4, hv⟩ := y_gd_e hv
  obtain ⟨h5, eh5, hv⟩ := y_nm_e hv
  refine z_putF hc hB 2 2 (r := (some ob1)) rfl (z_hrS (k := 13) g3) eh5 g4 qfX2_9 dX2_init_9 hnm (by decide) (by decide) rfl rfl rfl (fun r => by cases r <;> rfl) (fun r => by cases r <;> rfl) (fun H locs hB => ?_)
  refine lv_aload_n hx hb dX2_init_12 rfl (lv_at hl 0 rfl) ?_
  refine lv_bipush (v := (8 : Int32)) hx hb dX2_init_13 (by decide) ?_
  obtain ⟨ob6, eob6, hv⟩ := y_nm_e hv
  obtain ⟨h7, eh7, hv⟩ := y_nm_e hv
  refine z_newarr hc hB 13 8 (n := (8 : Int32)) eh7 (by decide) (by decide) (by decide) rfl qa_int (by decide) (by decide) (Nat.le_of_ble_eq_true rfl) (Nat.le_of_ble_eq_true rfl) dX2_init_15 (fun H hB => ?_)
  rw [← eob6]
  have g8 : z_ok h7 ob6 13 = true := by rw [eh7, eob6]; exact z_al_ok
  obtain ⟨g9, hv⟩ := y_gd_e hv
  obtain ⟨h10, eh10, hv⟩ := y_nm_e hv
  refine z_putF hc hB 2 3 (r := (some ob6)) rfl (z_hrS (k := 13) g8) eh10 g9 qfX2_15 dX2_init_17 hnm (by decide) (by decide) rfl rfl rfl (fun r => by cases r <;> rfl) (fun r => by cases r <;> rfl) (fun H locs hB => ?_)
  refine lv_aload_n hx hb dX2_init_20 rfl (lv_at hl 0 rfl) ?_
  refine lv_bipush (v := (7 : Int32)) hx hb dX2_init_21 (by decide) ?_
  obtain ⟨ob11, eob11, hv⟩ := y_nm_e hv
  obtain ⟨h12, eh12, hv⟩ := y_nm_e hv
  refine z_newarr hc hB 14 7 (n := (7 : Int32)) eh12 (by decide) (by decide) (by decide) rfl qa_long (by decide) (by decide) (Nat.le_of_ble_eq_true rfl) (Nat.le_of_ble_eq_true rfl) dX2_init_23 (fun H hB => ?_)
  rw [← eob11]
  have g13 : z_ok h12 ob11 14 = true := by rw [eh12, eob11]; exact z_al_ok
  obtain ⟨g14, hv⟩ := y_gd_e hv
  obtain ⟨h15, eh15, hv⟩ := y_nm_e hv
  refine z_putF hc hB 2 4 (r := (some ob11)) rfl (z_hrS (k := 14) g13) eh15 g14 qfX2_18 dX2_init_25 hnm (by decide) (by decide) rfl rfl rfl (fun r => by cases r <;> rfl) (fun r => by cases r <;> rfl) (fun H locs hB => ?_)
  refine lv_aload_n hx hb dX2_init_28 rfl (lv_at hl 0 rfl) ?_
  refine lv_aload_n hx hb dX2_init_29 rfl (lv_at hl 1 rfl) ?_
  obtain ⟨h17, c16, hv⟩ := y_bi_e hv
  refine z_thV hc hB (z_runV (rest := []) hc hB 2 (mm_X2_begin hSK l ad o0 o1 h15 c16) md_X2_begin qmX2_22 (by rw [eh15]; exact g14) (by decide) rfl rfl rfl ⟨Nat.le_of_ble_eq_true rfl, Nat.le_of_ble_eq_true rfl⟩ rfl hl.1 rfl (Nat.le_of_ble_eq_true rfl) dX2_init_30 ⟨Nat.le_of_ble_eq_true rfl, Nat.le_of_ble_eq_true rfl⟩) (fun H locs hB => ?_)
  replace hv := Option.some.inj hv
  subst hv
  rw [← kt]
  exact z_vret hc hB hr dX2_init_33
theorem qmX2_40 : Cond.methodLink RX2 40 arraycopyName ∈ z_ws := List.mem_filter.mpr ⟨List.mem_append_right _ (List.mem_of_getElem? (i := 547) (by decide +kernel)), rfl⟩
theorem dX2_copy_0 : decode cX2_copy 0 = .ok (.aload_n 0, 1) := by decide +kernel
theorem dX2_copy_1 : decode cX2_copy 1 = .ok (.aload_n 1, 1) := by decide +kernel
theorem dX2_copy_2 : decode cX2_copy 2 = .ok (.getfield 26, 3) := by decide +kernel
theorem dX2_copy_5 : decode cX2_copy 5 = .ok (.putfield 26, 3) := by decide +kernel
theorem dX2_copy_8 : decode cX2_copy 8 = .ok (.aload_n 0, 1) := by decide +kernel
theorem dX2_copy_9 : decode cX2_copy 9 = .ok (.aload_n 1, 1) := by decide +kernel
theorem dX2_copy_10 : decode cX2_copy 10 = .ok (.getfield 30, 3) := by decide +kernel
theorem dX2_copy_13 : decode cX2_copy 13 = .ok (.putfield 30, 3) := by decide +kernel
theorem dX2_copy_16 : decode cX2_copy 16 = .ok (.aload_n 1, 1) := by decide +kernel
theorem dX2_copy_17 : decode cX2_copy 17 = .ok (.getfield 9, 3) := by decide +kernel
theorem dX2_copy_20 : decode cX2_copy 20 = .ok (.iconst 0, 1) := by decide +kernel
theorem dX2_copy_21 : decode cX2_copy 21 = .ok (.aload_n 0, 1) := by decide +kernel
theorem dX2_copy_22 : decode cX2_copy 22 = .ok (.getfield 9, 3) := by decide +kernel
theorem dX2_copy_25 : decode cX2_copy 25 = .ok (.iconst 0, 1) := by decide +kernel
theorem dX2_copy_26 : decode cX2_copy 26 = .ok (.bipush 12, 2) := by decide +kernel
theorem dX2_copy_28 : decode cX2_copy 28 = .ok (.invokestatic 40, 3) := by decide +kernel
theorem dX2_copy_31 : decode cX2_copy 31 = .ok (.aload_n 1, 1) := by decide +kernel
theorem dX2_copy_32 : decode cX2_copy 32 = .ok (.getfield 15, 3) := by decide +kernel
theorem dX2_copy_35 : decode cX2_copy 35 = .ok (.iconst 0, 1) := by decide +kernel
theorem dX2_copy_36 : decode cX2_copy 36 = .ok (.aload_n 0, 1) := by decide +kernel
theorem dX2_copy_37 : decode cX2_copy 37 = .ok (.getfield 15, 3) := by decide +kernel
theorem dX2_copy_40 : decode cX2_copy 40 = .ok (.iconst 0, 1) := by decide +kernel
theorem dX2_copy_41 : decode cX2_copy 41 = .ok (.bipush 8, 2) := by decide +kernel
theorem dX2_copy_43 : decode cX2_copy 43 = .ok (.invokestatic 40, 3) := by decide +kernel
theorem dX2_copy_46 : decode cX2_copy 46 = .ok (.aload_n 1, 1) := by decide +kernel
theorem dX2_copy_47 : decode cX2_copy 47 = .ok (.getfield 18, 3) := by decide +kernel
theorem dX2_copy_50 : decode cX2_copy 50 = .ok (.iconst 0, 1) := by decide +kernel
theorem dX2_copy_51 : decode cX2_copy 51 = .ok (.aload_n 0, 1) := by decide +kernel
theorem dX2_copy_52 : decode cX2_copy 52 = .ok (.getfield 18, 3) := by decide +kernel
theorem dX2_copy_55 : decode cX2_copy 55 = .ok (.iconst 0, 1) := by decide +kernel
theorem dX2_copy_56 : decode cX2_copy 56 = .ok (.bipush 7, 2) := by decide +kernel
theorem dX2_copy_58 : decode cX2_copy 58 = .ok (.invokestatic 40, 3) := by decide +kernel
theorem dX2_copy_61 : decode cX2_copy 61 = .ok (.return_, 1) := by decide +kernel
abbrev rm_X2_copy : Room := { frames := 1, cells := 0, slots := 0, locals := 60 }
noncomputable def fX2_copy (o0 : Nat) (o1 : Nat) (h : z_T) : Option (z_T) :=
  y_gd (z_ok h o1 2) <|
  y_bi (z_R h o1 0) fun ob2 =>
  y_gd (z_ok h o0 2) <|
  y_gd (z_ok h ob2 0) <|
  y_nm (z_sR h o0 0 (some ob2)) fun h5 =>
  y_nm (z_sI h5 o0 1 (z_I h5 o1 1)) fun h6 =>
  y_bi (z_R h6 o1 2) fun ob7 =>
  y_bi (z_R h6 o0 2) fun ob8 =>
  y_gd (z_ok h6 ob7 13) <|
  y_gd (z_ok h6 ob8 13) <|
  y_gd (z_cpok h6 ob7 ob8 (0 : Int32) (0 : Int32) (12 : Int32)) <|
  y_nm (z_cpI h6 ob7 ob8 (0 : Int32) (0 : Int32) (12 : Int32)) fun h12 =>
  y_bi (z_R h12 o1 3) fun ob13 =>
  y_bi (z_R h12 o0 3) fun ob14 =>
  y_gd (z_ok h12 ob13 13) <|
  y_gd (z_ok h12 ob14 13) <|
  y_gd (z_cpok h12 ob13 ob14 (0 : Int32) (0 : Int32) (8 : Int32)) <|
  y_nm (z_cpI h12 ob13 ob14 (0 : Int32) (0 : Int32) (8 : Int32)) fun h18 =>
  y_bi (z_R h18 o1 4) fun ob19 =>
  y_bi (z_R h18 o0 4) fun ob20 =>
  y_gd (z_ok h18 ob19 14) <|
  y_gd (z_ok h18 ob20 14) <|
  y_gd (z_cpok h18 ob19 ob20 (0 : Int32) (0 : Int32) (7 : Int32)) <|
  y_nm (z_cpL h18 ob19 ob20 (0 : Int32) (0 : Int32) (7 : Int32)) fun h24 =>
  some h24
set_option maxHeartbeats 4000000 in
set_option maxRecDepth 100000 in
theorem mm_X2_copy {G : z_Gt} (hSK : z_SK (z_S G)) (l : Launch) (ad : Nat → Nat) (o0 : Nat) (o1 : Nat) (h : z_T) {h9 : z_T} (hv : fX2_copy o0 o1 h = some h9) : z_Mv G (z_S G) l yX2_copy cX2_copy 2 rm_X2_copy 0 0 [.ref (ad o0), .ref (ad o1)] ad h h9 := by
  refine z_ofW hSK (by decide) (Nat.le_of_ble_eq_true rfl) ?_
  intro p e s m args below meth c ls hc hr hnm hB hl
  have hx := hc.1.1
  have hb := hc.1.2.1
  have hown := hc.1.2.2.2.1
  have hts := hc.1.2.2.2.2
  replace hc : z_C G (z_S G) ad (z_n h) p m c cX2_copy 2 s args RX2 meth := hc
  replace hown : s.vm.findClass RX2 = some m.cls := hown
  replace hl : lv_has ls 2 [(0, .ref (ad o0)), (1, .ref (ad o1))] := hl
  show W p l e rm_X2_copy s m args below meth c s.heap [] 0 0 (MQ below (z_Qv G ad h9 (z_n h) s.heap.size) args s 0 0 (z_A ad (z_n h) s.heap.size)) (F0 m 0 ls [])
  obtain ⟨rs, kt⟩ : ∃ rs : z_T, rs = h9 := ⟨_, rfl⟩
  generalize hn0 : z_n h = n0 at hc hB ⊢
  rw [← kt] at hv
  refine lv_aload_n hx hb dX2_copy_0 rfl (lv_at hl 0 rfl) ?_
  refine lv_aload_n hx hb dX2_copy_1 rfl (lv_at hl 1 rfl) ?_
  obtain ⟨g1, hv⟩ := y_gd_e hv
  obtain ⟨ob2, eob2, hv⟩ := y_bi_e hv
  refine z_getR hc hB 2 0 g1 eob2 (by decide) (by decide) rfl (z_l1 hc qfX2_26) dX2_copy_2 ?_
  obtain ⟨g3, hv⟩ := y_gd_e hv
  obtain ⟨g4, hv⟩ := y_gd_e hv
  obtain ⟨h5, eh5, hv⟩ := y_nm_e hv
  refine z_putN hc hB 2 0 (r := (some ob2)) rfl (z_hrS (k := 0) g4) eh5 g3 (z_l1 hc qfX2_26) dX2_copy_5 (by decide) (by decide) rfl rfl (fun r => by cases r <;> rfl) (fun r => by cases r <;> rfl) (fun H locs hB => ?_)
  refine lv_aload_n hx hb dX2_copy_8 rfl (lv_at hl 0 rfl) ?_
  refine lv_aload_n hx hb dX2_copy_9 rfl (lv_at hl 1 rfl) ?_
  refine z_getI hc hB 2 1 (by rw [eh5]; exact g1) (by decide) (by decide) rfl (z_l1 hc qfX2_30) dX2_copy_10 ?_
  obtain ⟨h6, eh6, hv⟩ := y_nm_e hv
  refine y_putI hc hB 2 1 eh6 (by rw [eh5]; exact g3) (z_l1 hc qfX2_30) dX2_copy_13 (by decide) (by decide) rfl rfl rfl rfl (fun H locs hB => ?_)
  refine lv_aload_n hx hb dX2_copy_16 rfl (lv_at hl 1 rfl) ?_
  obtain ⟨ob7, eob7, hv⟩ := y_bi_e hv
  refine z_getR hc hB 2 2 (by rw [eh6, eh5]; exact g1) eob7 (by decide) (by decide) rfl (z_l1 hc qfX2_9) dX2_copy_17 ?_
  refine lv_iconst (v := (0 : Int32)) hx hb dX2_copy_20 (by decide) ?_
  refine lv_aload_n hx hb dX2_copy_21 rfl (lv_at hl 0 rfl) ?_
  obtain ⟨ob8, eob8, hv⟩ := y_bi_e hv
  refine z_getR hc hB 2 2 (by rw [eh6, eh5]; exact g3) eob8 (by decide) (by decide) rfl (z_l1 hc qfX2_9) dX2_copy_22 ?_
  refine lv_iconst (v := (0 : Int32)) hx hb dX2_copy_25 (by decide) ?_
  refine lv_bipush (v := (12 : Int32)) hx hb dX2_copy_26 (by decide) ?_
  obtain ⟨g9, hv⟩ := y_gd_e hv
  obtain ⟨g10, hv⟩ := y_gd_e hv
  obtain ⟨k11, hv⟩ := y_gd_e hv
  obtain ⟨h12, eh12, hv⟩ := y_nm_e hv
  refine z_acopyI hc hB eh12 g9 g10 k11 qmX2_40 q_acNat q_acSt q_sysIni hl.1 (Nat.le_of_ble_eq_true rfl) (by decide) dX2_copy_28 (fun H locs hB => ?_)
  refine lv_aload_n hx hb dX2_copy_31 rfl (lv_at hl 1 rfl) ?_
  obtain ⟨ob13, eob13, hv⟩ := y_bi_e hv
  refine z_getR hc hB 2 3 (by rw [eh12, eh6, eh5]; exact g1) eob13 (by decide) (by decide) rfl (z_l1 hc qfX2_15) dX2_copy_32 ?_
  refine lv_iconst (v := (0 : Int32)) hx hb dX2_copy_35 (by decide) ?_
  refine lv_aload_n hx hb dX2_copy_36 rfl (lv_at hl 0 rfl) ?_
  obtain ⟨ob14, eob14, hv⟩ := y_bi_e hv
  refine z_getR hc hB 2 3 (by rw [eh12, eh6, eh5]; exact g3) eob14 (by decide) (by decide) rfl (z_l1 hc qfX2_15) dX2_copy_37 ?_
  refine lv_iconst (v := (0 : Int32)) hx hb dX2_copy_40 (by decide) ?_
  refine lv_bipush (v := (8 : Int32)) hx hb dX2_copy_41 (by decide) ?_
  obtain ⟨g15, hv⟩ := y_gd_e hv
  obtain ⟨g16, hv⟩ := y_gd_e hv
  obtain ⟨k17, hv⟩ := y_gd_e hv
  obtain ⟨h18, eh18, hv⟩ := y_nm_e hv
  refine z_acopyI hc hB eh18 g15 g16 k17 qmX2_40 q_acNat q_acSt q_sysIni hl.1 (Nat.le_of_ble_eq_true rfl) (by decide) dX2_copy_43 (fun H locs hB => ?_)
  refine lv_aload_n hx hb dX2_copy_46 rfl (lv_at hl 1 rfl) ?_
  obtain ⟨ob19, eob19, hv⟩ := y_bi_e hv
  refine z_getR hc hB 2 4 (by rw [eh18, eh12, eh6, eh5]; exact g1) eob19 (by decide) (by decide) rfl (z_l1 hc qfX2_18) dX2_copy_47 ?_
  refine lv_iconst (v := (0 : Int32)) hx hb dX2_copy_50 (by decide) ?_
  refine lv_aload_n hx hb dX2_copy_51 rfl (lv_at hl 0 rfl) ?_
  obtain ⟨ob20, eob20, hv⟩ := y_bi_e hv
  refine z_getR hc hB 2 4 (by rw [eh18, eh12, eh6, eh5]; exact g3) eob20 (by decide) (by decide) rfl (z_l1 hc qfX2_18) dX2_copy_52 ?_
  refine lv_iconst (v := (0 : Int32)) hx hb dX2_copy_55 (by decide) ?_
  refine lv_bipush (v := (7 : Int32)) hx hb dX2_copy_56 (by decide) ?_
  obtain ⟨g21, hv⟩ := y_gd_e hv
  obtain ⟨g22, hv⟩ := y_gd_e hv
  obtain ⟨k23, hv⟩ := y_gd_e hv
  obtain ⟨h24, eh24, hv⟩ := y_nm_e hv
  refine z_acopyL hc hB eh24 g21 g22 k23 qmX2_40 q_acNat q_acSt q_sysIni hl.1 (Nat.le_of_ble_eq_true rfl) (by decide) dX2_copy_58 (fun H locs hB => ?_)
  replace hv := Option.some.inj hv
  subst hv
  rw [← kt]
  exact z_vret hc hB hr dX2_copy_61
theorem dX2_isFull_0 : decode cX2_isFull 0 = .ok (.aload_n 0, 1) := by decide +kernel
theorem dX2_isFull_1 : decode cX2_isFull 1 = .ok (.getfield 30, 3) := by decide +kernel
theorem dX2_isFull_4 : decode cX2_isFull 4 = .ok (.bipush 12, 2) := by decide +kernel
theorem dX2_isFull_6 : decode cX2_isFull 6 = .ok (.if_icmp .lt 7, 3) := by decide +kernel
theorem dX2_isFull_9 : decode cX2_isFull 9 = .ok (.iconst 1, 1) := by decide +kernel
theorem dX2_isFull_10 : decode cX2_isFull 10 = .ok (.goto 4, 3) := by decide +kernel
theorem dX2_isFull_13 : decode cX2_isFull 13 = .ok (.iconst 0, 1) := by decide +kernel
theorem dX2_isFull_14 : decode cX2_isFull 14 = .ok (.ireturn, 1) := by decide +kernel
abbrev rm_X2_isFull : Room := { frames := 0, cells := 0, slots := 0, locals := 0 }
noncomputable def fX2_isFull (o0 : Nat) (h : z_T) : Option (Int32) :=
  y_gd (z_ok h o0 2) <|
  y_br ((z_I h o0 1) < (12 : Int32))
    (some (0 : Int32))
    (some (1 : Int32))
set_option maxHeartbeats 4000000 in
set_option maxRecDepth 100000 in
theorem mm_X2_isFull {G : z_Gt} (hSK : z_SK (z_S G)) (l : Launch) (ad : Nat → Nat) (o0 : Nat) (h : z_T) {r0 : Int32} (hv : fX2_isFull o0 h = some r0) : z_Mi G (z_S G) l yX2_isFull cX2_isFull 1 (.boolean) rm_X2_isFull 0 0 [.ref (ad o0)] ad h h r0 := by
  refine z_ofW hSK (by decide) (Nat.le_of_ble_eq_true rfl) ?_
  intro p e s m args below meth c ls hc hr hnm hB hl
  have hx := hc.1.1
  have hb := hc.1.2.1
  have hown := hc.1.2.2.2.1
  have hts := hc.1.2.2.2.2
  replace hc : z_C G (z_S G) ad (z_n h) p m c cX2_isFull 1 s args RX2 meth := hc
  replace hown : s.vm.findClass RX2 = some m.cls := hown
  replace hl : lv_has ls 1 [(0, .ref (ad o0))] := hl
  show W p l e rm_X2_isFull s m args below meth c s.heap [] 0 0 (MQ below (z_Qi G ad h (z_n h) s.heap.size r0) args s 0 0 (z_A ad (z_n h) s.heap.size)) (F0 m 0 ls [])
  obtain ⟨rs, kt⟩ : ∃ rs : Int32, rs = r0 := ⟨_, rfl⟩
  generalize hn0 : z_n h = n0 at hc hB ⊢
  rw [← kt] at hv
  refine lv_aload_n hx hb dX2_isFull_0 rfl (lv_at hl 0 rfl) ?_
  obtain ⟨g1, hv⟩ := y_gd_e hv
  refine z_getI hc hB 2 1 g1 (by decide) (by decide) rfl (z_l1 hc qfX2_30) dX2_isFull_1 ?_
  refine lv_bipush (v := (12 : Int32)) hx hb dX2_isFull_4 (by decide) ?_
  refine lv_icmp_lt (tgt := 13) hx hb dX2_isFull_6 (by decide) (fun c2 => ?_) (fun c2 => ?_)
  · replace hv := y_br_t hv c2
    refine lv_iconst (v := (0 : Int32)) hx hb dX2_isFull_13 (by decide) ?_
    replace hv := Option.some.inj hv
    subst hv
    rw [← kt]
    exact z_zret hc hB hr rfl dX2_isFull_14
  · replace hv := y_br_f hv c2
    refine lv_iconst (v := (1 : Int32)) hx hb dX2_isFull_9 (by decide) ?_
    refine lv_goto (tgt := 14) hx hb dX2_isFull_10 (by decide) ?_
    replace hv := Option.some.inj hv
    subst hv
    rw [← kt]
    exact z_zret hc hB hr rfl dX2_isFull_14
theorem dX2_answerAt_0 : decode cX2_answerAt 0 = .ok (.iload_n 1, 1) := by decide +kernel
theorem dX2_answerAt_1 : decode cX2_answerAt 1 = .ok (.ifCond .lt 29, 3) := by decide +kernel
theorem dX2_answerAt_4 : decode cX2_answerAt 4 = .ok (.iload_n 1, 1) := by decide +kernel
theorem dX2_answerAt_5 : decode cX2_answerAt 5 = .ok (.aload_n 0, 1) := by decide +kernel
theorem dX2_answerAt_6 : decode cX2_answerAt 6 = .ok (.getfield 30, 3) := by decide +kernel
theorem dX2_answerAt_9 : decode cX2_answerAt 9 = .ok (.if_icmp .ge 21, 3) := by decide +kernel
theorem dX2_answerAt_12 : decode cX2_answerAt 12 = .ok (.iload_n 1, 1) := by decide +kernel
theorem dX2_answerAt_13 : decode cX2_answerAt 13 = .ok (.aload_n 0, 1) := by decide +kernel
theorem dX2_answerAt_14 : decode cX2_answerAt 14 = .ok (.getfield 9, 3) := by decide +kernel
theorem dX2_answerAt_17 : decode cX2_answerAt 17 = .ok (.arraylength, 1) := by decide +kernel
theorem dX2_answerAt_18 : decode cX2_answerAt 18 = .ok (.if_icmp .ge 12, 3) := by decide +kernel
theorem dX2_answerAt_21 : decode cX2_answerAt 21 = .ok (.aload_n 0, 1) := by decide +kernel
theorem dX2_answerAt_22 : decode cX2_answerAt 22 = .ok (.getfield 9, 3) := by decide +kernel
theorem dX2_answerAt_25 : decode cX2_answerAt 25 = .ok (.iload_n 1, 1) := by decide +kernel
theorem dX2_answerAt_26 : decode cX2_answerAt 26 = .ok (.iaload, 1) := by decide +kernel
theorem dX2_answerAt_27 : decode cX2_answerAt 27 = .ok (.goto 4, 3) := by decide +kernel
theorem dX2_answerAt_30 : decode cX2_answerAt 30 = .ok (.iconst (-1), 1) := by decide +kernel
theorem dX2_answerAt_31 : decode cX2_answerAt 31 = .ok (.ireturn, 1) := by decide +kernel
abbrev rm_X2_answerAt : Room := { frames := 0, cells := 0, slots := 0, locals := 0 }
noncomputable def fX2_answerAt_b30  (h : z_T) : Option (Int32) :=
  some (-1 : Int32)
noncomputable def fX2_answerAt (o0 : Nat) (x1 : Int32) (h : z_T) : Option (Int32) :=
  y_br (x1 < 0)
    (fX2_answerAt_b30 h)
    (y_gd (z_ok h o0 2) <|
    y_br ((z_I h o0 1) ≤ x1)
      (fX2_answerAt_b30 h)
      (y_bi (z_R h o0 2) fun o4 =>
      y_gd (z_ok h o4 13) <|
      y_br ((nI (z_N h o4)) ≤ x1)
        (fX2_answerAt_b30 h)
        (y_gd (z_ix x1 (z_N h o4)) <|
        some (z_I h o4 x1.toNatClampNeg))))
set_option maxHeartbeats 4000000 in
set_option maxRecDepth 100000 in
theorem mm_X2_answerAt {G : z_Gt} (hSK : z_SK (z_S G)) (l : Launch) (ad : Nat → Nat) (o0 : Nat) (x1 : Int32) (h : z_T) {r0 : Int32} (hv : fX2_answerAt o0 x1 h = some r0) : z_Mi G (z_S G) l yX2_answerAt cX2_answerAt 2 (.int) rm_X2_answerAt 0 0 [.ref (ad o0), .int x1] ad h h r0 := by
  refine z_ofW hSK (by decide) (Nat.le_of_ble_eq_true rfl) ?_
  intro p e s m args below meth c ls hc hr hnm hB hl
  have hx := hc.1.1
  have hb := hc.1.2.1
  have hown := hc.1.2.2.2.1
  have hts := hc.1.2.2.2.2
  replace hc : z_C G (z_S G) ad (z_n h) p m c cX2_answerAt 2 s args RX2 meth := hc
  replace hown : s.vm.findClass RX2 = some m.cls := hown
  replace hl : lv_has ls 2 [(0, .ref (ad o0)), (1, .int x1)] := hl
  show W p l e rm_X2_answerAt s m args below meth c s.heap [] 0 0 (MQ below (z_Qi G ad h (z_n h) s.heap.size r0) args s 0 0 (z_A ad (z_n h) s.heap.size)) (F0 m 0 ls [])
  obtain ⟨rs, kt⟩ : ∃ rs : Int32, rs = r0 := ⟨_, rfl⟩
  generalize hn0 : z_n h = n0 at hc hB ⊢
  have b30 : ∀ (H : Heap) (locs : List Loc) (ls : Array Slot), z_B G ad n0 s h H locs → lv_has ls 2 [] → ∀ w, fX2_answerAt_b30 h = some w → w = r0 → W p l e rm_X2_answerAt s m args below meth c H locs 0 0 (MQ below (z_Qi G ad h n0 s.heap.size r0) args s 0 0 (z_A ad n0 s.heap.size)) (F0 m 30 ls []) := by
    intro H locs ls hB hl w hv kb
    refine lv_iconst (v := (-1 : Int32)) hx hb dX2_answerAt_30 (by decide) ?_
    replace hv := Option.some.inj hv
    subst hv
    rw [← kb]
    exact z_iret hc hB hr dX2_answerAt_31
  rw [← kt] at hv
  refine lv_iload_n hx hb dX2_answerAt_0 rfl (lv_at hl 1 rfl) ?_
  refine lv_if_lt (tgt := 30) hx hb dX2_answerAt_1 (by decide) (fun c1 => ?_) (fun c1 => ?_)
  · replace hv := y_br_t hv c1
    exact b30 _ _ _ hB (lv_sub hl [] rfl) _ hv kt
  · replace hv := y_br_f hv c1
    refine lv_iload_n hx hb dX2_answerAt_4 rfl (lv_at hl 1 rfl) ?_
    refine lv_aload_n hx hb dX2_answerAt_5 rfl (lv_at hl 0 rfl) ?_
    obtain ⟨g2, hv⟩ := y_gd_e hv
    refine z_getI hc hB 2 1 g2 (by decide) (by decide) rfl (z_l1 hc qfX2_30) dX2_answerAt_6 ?_
    refine lv_icmp_ge (tgt := 30) hx hb dX2_answerAt_9 (by decide) (fun c3 => ?_) (fun c3 => ?_)
    · replace hv := y_br_t hv c3
      exact b30 _ _ _ hB (lv_sub hl [] rfl) _ hv kt
    · replace hv := y_br_f hv c3
      refine lv_iload_n hx hb dX2_answerAt_12 rfl (lv_at hl 1 rfl) ?_
      refine lv_aload_n hx hb dX2_answerAt_13 rfl (lv_at hl 0 rfl) ?_
      obtain ⟨o4, eo4, hv⟩ := y_bi_e hv
      refine z_getR hc hB 2 2 g2 eo4 (by decide) (by decide) rfl (z_l1 hc qfX2_9) dX2_answerAt_14 ?_
      obtain ⟨g5, hv⟩ := y_gd_e hv
      refine z_alen hc hB 13 (by decide) (by decide) g5 dX2_answerAt_17 ?_
      refine lv_icmp_ge (tgt := 30) hx hb dX2_answerAt_18 (by decide) (fun c6 => ?_) (fun c6 => ?_)
      · replace hv := y_br_t hv c6
        exact b30 _ _ _ hB (lv_sub hl [] rfl) _ hv kt
      · replace hv := y_br_f hv c6
        refine lv_aload_n hx hb dX2_answerAt_21 rfl (lv_at hl 0 rfl) ?_
        refine z_getR hc hB 2 2 g2 eo4 (by decide) (by decide) rfl (z_l1 hc qfX2_9) dX2_answerAt_22 ?_
        refine lv_iload_n hx hb dX2_answerAt_25 rfl (lv_at hl 1 rfl) ?_
        obtain ⟨i7, hv⟩ := y_gd_e hv
        refine z_iald hc hB g5 i7 dX2_answerAt_26 ?_
        refine lv_goto (tgt := 31) hx hb dX2_answerAt_27 (by decide) ?_
        replace hv := Option.some.inj hv
        subst hv
        rw [← kt]
        exact z_iret hc hB hr dX2_answerAt_31
theorem dX2_timesAsked_0 : decode cX2_timesAsked 0 = .ok (.iload_n 1, 1) := by decide +kernel
theorem dX2_timesAsked_1 : decode cX2_timesAsked 1 = .ok (.ifCond .lt 21, 3) := by decide +kernel
theorem dX2_timesAsked_4 : decode cX2_timesAsked 4 = .ok (.iload_n 1, 1) := by decide +kernel
theorem dX2_timesAsked_5 : decode cX2_timesAsked 5 = .ok (.aload_n 0, 1) := by decide +kernel
theorem dX2_timesAsked_6 : decode cX2_timesAsked 6 = .ok (.getfield 15, 3) := by decide +kernel
theorem dX2_timesAsked_9 : decode cX2_timesAsked 9 = .ok (.arraylength, 1) := by decide +kernel
theorem dX2_timesAsked_10 : decode cX2_timesAsked 10 = .ok (.if_icmp .ge 12, 3) := by decide +kernel
theorem dX2_timesAsked_13 : decode cX2_timesAsked 13 = .ok (.aload_n 0, 1) := by decide +kernel
theorem dX2_timesAsked_14 : decode cX2_timesAsked 14 = .ok (.getfield 15, 3) := by decide +kernel
theorem dX2_timesAsked_17 : decode cX2_timesAsked 17 = .ok (.iload_n 1, 1) := by decide +kernel
theorem dX2_timesAsked_18 : decode cX2_timesAsked 18 = .ok (.iaload, 1) := by decide +kernel
theorem dX2_timesAsked_19 : decode cX2_timesAsked 19 = .ok (.goto 4, 3) := by decide +kernel
theorem dX2_timesAsked_22 : decode cX2_timesAsked 22 = .ok (.iconst 0, 1) := by decide +kernel
theorem dX2_timesAsked_23 : decode cX2_timesAsked 23 = .ok (.ireturn, 1) := by decide +kernel
abbrev rm_X2_timesAsked : Room := { frames := 0, cells := 0, slots := 0, locals := 0 }
noncomputable def fX2_timesAsked_b22  (h : z_T) : Option (Int32) :=
  some (0 : Int32)
noncomputable def fX2_timesAsked (o0 : Nat) (x1 : Int32) (h : z_T) : Option (Int32) :=
  y_br (x1 < 0)
    (fX2_timesAsked_b22 h)
    (y_gd (z_ok h o0 2) <|
    y_bi (z_R h o0 3) fun o3 =>
    y_gd (z_ok h o3 13) <|
    y_br ((nI (z_N h o3)) ≤ x1)
      (fX2_timesAsked_b22 h)
      (y_gd (z_ix x1 (z_N h o3)) <|
      some (z_I h o3 x1.toNatClampNeg)))
set_option maxHeartbeats 4000000 in
set_option maxRecDepth 100000 in
theorem mm_X2_timesAsked {G : z_Gt} (hSK : z_SK (z_S G)) (l : Launch) (ad : Nat → Nat) (o0 : Nat) (x1 : Int32) (h : z_T) {r0 : Int32} (hv : fX2_timesAsked o0 x1 h = some r0) : z_Mi G (z_S G) l yX2_timesAsked cX2_timesAsked 2 (.int) rm_X2_timesAsked 0 0 [.ref (ad o0), .int x1] ad h h r0 := by
  refine z_ofW hSK (by decide) (Nat.le_of_ble_eq_true rfl) ?_
  intro p e s m args below meth c ls hc hr hnm hB hl
  have hx := hc.1.1
  have hb := hc.1.2.1
  have hown := hc.1.2.2.2.1
  have hts := hc.1.2.2.2.2
  replace hc : z_C G (z_S G) ad (z_n h) p m c cX2_timesAsked 2 s args RX2 meth := hc
  replace hown : s.vm.findClass RX2 = some m.cls := hown
  replace hl : lv_has ls 2 [(0, .ref (ad o0)), (1, .int x1)] := hl
  show W p l e rm_X2_timesAsked s m args below meth c s.heap [] 0 0 (MQ below (z_Qi G ad h (z_n h) s.heap.size r0) args s 0 0 (z_A ad (z_n h) s.heap.size)) (F0 m 0 ls [])
  obtain ⟨rs, kt⟩ : ∃ rs : Int32, rs = r0 := ⟨_, rfl⟩
  generalize hn0 : z_n h = n0 at hc hB ⊢
  have b22 : ∀ (H : Heap) (locs : List Loc) (ls : Array Slot), z_B G ad n0 s h H locs → lv_has ls 2 [] → ∀ w, fX2_timesAsked_b22 h = some w → w = r0 → W p l e rm_X2_timesAsked s m args below meth c H locs 0 0 (MQ below (z_Qi G ad h n0 s.heap.size r0) args s 0 0 (z_A ad n0 s.heap.size)) (F0 m 22 ls []) := by
    intro H locs ls hB hl w hv kb
    refine lv_iconst (v := (0 : Int32)) hx hb dX2_timesAsked_22 (by decide) ?_
    replace hv := Option.some.inj hv
    subst hv
    rw [← kb]
    exact z_iret hc hB hr dX2_timesAsked_23
  rw [← kt] at hv
  refine lv_iload_n hx hb dX2_timesAsked_0 rfl (lv_at hl 1 rfl) ?_
  refine lv_if_lt (tgt := 22) hx hb dX2_timesAsked_1 (by decide) (fun c1 => ?_) (fun c1 => ?_)
  · replace hv := y_br_t hv c1
    exact b22 _ _ _ hB (lv_sub hl [] rfl) _ hv kt
  · replace hv := y_br_f hv c1
    refine lv_iload_n hx hb dX2_timesAsked_4 rfl (lv_at hl 1 rfl) ?_
    refine lv_aload_n hx hb dX2_timesAsked_5 rfl (lv_at hl 0 rfl) ?_
    obtain ⟨g2, hv⟩ := y_gd_e hv
    obtain ⟨o3, eo3, hv⟩ := y_bi_e hv
    refine z_getR hc hB 2 3 g2 eo3 (by decide) (by decide) rfl (z_l1 hc qfX2_15) dX2_timesAsked_6 ?_
    obtain ⟨g4, hv⟩ := y_gd_e hv
    refine z_alen hc hB 13 (by decide) (by decide) g4 dX2_timesAsked_9 ?_
    refine lv_icmp_ge (tgt := 22) hx hb dX2_timesAsked_10 (by decide) (fun c5 => ?_) (fun c5 => ?_)
    · replace hv := y_br_t hv c5
      exact b22 _ _ _ hB (lv_sub hl [] rfl) _ hv kt
    · replace hv := y_br_f hv c5
      refine lv_aload_n hx hb dX2_timesAsked_13 rfl (lv_at hl 0 rfl) ?_
      refine z_getR hc hB 2 3 g2 eo3 (by decide) (by decide) rfl (z_l1 hc qfX2_15) dX2_timesAsked_14 ?_
      refine lv_iload_n hx hb dX2_timesAsked_17 rfl (lv_at hl 1 rfl) ?_
      obtain ⟨i6, hv⟩ := y_gd_e hv
      refine z_iald hc hB g4 i6 dX2_timesAsked_18 ?_
      refine lv_goto (tgt := 23) hx hb dX2_timesAsked_19 (by decide) ?_
      replace hv := Option.some.inj hv
      subst hv
      rw [← kt]
      exact z_iret hc hB hr dX2_timesAsked_23
theorem dX2_ofPlace_0 : decode cX2_ofPlace 0 = .ok (.iload_n 1, 1) := by decide +kernel
theorem dX2_ofPlace_1 : decode cX2_ofPlace 1 = .ok (.ifCond .lt 21, 3) := by decide +kernel
theorem dX2_ofPlace_4 : decode cX2_ofPlace 4 = .ok (.iload_n 1, 1) := by decide +kernel
theorem dX2_ofPlace_5 : decode cX2_ofPlace 5 = .ok (.aload_n 0, 1) := by decide +kernel
theorem dX2_ofPlace_6 : decode cX2_ofPlace 6 = .ok (.getfield 18, 3) := by decide +kernel
theorem dX2_ofPlace_9 : decode cX2_ofPlace 9 = .ok (.arraylength, 1) := by decide +kernel
theorem dX2_ofPlace_10 : decode cX2_ofPlace 10 = .ok (.if_icmp .ge 12, 3) := by decide +kernel
theorem dX2_ofPlace_13 : decode cX2_ofPlace 13 = .ok (.aload_n 0, 1) := by decide +kernel
theorem dX2_ofPlace_14 : decode cX2_ofPlace 14 = .ok (.getfield 18, 3) := by decide +kernel
theorem dX2_ofPlace_17 : decode cX2_ofPlace 17 = .ok (.iload_n 1, 1) := by decide +kernel
theorem dX2_ofPlace_18 : decode cX2_ofPlace 18 = .ok (.laload, 1) := by decide +kernel
theorem dX2_ofPlace_19 : decode cX2_ofPlace 19 = .ok (.goto 4, 3) := by decide +kernel
theorem dX2_ofPlace_22 : decode cX2_ofPlace 22 = .ok (.lconst 0, 1) := by decide +kernel
theorem dX2_ofPlace_23 : decode cX2_ofPlace 23 = .ok (.lreturn, 1) := by decide +kernel
abbrev rm_X2_ofPlace : Room := { frames := 0, cells := 0, slots := 0, locals := 0 }
noncomputable def fX2_ofPlace_b22  (h : z_T) : Option (Int64) :=
  some (0 : Int64)
noncomputable def fX2_ofPlace (o0 : Nat) (x1 : Int32) (h : z_T) : Option (Int64) :=
  y_br (x1 < 0)
    (fX2_ofPlace_b22 h)
    (y_gd (z_ok h o0 2) <|
    y_bi (z_R h o0 4) fun o3 =>
    y_gd (z_ok h o3 14) <|
    y_br ((nI (z_N h o3)) ≤ x1)
      (fX2_ofPlace_b22 h)
      (y_gd (z_ix x1 (z_N h o3)) <|
      some (z_L h o3 x1.toNatClampNeg)))
set_option maxHeartbeats 4000000 in
set_option maxRecDepth 100000 in
theorem mm_X2_ofPlace {G : z_Gt} (hSK : z_SK (z_S G)) (l : Launch) (ad : Nat → Nat) (o0 : Nat) (x1 : Int32) (h : z_T) {r0 : Int64} (hv : fX2_ofPlace o0 x1 h = some r0) : z_Ml G (z_S G) l yX2_ofPlace cX2_ofPlace 2 (.long) rm_X2_ofPlace 0 0 [.ref (ad o0), .int x1] ad h h r0 := by
  refine z_ofW hSK (by decide) (Nat.le_of_ble_eq_true rfl) ?_
  intro p e s m args below meth c ls hc hr hnm hB hl
  have hx := hc.1.1
  have hb := hc.1.2.1
  have hown := hc.1.2.2.2.1
  have hts := hc.1.2.2.2.2
  replace hc : z_C G (z_S G) ad (z_n h) p m c cX2_ofPlace 2 s args RX2 meth := hc
  replace hown : s.vm.findClass RX2 = some m.cls := hown
  replace hl : lv_has ls 2 [(0, .ref (ad o0)), (1, .int x1)] := hl
  show W p l e rm_X2_ofPlace s m args below meth c s.heap [] 0 0 (MQ below (z_Ql G ad h (z_n h) s.heap.size r0) args s 0 0 (z_A ad (z_n h) s.heap.size)) (F0 m 0 ls [])
  obtain ⟨rs, kt⟩ : ∃ rs : Int64, rs = r0 := ⟨_, rfl⟩
  generalize hn0 : z_n h = n0 at hc hB ⊢
  have b22 : ∀ (H : Heap) (locs : List Loc) (ls : Array Slot), z_B G ad n0 s h H locs → lv_has ls 2 [] → ∀ w, fX2_ofPlace_b22 h = some w → w = r0 → W p l e rm_X2_ofPlace s m args below meth c H locs 0 0 (MQ below (z_Ql G ad h n0 s.heap.size r0) args s 0 0 (z_A ad n0 s.heap.size)) (F0 m 22 ls []) := by
    intro H locs ls hB hl w hv kb
    refine lv_lconst (v := (0 : Int64)) hx hb dX2_ofPlace_22 (by decide) ?_
    replace hv := Option.some.inj hv
    subst hv
    rw [← kb]
    exact z_lret hc hB hr dX2_ofPlace_23
  rw [← kt] at hv
  refine lv_iload_n hx hb dX2_ofPlace_0 rfl (lv_at hl 1 rfl) ?_
  refine lv_if_lt (tgt := 22) hx hb dX2_ofPlace_1 (by decide) (fun c1 => ?_) (fun c1 => ?_)
  · replace hv := y_br_t hv c1
    exact b22 _ _ _ hB (lv_sub hl [] rfl) _ hv kt
  · replace hv := y_br_f hv c1
    refine lv_iload_n hx hb dX2_ofPlace_4 rfl (lv_at hl 1 rfl) ?_
    refine lv_aload_n hx hb dX2_ofPlace_5 rfl (lv_at hl 0 rfl) ?_
    obtain ⟨g2, hv⟩ := y_gd_e hv
    obtain ⟨o3, eo3, hv⟩ := y_bi_e hv
    refine z_getR hc hB 2 4 g2 eo3 (by decide) (by decide) rfl (z_l1 hc qfX2_18) dX2_ofPlace_6 ?_
    obtain ⟨g4, hv⟩ := y_gd_e hv
    refine z_alen hc hB 14 (by decide) (by decide) g4 dX2_ofPlace_9 ?_
    refine lv_icmp_ge (tgt := 22) hx hb dX2_ofPlace_10 (by decide) (fun c5 => ?_) (fun c5 => ?_)
    · replace hv := y_br_t hv c5
      exact b22 _ _ _ hB (lv_sub hl [] rfl) _ hv kt
    · replace hv := y_br_f hv c5
      refine lv_aload_n hx hb dX2_ofPlace_13 rfl (lv_at hl 0 rfl) ?_
      refine z_getR hc hB 2 4 g2 eo3 (by decide) (by decide) rfl (z_l1 hc qfX2_18) dX2_ofPlace_14 ?_
      refine lv_iload_n hx hb dX2_ofPlace_17 rfl (lv_at hl 1 rfl) ?_
      obtain ⟨i6, hv⟩ := y_gd_e hv
      refine z_lald hc hB g4 i6 dX2_ofPlace_18 ?_
      refine lv_goto (tgt := 23) hx hb dX2_ofPlace_19 (by decide) ?_
      replace hv := Option.some.inj hv
      subst hv
      rw [← kt]
      exact z_lret hc hB hr dX2_ofPlace_23
theorem qmX2_46 : Cond.methodLink RX2 46 yX2_ofPlace ∈ z_ws := List.mem_filter.mpr ⟨List.mem_append_right _ (List.mem_of_getElem? (i := 530) (by decide +kernel)), rfl⟩
theorem qc_X2_ofPlace : Cond.code yX2_ofPlace cX2_ofPlace 2 (some .long) ∈ z_ws := List.mem_filter.mpr ⟨List.mem_append_right _ (List.mem_of_getElem? (i := 533) (by decide +kernel)), rfl⟩
theorem qi_X2_ofPlace : Cond.instanceMethod yX2_ofPlace ∈ z_ws := List.mem_filter.mpr ⟨List.mem_append_right _ (List.mem_of_getElem? (i := 531) (by decide +kernel)), rfl⟩
theorem qs_X2_ofPlace : Cond.selects RX2 yX2_ofPlace yX2_ofPlace ∈ z_ws := List.mem_filter.mpr ⟨List.mem_append_right _ (List.mem_of_getElem? (i := 532) (by decide +kernel)), rfl⟩
theorem md_X2_ofPlace : z_mdV yX2_ofPlace cX2_ofPlace 2 (some .long) 1 := ⟨⟨qn_RX2, qc_X2_ofPlace, ⟨by decide +kernel, by decide +kernel, by decide +kernel⟩⟩, qi_X2_ofPlace, qs_X2_ofPlace⟩
theorem dX2_ofRoom_0 : decode cX2_ofRoom 0 = .ok (.aload_n 0, 1) := by decide +kernel
theorem dX2_ofRoom_1 : decode cX2_ofRoom 1 = .ok (.iconst 0, 1) := by decide +kernel
theorem dX2_ofRoom_2 : decode cX2_ofRoom 2 = .ok (.invokevirtual 46, 3) := by decide +kernel
theorem dX2_ofRoom_5 : decode cX2_ofRoom 5 = .ok (.lreturn, 1) := by decide +kernel
abbrev rm_X2_ofRoom : Room := { frames := 1, cells := 0, slots := 0, locals := 21 }
noncomputable def fX2_ofRoom (o0 : Nat) (h : z_T) : Option (Int64) :=
  y_gd (z_ok h o0 2) <|
  y_bi (fX2_ofPlace o0 (0 : Int32) h) fun r3 =>
  some r3
set_option maxHeartbeats 4000000 in
set_option maxRecDepth 100000 in
theorem mm_X2_ofRoom {G : z_Gt} (hSK : z_SK (z_S G)) (l : Launch) (ad : Nat → Nat) (o0 : Nat) (h : z_T) {r0 : Int64} (hv : fX2_ofRoom o0 h = some r0) : z_Ml G (z_S G) l yX2_ofRoom cX2_ofRoom 1 (.long) rm_X2_ofRoom 0 0 [.ref (ad o0)] ad h h r0 := by
  refine z_ofW hSK (by decide) (Nat.le_of_ble_eq_true rfl) ?_
  intro p e s m args below meth c ls hc hr hnm hB hl
  have hx := hc.1.1
  have hb := hc.1.2.1
  have hown := hc.1.2.2.2.1
  have hts := hc.1.2.2.2.2
  replace hc : z_C G (z_S G) ad (z_n h) p m c cX2_ofRoom 1 s args RX2 meth := hc
  replace hown : s.vm.findClass RX2 = some m.cls := hown
  replace hl : lv_has ls 1 [(0, .ref (ad o0))] := hl
  show W p l e rm_X2_ofRoom s m args below meth c s.heap [] 0 0 (MQ below (z_Ql G ad h (z_n h) s.heap.size r0) args s 0 0 (z_A ad (z_n h) s.heap.size)) (F0 m 0 ls [])
  obtain ⟨rs, kt⟩ : ∃ rs : Int64, rs = r0 := ⟨_, rfl⟩
  generalize hn0 : z_n h = n0 at hc hB ⊢
  rw [← kt] at hv
  refine lv_aload_n hx hb dX2_ofRoom_0 rfl (lv_at hl 0 rfl) ?_
  refine lv_iconst (v := (0 : Int32)) hx hb dX2_ofRoom_1 (by decide) ?_
  obtain ⟨g6, hv⟩ := y_gd_e hv
  obtain ⟨r3, c1, hv⟩ := y_bi_e hv
  refine z_thL hc hB (z_runV hc hB 2 (mm_X2_ofPlace hSK l ad o0 (0 : Int32) h c1) md_X2_ofPlace qmX2_46 g6 (by decide) rfl rfl rfl ⟨Nat.le_of_ble_eq_true rfl, Nat.le_of_ble_eq_true rfl⟩ rfl hl.1 rfl (Nat.le_of_ble_eq_true rfl) dX2_ofRoom_2 ⟨Nat.le_of_ble_eq_true rfl, Nat.le_of_ble_eq_true rfl⟩) (fun H locs hB => ?_)
  replace hv := Option.some.inj hv
  subst hv
  rw [← kt]
  exact z_lret hc hB hr dX2_ofRoom_5
theorem dX2_ofDreams_0 : decode cX2_ofDreams 0 = .ok (.lconst 0, 1) := by decide +kernel
theorem dX2_ofDreams_1 : decode cX2_ofDreams 1 = .ok (.lstore_n 1, 1) := by decide +kernel
theorem dX2_ofDreams_2 : decode cX2_ofDreams 2 = .ok (.iconst 1, 1) := by decide +kernel
theorem dX2_ofDreams_3 : decode cX2_ofDreams 3 = .ok (.istore_n 3, 1) := by decide +kernel
theorem dX2_ofDreams_4 : decode cX2_ofDreams 4 = .ok (.iload_n 3, 1) := by decide +kernel
theorem dX2_ofDreams_5 : decode cX2_ofDreams 5 = .ok (.bipush 7, 2) := by decide +kernel
theorem dX2_ofDreams_7 : decode cX2_ofDreams 7 = .ok (.if_icmp .ge 17, 3) := by decide +kernel
theorem dX2_ofDreams_10 : decode cX2_ofDreams 10 = .ok (.lload_n 1, 1) := by decide +kernel
theorem dX2_ofDreams_11 : decode cX2_ofDreams 11 = .ok (.aload_n 0, 1) := by decide +kernel
theorem dX2_ofDreams_12 : decode cX2_ofDreams 12 = .ok (.iload_n 3, 1) := by decide +kernel
theorem dX2_ofDreams_13 : decode cX2_ofDreams 13 = .ok (.invokevirtual 46, 3) := by decide +kernel
theorem dX2_ofDreams_16 : decode cX2_ofDreams 16 = .ok (.ladd, 1) := by decide +kernel
theorem dX2_ofDreams_17 : decode cX2_ofDreams 17 = .ok (.lstore_n 1, 1) := by decide +kernel
theorem dX2_ofDreams_18 : decode cX2_ofDreams 18 = .ok (.iinc 3 1, 3) := by decide +kernel
theorem dX2_ofDreams_21 : decode cX2_ofDreams 21 = .ok (.goto (-17), 3) := by decide +kernel
theorem dX2_ofDreams_24 : decode cX2_ofDreams 24 = .ok (.lload_n 1, 1) := by decide +kernel
theorem dX2_ofDreams_25 : decode cX2_ofDreams 25 = .ok (.lreturn, 1) := by decide +kernel
abbrev rm_X2_ofDreams : Room := { frames := 1, cells := 0, slots := 0, locals := 21 }
noncomputable def fX2_ofDreams_b4_i (o0 : Nat) (h : z_T) (l1 : Int64) (x3 : Int32) : Option ((Int64 × Int32) ⊕ (Int64)) :=
  y_br ((7 : Int32) ≤ x3)
    (y_mp <|
    some l1)
    (y_gd (z_ok h o0 2) <|
    y_bi (fX2_ofPlace o0 x3 h) fun r5 =>
    y_nm ((l1 + r5)) fun v9 =>
    y_nm (x3 + 1) fun v10 =>
    some (.inl (v9, v10)))
noncomputable def fX2_ofDreams_b4 (o0 : Nat) (l1 : Int64) (x3 : Int32) (h : z_T) : Option (Int64) := y_lp (fun q : Int64 × Int32 => fX2_ofDreams_b4_i o0 h q.1 q.2) (l1, x3)
noncomputable def fX2_ofDreams (o0 : Nat) (h : z_T) : Option (Int64) :=
  fX2_ofDreams_b4 o0 (0 : Int64) (1 : Int32) h
set_option maxHeartbeats 4000000 in
set_option maxRecDepth 100000 in
theorem mm_X2_ofDreams {G : z_Gt} (hSK : z_SK (z_S G)) (l : Launch) (ad : Nat → Nat) (o0 : Nat) (h : z_T) {r0 : Int64} (hv : fX2_ofDreams o0 h = some r0) : z_Ml G (z_S G) l yX2_ofDreams cX2_ofDreams 4 (.long) rm_X2_ofDreams 0 0 [.ref (ad o0)] ad h h r0 := by
  refine z_ofW hSK (by decide) (Nat.le_of_ble_eq_true rfl) ?_
  intro p e s m args below meth c ls hc hr hnm hB hl
  have hx := hc.1.1
  have hb := hc.1.2.1
  have hown := hc.1.2.2.2.1
  have hts := hc.1.2.2.2.2
  replace hc : z_C G (z_S G) ad (z_n h) p m c cX2_ofDreams 4 s args RX2 meth := hc
  replace hown : s.vm.findClass RX2 = some m.cls := hown
  replace hl : lv_has ls 4 [(0, .ref (ad o0))] := hl
  show W p l e rm_X2_ofDreams s m args below meth c s.heap [] 0 0 (MQ below (z_Ql G ad h (z_n h) s.heap.size r0) args s 0 0 (z_A ad (z_n h) s.heap.size)) (F0 m 0 ls [])
  obtain ⟨rs, kt⟩ : ∃ rs : Int64, rs = r0 := ⟨_, rfl⟩
  generalize hn0 : z_n h = n0 at hc hB ⊢
  have L4 : ∀ (nn4 : Nat) (l1 : Int64) (x3 : Int32) (H : Heap) (locs : List Loc) (ls : Array Slot), z_B G ad n0 s h H locs → lv_has ls 4 [(0, .ref (ad o0)), (1, .long l1), (3, .int x3)] → ∀ vv4, y_lpN (fun q : Int64 × Int32 => fX2_ofDreams_b4_i o0 h q.1 q.2) nn4 (l1, x3) = some vv4 → vv4 = r0 → W p l e rm_X2_ofDreams s m args below meth c H locs 0 0 (MQ below (z_Ql G ad h n0 s.heap.size r0) args s 0 0 (z_A ad n0 s.heap.size)) (F0 m 4 ls []) := by
    intro nn4
    induction nn4 with
    | zero => intro l1 x3 H locs ls hB hl vv4 hv kv4; exact absurd hv (fun q => y_lpN_0 q)
    | succ nn4 ih4 =>
      intro l1 x3 H locs ls hB hl vv4 hv kv4
      obtain ⟨w, hq, kw4⟩ := y_lpN_e hv
      clear hv
      have hv : fX2_ofDreams_b4_i o0 h l1 x3 = some w := hq
      clear hq
      refine lv_iload_n hx hb dX2_ofDreams_4 rfl (lv_at hl 2 rfl) ?_
      refine lv_bipush (v := (7 : Int32)) hx hb dX2_ofDreams_5 (by decide) ?_
      refine lv_icmp_ge (tgt := 24) hx hb dX2_ofDreams_7 (by decide) (fun c1 => ?_) (fun c1 => ?_)
      · replace hv := y_br_t hv c1
        obtain ⟨t2, hq, ew⟩ := y_mp_e hv
        clear hv; subst ew
        replace kw4 : t2 = _ := kw4
        subst kw4
        have hv := hq
        clear hq
        refine lv_lload_n hx hb dX2_ofDreams_24 rfl (lv_at hl 1 rfl) ?_
        replace hv := Option.some.inj hv
        subst hv
        rw [← kv4]
        exact z_lret hc hB hr dX2_ofDreams_25
      · replace hv := y_br_f hv c1
        refine lv_lload_n hx hb dX2_ofDreams_10 rfl (lv_at hl 1 rfl) ?_
        refine lv_aload_n hx hb dX2_ofDreams_11 rfl (lv_at hl 0 rfl) ?_
        refine lv_iload_n hx hb dX2_ofDreams_12 rfl (lv_at hl 2 rfl) ?_
        obtain ⟨g8, hv⟩ := y_gd_e hv
        obtain ⟨r5, c3, hv⟩ := y_bi_e hv
        refine z_thL hc hB (z_runV hc hB 2 (mm_X2_ofPlace hSK l ad o0 x3 h c3) md_X2_ofPlace qmX2_46 g8 (by decide) rfl rfl rfl ⟨Nat.le_of_ble_eq_true rfl, Nat.le_of_ble_eq_true rfl⟩ rfl hl.1 rfl (Nat.le_of_ble_eq_true rfl) dX2_ofDreams_13 ⟨Nat.le_of_ble_eq_true rfl, Nat.le_of_ble_eq_true rfl⟩) (fun H locs hB => ?_)
        refine lv_ladd hx hb dX2_ofDreams_16 ?_
        obtain ⟨v9, ev9, hv⟩ := y_nm_e hv
        rw [← ev9]
        refine lv_lstore_n (lv' := [(1, .long v9), (0, .ref (ad o0)), (3, .int x3)]) hx hb dX2_ofDreams_17 rfl hl (by decide) rfl (fun ls hl => ?_)
        obtain ⟨v10, ev10, hv⟩ := y_nm_e hv
        refine lv_iinc (v := v10) (lv' := [(3, .int v10), (1, .long v9), (0, .ref (ad o0))]) hx hb dX2_ofDreams_18 hl (k := 2) rfl (by rw [ev10]; rfl) (by decide) rfl (fun ls hl => ?_)
        refine lv_goto (tgt := 4) hx hb dX2_ofDreams_21 (by decide) ?_
        replace hv := Option.some.inj hv
        subst hv
        exact ih4 v9 v10 _ _ _ hB (lv_sub hl [2, 1, 0] rfl) _ kw4 kv4
  rw [← kt] at hv
  refine lv_lconst (v := (0 : Int64)) hx hb dX2_ofDreams_0 (by decide) ?_
  refine lv_lstore_n (lv' := [(1, .long (0 : Int64)), (0, .ref (ad o0))]) hx hb dX2_ofDreams_1 rfl hl (by decide) rfl (fun ls hl => ?_)
  refine lv_iconst (v := (1 : Int32)) hx hb dX2_ofDreams_2 (by decide) ?_
  refine lv_istore_n (lv' := [(3, .int (1 : Int32)), (1, .long (0 : Int64)), (0, .ref (ad o0))]) hx hb dX2_ofDreams_3 rfl hl (by decide) rfl (fun ls hl => ?_)
  obtain ⟨n, hv⟩ := y_lp_e hv
  exact L4 n (0 : Int64) (1 : Int32) _ _ _ hB (lv_sub hl [2, 1, 0] rfl) _ hv kt
theorem qmX2_50 : Cond.methodLink RX2 50 yX2_ofRoom ∈ z_ws := List.mem_filter.mpr ⟨List.mem_append_right _ (List.mem_of_getElem? (i := 590) (by decide +kernel)), rfl⟩
theorem qc_X2_ofRoom : Cond.code yX2_ofRoom cX2_ofRoom 1 (some .long) ∈ z_ws := List.mem_filter.mpr ⟨List.mem_append_right _ (List.mem_of_getElem? (i := 593) (by decide +kernel)), rfl⟩
theorem qi_X2_ofRoom : Cond.instanceMethod yX2_ofRoom ∈ z_ws := List.mem_filter.mpr ⟨List.mem_append_right _ (List.mem_of_getElem? (i := 591) (by decide +kernel)), rfl⟩
theorem qs_X2_ofRoom : Cond.selects RX2 yX2_ofRoom yX2_ofRoom ∈ z_ws := List.mem_filter.mpr ⟨List.mem_append_right _ (List.mem_of_getElem? (i := 592) (by decide +kernel)), rfl⟩
theorem md_X2_ofRoom : z_mdV yX2_ofRoom cX2_ofRoom 1 (some .long) 0 := ⟨⟨qn_RX2, qc_X2_ofRoom, ⟨by decide +kernel, by decide +kernel, by decide +kernel⟩⟩, qi_X2_ofRoom, qs_X2_ofRoom⟩
theorem qmX2_54 : Cond.methodLink RX2 54 yX2_ofDreams ∈ z_ws := List.mem_filter.mpr ⟨List.mem_append_right _ (List.mem_of_getElem? (i := 586) (by decide +kernel)), rfl⟩
theorem qc_X2_ofDreams : Cond.code yX2_ofDreams cX2_ofDreams 4 (some .long) ∈ z_ws := List.mem_filter.mpr ⟨List.mem_append_right _ (List.mem_of_getElem? (i := 589) (by decide +kernel)), rfl⟩
theorem qi_X2_ofDreams : Cond.instanceMethod yX2_ofDreams ∈ z_ws := List.mem_filter.mpr ⟨List.mem_append_right _ (List.mem_of_getElem? (i := 587) (by decide +kernel)), rfl⟩
theorem qs_X2_ofDreams : Cond.selects RX2 yX2_ofDreams yX2_ofDreams ∈ z_ws := List.mem_filter.mpr ⟨List.mem_append_right _ (List.mem_of_getElem? (i := 588) (by decide +kernel)), rfl⟩
theorem md_X2_ofDreams : z_mdV yX2_ofDreams cX2_ofDreams 4 (some .long) 0 := ⟨⟨qn_RX2, qc_X2_ofDreams, ⟨by decide +kernel, by decide +kernel, by decide +kernel⟩⟩, qi_X2_ofDreams, qs_X2_ofDreams⟩
theorem dX2_ofAll_0 : decode cX2_ofAll 0 = .ok (.aload_n 0, 1) := by decide +kernel
theorem dX2_ofAll_1 : decode cX2_ofAll 1 = .ok (.invokevirtual 50, 3) := by decide +kernel
theorem dX2_ofAll_4 : decode cX2_ofAll 4 = .ok (.aload_n 0, 1) := by decide +kernel
theorem dX2_ofAll_5 : decode cX2_ofAll 5 = .ok (.invokevirtual 54, 3) := by decide +kernel
theorem dX2_ofAll_8 : decode cX2_ofAll 8 = .ok (.ladd, 1) := by decide +kernel
theorem dX2_ofAll_9 : decode cX2_ofAll 9 = .ok (.lreturn, 1) := by decide +kernel
abbrev rm_X2_ofAll : Room := { frames := 2, cells := 0, slots := 0, locals := 44 }
noncomputable def fX2_ofAll (o0 : Nat) (h : z_T) : Option (Int64) :=
  y_gd (z_ok h o0 2) <|
  y_bi (fX2_ofRoom o0 h) fun r3 =>
  y_bi (fX2_ofDreams o0 h) fun r9 =>
  some (r3 + r9)
set_option maxHeartbeats 4000000 in
set_option maxRecDepth 100000 in
theorem mm_X2_ofAll {G : z_Gt} (hSK : z_SK (z_S G)) (l : Launch) (ad : Nat → Nat) (o0 : Nat) (h : z_T) {r0 : Int64} (hv : fX2_ofAll o0 h = some r0) : z_Ml G (z_S G) l yX2_ofAll cX2_ofAll 1 (.long) rm_X2_ofAll 0 0 [.ref (ad o0)] ad h h r0 := by
  refine z_ofW hSK (by decide) (Nat.le_of_ble_eq_true rfl) ?_
  intro p e s m args below meth c ls hc hr hnm hB hl
  have hx := hc.1.1
  have hb := hc.1.2.1
  have hown := hc.1.2.2.2.1
  have hts := hc.1.2.2.2.2
  replace hc : z_C G (z_S G) ad (z_n h) p m c cX2_ofAll 1 s args RX2 meth := hc
  replace hown : s.vm.findClass RX2 = some m.cls := hown
  replace hl : lv_has ls 1 [(0, .ref (ad o0))] := hl
  show W p l e rm_X2_ofAll s m args below meth c s.heap [] 0 0 (MQ below (z_Ql G ad h (z_n h) s.heap.size r0) args s 0 0 (z_A ad (z_n h) s.heap.size)) (F0 m 0 ls [])
  obtain ⟨rs, kt⟩ : ∃ rs : Int64, rs = r0 := ⟨_, rfl⟩
  generalize hn0 : z_n h = n0 at hc hB ⊢
  rw [← kt] at hv
  refine lv_aload_n hx hb dX2_ofAll_0 rfl (lv_at hl 0 rfl) ?_
  obtain ⟨g6, hv⟩ := y_gd_e hv
  obtain ⟨r3, c1, hv⟩ := y_bi_e hv
  refine z_thL hc hB (z_runV hc hB 2 (mm_X2_ofRoom hSK l ad o0 h c1) md_X2_ofRoom qmX2_50 g6 (by decide) rfl rfl rfl ⟨Nat.le_of_ble_eq_true rfl, Nat.le_of_ble_eq_true rfl⟩ rfl hl.1 rfl (Nat.le_of_ble_eq_true rfl) dX2_ofAll_1 ⟨Nat.le_of_ble_eq_true rfl, Nat.le_of_ble_eq_true rfl⟩) (fun H locs hB => ?_)
  refine lv_aload_n hx hb dX2_ofAll_4 rfl (lv_at hl 0 rfl) ?_
  obtain ⟨r9, c7, hv⟩ := y_bi_e hv
  refine z_thL hc hB (z_runV hc hB 2 (mm_X2_ofDreams hSK l ad o0 h c7) md_X2_ofDreams qmX2_54 g6 (by decide) rfl rfl rfl ⟨Nat.le_of_ble_eq_true rfl, Nat.le_of_ble_eq_true rfl⟩ rfl hl.1 rfl (Nat.le_of_ble_eq_true rfl) dX2_ofAll_5 ⟨Nat.le_of_ble_eq_true rfl, Nat.le_of_ble_eq_true rfl⟩) (fun H locs hB => ?_)
  refine lv_ladd hx hb dX2_ofAll_8 ?_
  replace hv := Option.some.inj hv
  subst hv
  rw [← kt]
  exact z_lret hc hB hr dX2_ofAll_9
theorem qmX2_66 : Cond.methodLink RX2 66 yX0_plainChance ∈ z_ws := List.mem_filter.mpr ⟨List.mem_append_right _ (List.mem_of_getElem? (i := 512) (by decide +kernel)), rfl⟩
theorem qmX2_63 : Cond.methodLink RX2 63 yX0_inRoom ∈ z_ws := List.mem_filter.mpr ⟨List.mem_append_right _ (List.mem_of_getElem? (i := 511) (by decide +kernel)), rfl⟩
theorem qmX2_57 : Cond.methodLink RX2 57 yX0_setting ∈ z_ws := List.mem_filter.mpr ⟨List.mem_append_right _ (List.mem_of_getElem? (i := 506) (by decide +kernel)), rfl⟩
theorem qc_X0_setting : Cond.code yX0_setting cX0_setting 2 (some .int) ∈ z_ws := List.mem_filter.mpr ⟨List.mem_append_right _ (List.mem_of_getElem? (i := 509) (by decide +kernel)), rfl⟩
theorem qi_X0_setting : Cond.instanceMethod yX0_setting ∈ z_ws := List.mem_filter.mpr ⟨List.mem_append_right _ (List.mem_of_getElem? (i := 507) (by decide +kernel)), rfl⟩
theorem qs_X0_setting : Cond.selects RX0 yX0_setting yX0_setting ∈ z_ws := List.mem_filter.mpr ⟨List.mem_append_right _ (List.mem_of_getElem? (i := 508) (by decide +kernel)), rfl⟩
theorem md_X0_setting : z_mdV yX0_setting cX0_setting 2 (some .int) 1 := ⟨⟨qn_RX0, qc_X0_setting, ⟨by decide +kernel, by decide +kernel, by decide +kernel⟩⟩, qi_X0_setting, qs_X0_setting⟩
theorem qmX2_60 : Cond.methodLink RX2 60 yX2_timesAsked ∈ z_ws := List.mem_filter.mpr ⟨List.mem_append_right _ (List.mem_of_getElem? (i := 510) (by decide +kernel)), rfl⟩
theorem qc_X2_timesAsked : Cond.code yX2_timesAsked cX2_timesAsked 2 (some .int) ∈ z_ws := List.mem_filter.mpr ⟨List.mem_append_right _ (List.mem_of_getElem? (i := 476) (by decide +kernel)), rfl⟩
theorem qi_X2_timesAsked : Cond.instanceMethod yX2_timesAsked ∈ z_ws := List.mem_filter.mpr ⟨List.mem_append_right _ (List.mem_of_getElem? (i := 474) (by decide +kernel)), rfl⟩
theorem qs_X2_timesAsked : Cond.selects RX2 yX2_timesAsked yX2_timesAsked ∈ z_ws := List.mem_filter.mpr ⟨List.mem_append_right _ (List.mem_of_getElem? (i := 475) (by decide +kernel)), rfl⟩
theorem md_X2_timesAsked : z_mdV yX2_timesAsked cX2_timesAsked 2 (some .int) 1 := ⟨⟨qn_RX2, qc_X2_timesAsked, ⟨by decide +kernel, by decide +kernel, by decide +kernel⟩⟩, qi_X2_timesAsked, qs_X2_timesAsked⟩
theorem dX2_chance_0 : decode cX2_chance 0 = .ok (.aload_n 0, 1) := by decide +kernel
theorem dX2_chance_1 : decode cX2_chance 1 = .ok (.getfield 26, 3) := by decide +kernel
theorem dX2_chance_4 : decode cX2_chance 4 = .ok (.iconst 1, 1) := by decide +kernel
theorem dX2_chance_5 : decode cX2_chance 5 = .ok (.invokevirtual 57, 3) := by decide +kernel
theorem dX2_chance_8 : decode cX2_chance 8 = .ok (.istore_n 3, 1) := by decide +kernel
theorem dX2_chance_9 : decode cX2_chance 9 = .ok (.iload_n 3, 1) := by decide +kernel
theorem dX2_chance_10 : decode cX2_chance 10 = .ok (.ifCond .le 16, 3) := by decide +kernel
theorem dX2_chance_13 : decode cX2_chance 13 = .ok (.aload_n 0, 1) := by decide +kernel
theorem dX2_chance_14 : decode cX2_chance 14 = .ok (.getfield 30, 3) := by decide +kernel
theorem dX2_chance_17 : decode cX2_chance 17 = .ok (.iconst 1, 1) := by decide +kernel
theorem dX2_chance_18 : decode cX2_chance 18 = .ok (.iadd, 1) := by decide +kernel
theorem dX2_chance_19 : decode cX2_chance 19 = .ok (.iload_n 3, 1) := by decide +kernel
theorem dX2_chance_20 : decode cX2_chance 20 = .ok (.if_icmp .lt 6, 3) := by decide +kernel
theorem dX2_chance_23 : decode cX2_chance 23 = .ok (.bipush 9, 2) := by decide +kernel
theorem dX2_chance_25 : decode cX2_chance 25 = .ok (.ireturn, 1) := by decide +kernel
theorem dX2_chance_26 : decode cX2_chance 26 = .ok (.aload_n 0, 1) := by decide +kernel
theorem dX2_chance_27 : decode cX2_chance 27 = .ok (.getfield 26, 3) := by decide +kernel
theorem dX2_chance_30 : decode cX2_chance 30 = .ok (.iconst 5, 1) := by decide +kernel
theorem dX2_chance_31 : decode cX2_chance 31 = .ok (.invokevirtual 57, 3) := by decide +kernel
theorem dX2_chance_34 : decode cX2_chance 34 = .ok (.iconst 1, 1) := by decide +kernel
theorem dX2_chance_35 : decode cX2_chance 35 = .ok (.if_icmp .ne 15, 3) := by decide +kernel
theorem dX2_chance_38 : decode cX2_chance 38 = .ok (.aload_n 0, 1) := by decide +kernel
theorem dX2_chance_39 : decode cX2_chance 39 = .ok (.iload_n 1, 1) := by decide +kernel
theorem dX2_chance_40 : decode cX2_chance 40 = .ok (.invokevirtual 60, 3) := by decide +kernel
theorem dX2_chance_43 : decode cX2_chance 43 = .ok (.ifCond .le 7, 3) := by decide +kernel
theorem dX2_chance_46 : decode cX2_chance 46 = .ok (.iconst 1, 1) := by decide +kernel
theorem dX2_chance_47 : decode cX2_chance 47 = .ok (.goto 4, 3) := by decide +kernel
theorem dX2_chance_50 : decode cX2_chance 50 = .ok (.iconst 0, 1) := by decide +kernel
theorem dX2_chance_51 : decode cX2_chance 51 = .ok (.istore 4, 2) := by decide +kernel
theorem dX2_chance_53 : decode cX2_chance 53 = .ok (.iload 4, 2) := by decide +kernel
theorem dX2_chance_55 : decode cX2_chance 55 = .ok (.ifCond .eq 14, 3) := by decide +kernel
theorem dX2_chance_58 : decode cX2_chance 58 = .ok (.aload_n 0, 1) := by decide +kernel
theorem dX2_chance_59 : decode cX2_chance 59 = .ok (.getfield 26, 3) := by decide +kernel
theorem dX2_chance_62 : decode cX2_chance 62 = .ok (.iload_n 1, 1) := by decide +kernel
theorem dX2_chance_63 : decode cX2_chance 63 = .ok (.invokevirtual 63, 3) := by decide +kernel
theorem dX2_chance_66 : decode cX2_chance 66 = .ok (.goto 12, 3) := by decide +kernel
theorem dX2_chance_69 : decode cX2_chance 69 = .ok (.aload_n 0, 1) := by decide +kernel
theorem dX2_chance_70 : decode cX2_chance 70 = .ok (.getfield 26, 3) := by decide +kernel
theorem dX2_chance_73 : decode cX2_chance 73 = .ok (.iload_n 1, 1) := by decide +kernel
theorem dX2_chance_74 : decode cX2_chance 74 = .ok (.iload_n 2, 1) := by decide +kernel
theorem dX2_chance_75 : decode cX2_chance 75 = .ok (.invokevirtual 66, 3) := by decide +kernel
theorem dX2_chance_78 : decode cX2_chance 78 = .ok (.ireturn, 1) := by decide +kernel
abbrev rm_X2_chance : Room := { frames := 2, cells := 0, slots := 0, locals := 44 }
noncomputable def fX2_chance_b51 (o0 : Nat) (x1 : Int32) (x2 : Int32) (s0 : Int32) (h : z_T) : Option (Int32) :=
  y_br (s0 = 0)
    (y_gd (z_ok h o0 2) <|
    y_bi (z_R h o0 0) fun o3 =>
    y_gd (z_ok h o3 0) <|
    y_bi (fX0_plainChance o3 x1 x2 h) fun r5 =>
    some r5)
    (y_gd (z_ok h o0 2) <|
    y_bi (z_R h o0 0) fun o11 =>
    y_gd (z_ok h o11 0) <|
    y_bi (fX0_inRoom o11 x1 h) fun r13 =>
    some r13)
noncomputable def fX2_chance_b50 (o0 : Nat) (x1 : Int32) (x2 : Int32) (h : z_T) : Option (Int32) :=
  fX2_chance_b51 o0 x1 x2 (0 : Int32) h
noncomputable def fX2_chance_b26 (o0 : Nat) (x1 : Int32) (x2 : Int32) (h : z_T) : Option (Int32) :=
  y_gd (z_ok h o0 2) <|
  y_bi (z_R h o0 0) fun o19 =>
  y_gd (z_ok h o19 0) <|
  y_bi (fX0_setting o19 (5 : Int32) h) fun r21 =>
  y_br (r21 = (1 : Int32))
    (y_bi (fX2_timesAsked o0 x1 h) fun r28 =>
    y_br (r28 ≤ 0)
      (fX2_chance_b50 o0 x1 x2 h)
      (fX2_chance_b51 o0 x1 x2 (1 : Int32) h))
    (fX2_chance_b50 o0 x1 x2 h)
noncomputable def fX2_chance (o0 : Nat) (x1 : Int32) (x2 : Int32) (h : z_T) : Option (Int32) :=
  y_gd (z_ok h o0 2) <|
  y_bi (z_R h o0 0) fun o34 =>
  y_gd (z_ok h o34 0) <|
  y_bi (fX0_setting o34 (1 : Int32) h) fun r36 =>
  y_br (r36 ≤ 0)
    (fX2_chance_b26 o0 x1 x2 h)
    (y_br (((z_I h o0 1) + (1 : Int32)) < r36)
      (fX2_chance_b26 o0 x1 x2 h)
      (some (9 : Int32)))
set_option maxHeartbeats 4000000 in
set_option maxRecDepth 100000 in
theorem mm_X2_chance {G : z_Gt} (hSK : z_SK (z_S G)) (l : Launch) (ad : Nat → Nat) (o0 : Nat) (x1 : Int32) (x2 : Int32) (h : z_T) {r0 : Int32} (hv : fX2_chance o0 x1 x2 h = some r0) : z_Mi G (z_S G) l yX2_chance cX2_chance 5 (.int) rm_X2_chance 0 0 [.ref (ad o0), .int x1, .int x2] ad h h r0 := by
  refine z_ofW hSK (by decide) (Nat.le_of_ble_eq_true rfl) ?_
  intro p e s m args below meth c ls hc hr hnm hB hl
  have hx := hc.1.1
  have hb := hc.1.2.1
  have hown := hc.1.2.2.2.1
  have hts := hc.1.2.2.2.2
  replace hc : z_C G (z_S G) ad (z_n h) p m c cX2_chance 5 s args RX2 meth := hc
  replace hown : s.vm.findClass RX2 = some m.cls := hown
  replace hl : lv_has ls 5 [(0, .ref (ad o0)), (1, .int x1), (2, .int x2)] := hl
  show W p l e rm_X2_chance s m args below meth c s.heap [] 0 0 (MQ below (z_Qi G ad h (z_n h) s.heap.size r0) args s 0 0 (z_A ad (z_n h) s.heap.size)) (F0 m 0 ls [])
  obtain ⟨rs, kt⟩ : ∃ rs : Int32, rs = r0 := ⟨_, rfl⟩
  generalize hn0 : z_n h = n0 at hc hB ⊢
  have b51 : ∀ (s0 : Int32) (H : Heap) (locs : List Loc) (ls : Array Slot), z_B G ad n0 s h H locs → lv_has ls 5 [(0, .ref (ad o0)), (1, .int x1), (2, .int x2)] → ∀ w, fX2_chance_b51 o0 x1 x2 s0 h = some w → w = r0 → W p l e rm_X2_chance s m args below meth c H locs 0 0 (MQ below (z_Qi G ad h n0 s.heap.size r0) args s 0 0 (z_A ad n0 s.heap.size)) (F0 m 51 ls [.int s0]) := by
    intro s0 H locs ls hB hl w hv kb
    refine lv_istore (lv' := [(4, .int s0), (0, .ref (ad o0)), (1, .int x1), (2, .int x2)]) hx hb dX2_chance_51 hl (by decide) rfl (fun ls hl => ?_)
    refine lv_iload hx hb dX2_chance_53 (lv_at hl 0 rfl) ?_
    refine lv_if_eq (tgt := 69) hx hb dX2_chance_55 (by decide) (fun c1 => ?_) (fun c1 => ?_)
    · replace hv := y_br_t hv c1
      refine lv_aload_n hx hb dX2_chance_69 rfl (lv_at hl 1 rfl) ?_
      obtain ⟨g2, hv⟩ := y_gd_e hv
      obtain ⟨o3, eo3, hv⟩ := y_bi_e hv
      refine z_getR hc hB 2 0 g2 eo3 (by decide) (by decide) rfl (z_l1 hc qfX2_26) dX2_chance_70 ?_
      refine lv_iload_n hx hb dX2_chance_73 rfl (lv_at hl 2 rfl) ?_
      refine lv_iload_n hx hb dX2_chance_74 rfl (lv_at hl 3 rfl) ?_
      obtain ⟨g9, hv⟩ := y_gd_e hv
      obtain ⟨r5, c4, hv⟩ := y_bi_e hv
      refine z_thI hc hB (z_runV hc hB 0 (mm_X0_plainChance hSK l ad o3 x1 x2 h c4) md_X0_plainChance qmX2_66 g9 (by decide) rfl rfl rfl ⟨Nat.le_of_ble_eq_true rfl, Nat.le_of_ble_eq_true rfl⟩ rfl hl.1 rfl (Nat.le_of_ble_eq_true rfl) dX2_chance_75 ⟨Nat.le_of_ble_eq_true rfl, Nat.le_of_ble_eq_true rfl⟩) (fun H locs hB => ?_)
      replace hv := Option.some.inj hv
      subst hv
      rw [← kb]
      exact z_iret hc hB hr dX2_chance_78
    · replace hv := y_br_f hv c1
      refine lv_aload_n hx hb dX2_chance_58 rfl (lv_at hl 1 rfl) ?_
      obtain ⟨g10, hv⟩ := y_gd_e hv
      obtain ⟨o11, eo11, hv⟩ := y_bi_e hv
      refine z_getR hc hB 2 0 g10 eo11 (by decide) (by decide) rfl (z_l1 hc qfX2_26) dX2_chance_59 ?_
      refine lv_iload_n hx hb dX2_chance_62 rfl (lv_at hl 2 rfl) ?_
      obtain ⟨g17, hv⟩ := y_gd_e hv
      obtain ⟨r13, c12, hv⟩ := y_bi_e hv
      refine z_thI hc hB (z_runV hc hB 0 (mm_X0_inRoom hSK l ad o11 x1 h c12) md_X0_inRoom qmX2_63 g17 (by decide) rfl rfl rfl ⟨Nat.le_of_ble_eq_true rfl, Nat.le_of_ble_eq_true rfl⟩ rfl hl.1 rfl (Nat.le_of_ble_eq_true rfl) dX2_chance_63 ⟨Nat.le_of_ble_eq_true rfl, Nat.le_of_ble_eq_true rfl⟩) (fun H locs hB => ?_)
      refine lv_goto (tgt := 78) hx hb dX2_chance_66 (by decide) ?_
      replace hv := Option.some.inj hv
      subst hv
      rw [← kb]
      exact z_iret hc hB hr dX2_chance_78
  have b50 : ∀ (H : Heap) (locs : List Loc) (ls : Array Slot), z_B G ad n0 s h H locs → lv_has ls 5 [(0, .ref (ad o0)), (1, .int x1), (2, .int x2)] → ∀ w, fX2_chance_b50 o0 x1 x2 h = some w → w = r0 → W p l e rm_X2_chance s m args below meth c H locs 0 0 (MQ below (z_Qi G ad h n0 s.heap.size r0) args s 0 0 (z_A ad n0 s.heap.size)) (F0 m 50 ls []) := by
    intro H locs ls hB hl w hv kb
    refine lv_iconst (v := (0 : Int32)) hx hb dX2_chance_50 (by decide) ?_
    exact b51 (0 : Int32) _ _ _ hB (lv_sub hl [0, 1, 2] rfl) _ hv kb
  have b26 : ∀ (H : Heap) (locs : List Loc) (ls : Array Slot), z_B G ad n0 s h H locs → lv_has ls 5 [(0, .ref (ad o0)), (1, .int x1), (2, .int x2)] → ∀ w, fX2_chance_b26 o0 x1 x2 h = some w → w = r0 → W p l e rm_X2_chance s m args below meth c H locs 0 0 (MQ below (z_Qi G ad h n0 s.heap.size r0) args s 0 0 (z_A ad n0 s.heap.size)) (F0 m 26 ls []) := by
    intro H locs ls hB hl w hv kb
    refine lv_aload_n hx hb dX2_chance_26 rfl (lv_at hl 0 rfl) ?_
    obtain ⟨g18, hv⟩ := y_gd_e hv
    obtain ⟨o19, eo19, hv⟩ := y_bi_e hv
    refine z_getR hc hB 2 0 g18 eo19 (by decide) (by decide) rfl (z_l1 hc qfX2_26) dX2_chance_27 ?_
    refine lv_iconst (v := (5 : Int32)) hx hb dX2_chance_30 (by decide) ?_
    obtain ⟨g25, hv⟩ := y_gd_e hv
    obtain ⟨r21, c20, hv⟩ := y_bi_e hv
    refine z_thI hc hB (z_runV hc hB 0 (mm_X0_setting hSK l ad o19 (5 : Int32) h c20) md_X0_setting qmX2_57 g25 (by decide) rfl rfl rfl ⟨Nat.le_of_ble_eq_true rfl, Nat.le_of_ble_eq_true rfl⟩ rfl hl.1 rfl (Nat.le_of_ble_eq_true rfl) dX2_chance_31 ⟨Nat.le_of_ble_eq_true rfl, Nat.le_of_ble_eq_true rfl⟩) (fun H locs hB => ?_)
    refine lv_iconst (v := (1 : Int32)) hx hb dX2_chance_34 (by decide) ?_
    refine lv_icmp_ne (tgt := 50) hx hb dX2_chance_35 (by decide) (fun c26 => ?_) (fun c26 => ?_)
    · replace hv := y_br_f hv c26
      exact b50 _ _ _ hB (lv_sub hl [0, 1, 2] rfl) _ hv kb
    · replace hv := y_br_t hv c26
      refine lv_aload_n hx hb dX2_chance_38 rfl (lv_at hl 0 rfl) ?_
      refine lv_iload_n hx hb dX2_chance_39 rfl (lv_at hl 1 rfl) ?_
      obtain ⟨r28, c27, hv⟩ := y_bi_e hv
      refine z_thI hc hB (z_runV hc hB 2 (mm_X2_timesAsked hSK l ad o0 x1 h c27) md_X2_timesAsked qmX2_60 g18 (by decide) rfl rfl rfl ⟨Nat.le_of_ble_eq_true rfl, Nat.le_of_ble_eq_true rfl⟩ rfl hl.1 rfl (Nat.le_of_ble_eq_true rfl) dX2_chance_40 ⟨Nat.le_of_ble_eq_true rfl, Nat.le_of_ble_eq_true rfl⟩) (fun H locs hB => ?_)
      refine lv_if_le (tgt := 50) hx hb dX2_chance_43 (by decide) (fun c32 => ?_) (fun c32 => ?_)
      · replace hv := y_br_t hv c32
        exact b50 _ _ _ hB (lv_sub hl [0, 1, 2] rfl) _ hv kb
      · replace hv := y_br_f hv c32
        refine lv_iconst (v := (1 : Int32)) hx hb dX2_chance_46 (by decide) ?_
        refine lv_goto (tgt := 51) hx hb dX2_chance_47 (by decide) ?_
        exact b51 (1 : Int32) _ _ _ hB (lv_sub hl [0, 1, 2] rfl) _ hv kb
  rw [← kt] at hv
  refine lv_aload_n hx hb dX2_chance_0 rfl (lv_at hl 0 rfl) ?_
  obtain ⟨g33, hv⟩ := y_gd_e hv
  obtain ⟨o34, eo34, hv⟩ := y_bi_e hv
  refine z_getR hc hB 2 0 g33 eo34 (by decide) (by decide) rfl (z_l1 hc qfX2_26) dX2_chance_1 ?_
  refine lv_iconst (v := (1 : Int32)) hx hb dX2_chance_4 (by decide) ?_
  obtain ⟨g40, hv⟩ := y_gd_e hv
  obtain ⟨r36, c35, hv⟩ := y_bi_e hv
  refine z_thI hc hB (z_runV hc hB 0 (mm_X0_setting hSK l ad o34 (1 : Int32) h c35) md_X0_setting qmX2_57 g40 (by decide) rfl rfl rfl ⟨Nat.le_of_ble_eq_true rfl, Nat.le_of_ble_eq_true rfl⟩ rfl hl.1 rfl (Nat.le_of_ble_eq_true rfl) dX2_chance_5 ⟨Nat.le_of_ble_eq_true rfl, Nat.le_of_ble_eq_true rfl⟩) (fun H locs hB => ?_)
  refine lv_istore_n (lv' := [(3, .int r36), (0, .ref (ad o0)), (1, .int x1), (2, .int x2)]) hx hb dX2_chance_8 rfl hl (by decide) rfl (fun ls hl => ?_)
  refine lv_iload_n hx hb dX2_chance_9 rfl (lv_at hl 0 rfl) ?_
  refine lv_if_le (tgt := 26) hx hb dX2_chance_10 (by decide) (fun c41 => ?_) (fun c41 => ?_)
  · replace hv := y_br_t hv c41
    exact b26 _ _ _ hB (lv_sub hl [1, 2, 3] rfl) _ hv kt
  · replace hv := y_br_f hv c41
    refine lv_aload_n hx hb dX2_chance_13 rfl (lv_at hl 1 rfl) ?_
    refine z_getI hc hB 2 1 g33 (by decide) (by decide) rfl (z_l1 hc qfX2_30) dX2_chance_14 ?_
    refine lv_iconst (v := (1 : Int32)) hx hb dX2_chance_17 (by decide) ?_
    refine lv_iadd hx hb dX2_chance_18 ?_
    refine lv_iload_n hx hb dX2_chance_19 rfl (lv_at hl 0 rfl) ?_
    refine lv_icmp_lt (tgt := 26) hx hb dX2_chance_20 (by decide) (fun c42 => ?_) (fun c42 => ?_)
    · replace hv := y_br_t hv c42
      exact b26 _ _ _ hB (lv_sub hl [1, 2, 3] rfl) _ hv kt
    · replace hv := y_br_f hv c42
      refine lv_bipush (v := (9 : Int32)) hx hb dX2_chance_23 (by decide) ?_
      replace hv := Option.some.inj hv
      subst hv
      rw [← kt]
      exact z_iret hc hB hr dX2_chance_25
theorem qmX2_70 : Cond.methodLink RX2 70 yX2_chance ∈ z_ws := List.mem_filter.mpr ⟨List.mem_append_right _ (List.mem_of_getElem? (i := 538) (by decide +kernel)), rfl⟩
theorem qc_X2_chance : Cond.code yX2_chance cX2_chance 5 (some .int) ∈ z_ws := List.mem_filter.mpr ⟨List.mem_append_right _ (List.mem_of_getElem? (i := 505) (by decide +kernel)), rfl⟩
theorem qi_X2_chance : Cond.instanceMethod yX2_chance ∈ z_ws := List.mem_filter.mpr ⟨List.mem_append_right _ (List.mem_of_getElem? (i := 503) (by decide +kernel)), rfl⟩
theorem qs_X2_chance : Cond.selects RX2 yX2_chance yX2_chance ∈ z_ws := List.mem_filter.mpr ⟨List.mem_append_right _ (List.mem_of_getElem? (i := 504) (by decide +kernel)), rfl⟩
theorem md_X2_chance : z_mdV yX2_chance cX2_chance 5 (some .int) 2 := ⟨⟨qn_RX2, qc_X2_chance, ⟨by decide +kernel, by decide +kernel, by decide +kernel⟩⟩, qi_X2_chance, qs_X2_chance⟩
theorem dX2_chanceOf_0 : decode cX2_chanceOf 0 = .ok (.aload_n 0, 1) := by decide +kernel
theorem dX2_chanceOf_1 : decode cX2_chanceOf 1 = .ok (.iload_n 1, 1) := by decide +kernel
theorem dX2_chanceOf_2 : decode cX2_chanceOf 2 = .ok (.iload_n 3, 1) := by decide +kernel
theorem dX2_chanceOf_3 : decode cX2_chanceOf 3 = .ok (.invokevirtual 70, 3) := by decide +kernel
theorem dX2_chanceOf_6 : decode cX2_chanceOf 6 = .ok (.istore 4, 2) := by decide +kernel
theorem dX2_chanceOf_8 : decode cX2_chanceOf 8 = .ok (.iload_n 2, 1) := by decide +kernel
theorem dX2_chanceOf_9 : decode cX2_chanceOf 9 = .ok (.iconst 1, 1) := by decide +kernel
theorem dX2_chanceOf_10 : decode cX2_chanceOf 10 = .ok (.if_icmp .ne 8, 3) := by decide +kernel
theorem dX2_chanceOf_13 : decode cX2_chanceOf 13 = .ok (.iload 4, 2) := by decide +kernel
theorem dX2_chanceOf_15 : decode cX2_chanceOf 15 = .ok (.goto 8, 3) := by decide +kernel
theorem dX2_chanceOf_18 : decode cX2_chanceOf 18 = .ok (.bipush 9, 2) := by decide +kernel
theorem dX2_chanceOf_20 : decode cX2_chanceOf 20 = .ok (.iload 4, 2) := by decide +kernel
theorem dX2_chanceOf_22 : decode cX2_chanceOf 22 = .ok (.isub, 1) := by decide +kernel
theorem dX2_chanceOf_23 : decode cX2_chanceOf 23 = .ok (.ireturn, 1) := by decide +kernel
abbrev rm_X2_chanceOf : Room := { frames := 3, cells := 0, slots := 0, locals := 68 }
noncomputable def fX2_chanceOf (o0 : Nat) (x1 : Int32) (x2 : Int32) (x3 : Int32) (h : z_T) : Option (Int32) :=
  y_gd (z_ok h o0 2) <|
  y_bi (fX2_chance o0 x1 x3 h) fun r2 =>
  y_br (x2 = (1 : Int32))
    (some r2)
    (some ((9 : Int32) - r2))
set_option maxHeartbeats 4000000 in
set_option maxRecDepth 100000 in
theorem mm_X2_chanceOf {G : z_Gt} (hSK : z_SK (z_S G)) (l : Launch) (ad : Nat → Nat) (o0 : Nat) (x1 : Int32) (x2 : Int32) (x3 : Int32) (h : z_T) {r0 : Int32} (hv : fX2_chanceOf o0 x1 x2 x3 h = some r0) : z_Mi G (z_S G) l yX2_chanceOf cX2_chanceOf 5 (.int) rm_X2_chanceOf 0 0 [.ref (ad o0), .int x1, .int x2, .int x3] ad h h r0 := by
  refine z_ofW hSK (by decide) (Nat.le_of_ble_eq_true rfl) ?_
  intro p e s m args below meth c ls hc hr hnm hB hl
  have hx := hc.1.1
  have hb := hc.1.2.1
  have hown := hc.1.2.2.2.1
  have hts := hc.1.2.2.2.2
  replace hc : z_C G (z_S G) ad (z_n h) p m c cX2_chanceOf 5 s args RX2 meth := hc
  replace hown : s.vm.findClass RX2 = some m.cls := hown
  replace hl : lv_has ls 5 [(0, .ref (ad o0)), (1, .int x1), (2, .int x2), (3, .int x3)] := hl
  show W p l e rm_X2_chanceOf s m args below meth c s.heap [] 0 0 (MQ below (z_Qi G ad h (z_n h) s.heap.size r0) args s 0 0 (z_A ad (z_n h) s.heap.size)) (F0 m 0 ls [])
  obtain ⟨rs, kt⟩ : ∃ rs : Int32, rs = r0 := ⟨_, rfl⟩
  generalize hn0 : z_n h = n0 at hc hB ⊢
  rw [← kt] at hv
  refine lv_aload_n hx hb dX2_chanceOf_0 rfl (lv_at hl 0 rfl) ?_
  refine lv_iload_n hx hb dX2_chanceOf_1 rfl (lv_at hl 1 rfl) ?_
  refine lv_iload_n hx hb dX2_chanceOf_2 rfl (lv_at hl 3 rfl) ?_
  obtain ⟨g6, hv⟩ := y_gd_e hv
  obtain ⟨r2, c1, hv⟩ := y_bi_e hv
  refine z_thI hc hB (z_runV hc hB 2 (mm_X2_chance hSK l ad o0 x1 x3 h c1) md_X2_chance qmX2_70 g6 (by decide) rfl rfl rfl ⟨Nat.le_of_ble_eq_true rfl, Nat.le_of_ble_eq_true rfl⟩ rfl hl.1 rfl (Nat.le_of_ble_eq_true rfl) dX2_chanceOf_3 ⟨Nat.le_of_ble_eq_true rfl, Nat.le_of_ble_eq_true rfl⟩) (fun H locs hB => ?_)
  refine lv_istore (lv' := [(4, .int r2), (0, .ref (ad o0)), (1, .int x1), (2, .int x2), (3, .int x3)]) hx hb dX2_chanceOf_6 hl (by decide) rfl (fun ls hl => ?_)
  refine lv_iload_n hx hb dX2_chanceOf_8 rfl (lv_at hl 3 rfl) ?_
  refine lv_iconst (v := (1 : Int32)) hx hb dX2_chanceOf_9 (by decide) ?_
  refine lv_icmp_ne (tgt := 18) hx hb dX2_chanceOf_10 (by decide) (fun c7 => ?_) (fun c7 => ?_)
  · replace hv := y_br_f hv c7
    refine lv_bipush (v := (9 : Int32)) hx hb dX2_chanceOf_18 (by decide) ?_
    refine lv_iload hx hb dX2_chanceOf_20 (lv_at hl 0 rfl) ?_
    refine lv_isub hx hb dX2_chanceOf_22 ?_
    replace hv := Option.some.inj hv
    subst hv
    rw [← kt]
    exact z_iret hc hB hr dX2_chanceOf_23
  · replace hv := y_br_t hv c7
    refine lv_iload hx hb dX2_chanceOf_13 (lv_at hl 0 rfl) ?_
    refine lv_goto (tgt := 23) hx hb dX2_chanceOf_15 (by decide) ?_
    replace hv := Option.some.inj hv
    subst hv
    rw [← kt]
    exact z_iret hc hB hr dX2_chanceOf_23
theorem qmX2_73 : Cond.methodLink RX2 73 yX2_chanceOf ∈ z_ws := List.mem_filter.mpr ⟨List.mem_append_right _ (List.mem_of_getElem? (i := 534) (by decide +kernel)), rfl⟩
theorem qc_X2_chanceOf : Cond.code yX2_chanceOf cX2_chanceOf 5 (some .int) ∈ z_ws := List.mem_filter.mpr ⟨List.mem_append_right _ (List.mem_of_getElem? (i := 537) (by decide +kernel)), rfl⟩
theorem qi_X2_chanceOf : Cond.instanceMethod yX2_chanceOf ∈ z_ws := List.mem_filter.mpr ⟨List.mem_append_right _ (List.mem_of_getElem? (i := 535) (by decide +kernel)), rfl⟩
theorem qs_X2_chanceOf : Cond.selects RX2 yX2_chanceOf yX2_chanceOf ∈ z_ws := List.mem_filter.mpr ⟨List.mem_append_right _ (List.mem_of_getElem? (i := 536) (by decide +kernel)), rfl⟩
theorem md_X2_chanceOf : z_mdV yX2_chanceOf cX2_chanceOf 5 (some .int) 3 := ⟨⟨qn_RX2, qc_X2_chanceOf, ⟨by decide +kernel, by decide +kernel, by decide +kernel⟩⟩, qi_X2_chanceOf, qs_X2_chanceOf⟩
theorem dX2_canBe_0 : decode cX2_canBe 0 = .ok (.iconst 0, 1) := by decide +kernel
theorem dX2_canBe_1 : decode cX2_canBe 1 = .ok (.istore_n 3, 1) := by decide +kernel
theorem dX2_canBe_2 : decode cX2_canBe 2 = .ok (.iload_n 3, 1) := by decide +kernel
theorem dX2_canBe_3 : decode cX2_canBe 3 = .ok (.bipush 7, 2) := by decide +kernel
theorem dX2_canBe_5 : decode cX2_canBe 5 = .ok (.if_icmp .ge 31, 3) := by decide +kernel
theorem dX2_canBe_8 : decode cX2_canBe 8 = .ok (.aload_n 0, 1) := by decide +kernel
theorem dX2_canBe_9 : decode cX2_canBe 9 = .ok (.iload_n 3, 1) := by decide +kernel
theorem dX2_canBe_10 : decode cX2_canBe 10 = .ok (.invokevirtual 46, 3) := by decide +kernel
theorem dX2_canBe_13 : decode cX2_canBe 13 = .ok (.lconst 0, 1) := by decide +kernel
theorem dX2_canBe_14 : decode cX2_canBe 14 = .ok (.lcmp, 1) := by decide +kernel
theorem dX2_canBe_15 : decode cX2_canBe 15 = .ok (.ifCond .le 15, 3) := by decide +kernel
theorem dX2_canBe_18 : decode cX2_canBe 18 = .ok (.aload_n 0, 1) := by decide +kernel
theorem dX2_canBe_19 : decode cX2_canBe 19 = .ok (.iload_n 1, 1) := by decide +kernel
theorem dX2_canBe_20 : decode cX2_canBe 20 = .ok (.iload_n 2, 1) := by decide +kernel
theorem dX2_canBe_21 : decode cX2_canBe 21 = .ok (.iload_n 3, 1) := by decide +kernel
theorem dX2_canBe_22 : decode cX2_canBe 22 = .ok (.invokevirtual 73, 3) := by decide +kernel
theorem dX2_canBe_25 : decode cX2_canBe 25 = .ok (.ifCond .le 5, 3) := by decide +kernel
theorem dX2_canBe_28 : decode cX2_canBe 28 = .ok (.iconst 1, 1) := by decide +kernel
theorem dX2_canBe_29 : decode cX2_canBe 29 = .ok (.ireturn, 1) := by decide +kernel
theorem dX2_canBe_30 : decode cX2_canBe 30 = .ok (.iinc 3 1, 3) := by decide +kernel
theorem dX2_canBe_33 : decode cX2_canBe 33 = .ok (.goto (-31), 3) := by decide +kernel
theorem dX2_canBe_36 : decode cX2_canBe 36 = .ok (.iconst 0, 1) := by decide +kernel
theorem dX2_canBe_37 : decode cX2_canBe 37 = .ok (.ireturn, 1) := by decide +kernel
abbrev rm_X2_canBe : Room := { frames := 4, cells := 0, slots := 0, locals := 92 }
noncomputable def fX2_canBe_b30 (o0 : Nat) (x1 : Int32) (x2 : Int32) (x3 : Int32) (h : z_T) : Option ((Int32) ⊕ (Int32)) :=
  y_nm (x3 + 1) fun v1 =>
  some (.inl (v1))
noncomputable def fX2_canBe_b2_i (o0 : Nat) (x1 : Int32) (x2 : Int32) (h : z_T) (x3 : Int32) : Option ((Int32) ⊕ (Int32)) :=
  y_br ((7 : Int32) ≤ x3)
    (y_mp <|
    some (0 : Int32))
    (y_gd (z_ok h o0 2) <|
    y_bi (fX2_ofPlace o0 x3 h) fun r6 =>
    y_br ((lg_cmp r6 (0 : Int64)) ≤ 0)
      (fX2_canBe_b30 o0 x1 x2 x3 h)
      (y_bi (fX2_chanceOf o0 x1 x2 x3 h) fun r12 =>
      y_br (r12 ≤ 0)
        (fX2_canBe_b30 o0 x1 x2 x3 h)
        (y_mp <|
        some (1 : Int32))))
noncomputable def fX2_canBe_b2 (o0 : Nat) (x1 : Int32) (x2 : Int32) (x3 : Int32) (h : z_T) : Option (Int32) := y_lp (fun q : Int32 => fX2_canBe_b2_i o0 x1 x2 h q) (x3)
noncomputable def fX2_canBe (o0 : Nat) (x1 : Int32) (x2 : Int32) (h : z_T) : Option (Int32) :=
  fX2_canBe_b2 o0 x1 x2 (0 : Int32) h
set_option maxHeartbeats 4000000 in
set_option maxRecDepth 100000 in
theorem mm_X2_canBe {G : z_Gt} (hSK : z_SK (z_S G)) (l : Launch) (ad : Nat → Nat) (o0 : Nat) (x1 : Int32) (x2 : Int32) (h : z_T) {r0 : Int32} (hv : fX2_canBe o0 x1 x2 h = some r0) : z_Mi G (z_S G) l yX2_canBe cX2_canBe 4 (.boolean) rm_X2_canBe 0 0 [.ref (ad o0), .int x1, .int x2] ad h h r0 := by
  refine z_ofW hSK (by decide) (Nat.le_of_ble_eq_true rfl) ?_
  intro p e s m args below meth c ls hc hr hnm hB hl
  have hx := hc.1.1
  have hb := hc.1.2.1
  have hown := hc.1.2.2.2.1
  have hts := hc.1.2.2.2.2
  replace hc : z_C G (z_S G) ad (z_n h) p m c cX2_canBe 4 s args RX2 meth := hc
  replace hown : s.vm.findClass RX2 = some m.cls := hown
  replace hl : lv_has ls 4 [(0, .ref (ad o0)), (1, .int x1), (2, .int x2)] := hl
  show W p l e rm_X2_canBe s m args below meth c s.heap [] 0 0 (MQ below (z_Qi G ad h (z_n h) s.heap.size r0) args s 0 0 (z_A ad (z_n h) s.heap.size)) (F0 m 0 ls [])
  obtain ⟨rs, kt⟩ : ∃ rs : Int32, rs = r0 := ⟨_, rfl⟩
  generalize hn0 : z_n h = n0 at hc hB ⊢
  have L2 : ∀ (nn2 : Nat) (x3 : Int32) (H : Heap) (locs : List Loc) (ls : Array Slot), z_B G ad n0 s h H locs → lv_has ls 4 [(0, .ref (ad o0)), (1, .int x1), (2, .int x2), (3, .int x3)] → ∀ vv2, y_lpN (fun q : Int32 => fX2_canBe_b2_i o0 x1 x2 h q) nn2 (x3) = some vv2 → vv2 = r0 → W p l e rm_X2_canBe s m args below meth c H locs 0 0 (MQ below (z_Qi G ad h n0 s.heap.size r0) args s 0 0 (z_A ad n0 s.heap.size)) (F0 m 2 ls []) := by
    intro nn2
    induction nn2 with
    | zero => intro x3 H locs ls hB hl vv2 hv kv2; exact absurd hv (fun q => y_lpN_0 q)
    | succ nn2 ih2 =>
      intro x3 H locs ls hB hl vv2 hv kv2
      obtain ⟨w, hq, kw2⟩ := y_lpN_e hv
      clear hv
      have hv : fX2_canBe_b2_i o0 x1 x2 h x3 = some w := hq
      clear hq
      have b30 : ∀ (x3 : Int32) (H : Heap) (locs : List Loc) (ls : Array Slot), z_B G ad n0 s h H locs → lv_has ls 4 [(0, .ref (ad o0)), (1, .int x1), (2, .int x2), (3, .int x3)] → ∀ w, fX2_canBe_b30 o0 x1 x2 x3 h = some w → y_lq (fun q : Int32 => fX2_canBe_b2_i o0 x1 x2 h q) nn2 vv2 w → W p l e rm_X2_canBe s m args below meth c H locs 0 0 (MQ below (z_Qi G ad h n0 s.heap.size r0) args s 0 0 (z_A ad n0 s.heap.size)) (F0 m 30 ls []) := by
        intro x3 H locs ls hB hl w hv kw2
        obtain ⟨v1, ev1, hv⟩ := y_nm_e hv
        refine lv_iinc (v := v1) (lv' := [(3, .int v1), (0, .ref (ad o0)), (1, .int x1), (2, .int x2)]) hx hb dX2_canBe_30 hl (k := 3) rfl (by rw [ev1]; rfl) (by decide) rfl (fun ls hl => ?_)
        refine lv_goto (tgt := 2) hx hb dX2_canBe_33 (by decide) ?_
        replace hv := Option.some.inj hv
        subst hv
        exact ih2 v1 _ _ _ hB (lv_sub hl [1, 2, 3, 0] rfl) _ kw2 kv2
      refine lv_iload_n hx hb dX2_canBe_2 rfl (lv_at hl 3 rfl) ?_
      refine lv_bipush (v := (7 : Int32)) hx hb dX2_canBe_3 (by decide) ?_
      refine lv_icmp_ge (tgt := 36) hx hb dX2_canBe_5 (by decide) (fun c2 => ?_) (fun c2 => ?_)
      · replace hv := y_br_t hv c2
        obtain ⟨t3, hq, ew⟩ := y_mp_e hv
        clear hv; subst ew
        replace kw2 : t3 = _ := kw2
        subst kw2
        have hv := hq
        clear hq
        refine lv_iconst (v := (0 : Int32)) hx hb dX2_canBe_36 (by decide) ?_
        replace hv := Option.some.inj hv
        subst hv
        rw [← kv2]
        exact z_zret hc hB hr rfl dX2_canBe_37
      · replace hv := y_br_f hv c2
        refine lv_aload_n hx hb dX2_canBe_8 rfl (lv_at hl 0 rfl) ?_
        refine lv_iload_n hx hb dX2_canBe_9 rfl (lv_at hl 3 rfl) ?_
        obtain ⟨g9, hv⟩ := y_gd_e hv
        obtain ⟨r6, c4, hv⟩ := y_bi_e hv
        refine z_thL hc hB (z_runV hc hB 2 (mm_X2_ofPlace hSK l ad o0 x3 h c4) md_X2_ofPlace qmX2_46 g9 (by decide) rfl rfl rfl ⟨Nat.le_of_ble_eq_true rfl, Nat.le_of_ble_eq_true rfl⟩ rfl hl.1 rfl (Nat.le_of_ble_eq_true rfl) dX2_canBe_10 ⟨Nat.le_of_ble_eq_true rfl, Nat.le_of_ble_eq_true rfl⟩) (fun H locs hB => ?_)
        refine lv_lconst (v := (0 : Int64)) hx hb dX2_canBe_13 (by decide) ?_
        refine W.lcmp hx hb dX2_canBe_14 ?_
        refine lv_if_le (tgt := 30) hx hb dX2_canBe_15 (by decide) (fun c10 => ?_) (fun c10 => ?_)
        · replace hv := y_br_t hv c10
          exact b30 x3 _ _ _ hB (lv_sub hl [0, 1, 2, 3] rfl) _ hv kw2
        · replace hv := y_br_f hv c10
          refine lv_aload_n hx hb dX2_canBe_18 rfl (lv_at hl 0 rfl) ?_
          refine lv_iload_n hx hb dX2_canBe_19 rfl (lv_at hl 1 rfl) ?_
          refine lv_iload_n hx hb dX2_canBe_20 rfl (lv_at hl 2 rfl) ?_
          refine lv_iload_n hx hb dX2_canBe_21 rfl (lv_at hl 3 rfl) ?_
          obtain ⟨r12, c11, hv⟩ := y_bi_e hv
          refine z_thI hc hB (z_runV hc hB 2 (mm_X2_chanceOf hSK l ad o0 x1 x2 x3 h c11) md_X2_chanceOf qmX2_73 g9 (by decide) rfl rfl rfl ⟨Nat.le_of_ble_eq_true rfl, Nat.le_of_ble_eq_true rfl⟩ rfl hl.1 rfl (Nat.le_of_ble_eq_true rfl) dX2_canBe_22 ⟨Nat.le_of_ble_eq_true rfl, Nat.le_of_ble_eq_true rfl⟩) (fun H locs hB => ?_)
          refine lv_if_le (tgt := 30) hx hb dX2_canBe_25 (by decide) (fun c16 => ?_) (fun c16 => ?_)
          · replace hv := y_br_t hv c16
            exact b30 x3 _ _ _ hB (lv_sub hl [0, 1, 2, 3] rfl) _ hv kw2
          · replace hv := y_br_f hv c16
            obtain ⟨t17, hq, ew⟩ := y_mp_e hv
            clear hv; subst ew
            replace kw2 : t17 = _ := kw2
            subst kw2
            have hv := hq
            clear hq
            refine lv_iconst (v := (1 : Int32)) hx hb dX2_canBe_28 (by decide) ?_
            replace hv := Option.some.inj hv
            subst hv
            rw [← kv2]
            exact z_zret hc hB hr rfl dX2_canBe_29
  rw [← kt] at hv
  refine lv_iconst (v := (0 : Int32)) hx hb dX2_canBe_0 (by decide) ?_
  refine lv_istore_n (lv' := [(3, .int (0 : Int32)), (0, .ref (ad o0)), (1, .int x1), (2, .int x2)]) hx hb dX2_canBe_1 rfl hl (by decide) rfl (fun ls hl => ?_)
  obtain ⟨n, hv⟩ := y_lp_e hv
  exact L2 n (0 : Int32) _ _ _ hB (lv_sub hl [1, 2, 3, 0] rfl) _ hv kt
theorem dX2_add_0 : decode cX2_add 0 = .ok (.iload_n 1, 1) := by decide +kernel
theorem dX2_add_1 : decode cX2_add 1 = .ok (.ifCond .lt 31, 3) := by decide +kernel
theorem dX2_add_4 : decode cX2_add 4 = .ok (.iload_n 1, 1) := by decide +kernel
theorem dX2_add_5 : decode cX2_add 5 = .ok (.aload_n 0, 1) := by decide +kernel
theorem dX2_add_6 : decode cX2_add 6 = .ok (.getfield 15, 3) := by decide +kernel
theorem dX2_add_9 : decode cX2_add 9 = .ok (.arraylength, 1) := by decide +kernel
theorem dX2_add_10 : decode cX2_add 10 = .ok (.if_icmp .ge 22, 3) := by decide +kernel
theorem dX2_add_13 : decode cX2_add 13 = .ok (.aload_n 0, 1) := by decide +kernel
theorem dX2_add_14 : decode cX2_add 14 = .ok (.getfield 30, 3) := by decide +kernel
theorem dX2_add_17 : decode cX2_add 17 = .ok (.ifCond .lt 15, 3) := by decide +kernel
theorem dX2_add_20 : decode cX2_add 20 = .ok (.aload_n 0, 1) := by decide +kernel
theorem dX2_add_21 : decode cX2_add 21 = .ok (.getfield 30, 3) := by decide +kernel
theorem dX2_add_24 : decode cX2_add 24 = .ok (.aload_n 0, 1) := by decide +kernel
theorem dX2_add_25 : decode cX2_add 25 = .ok (.getfield 9, 3) := by decide +kernel
theorem dX2_add_28 : decode cX2_add 28 = .ok (.arraylength, 1) := by decide +kernel
theorem dX2_add_29 : decode cX2_add 29 = .ok (.if_icmp .lt 4, 3) := by decide +kernel
theorem dX2_add_32 : decode cX2_add 32 = .ok (.return_, 1) := by decide +kernel
theorem dX2_add_33 : decode cX2_add 33 = .ok (.iconst 0, 1) := by decide +kernel
theorem dX2_add_34 : decode cX2_add 34 = .ok (.istore_n 3, 1) := by decide +kernel
theorem dX2_add_35 : decode cX2_add 35 = .ok (.iload_n 3, 1) := by decide +kernel
theorem dX2_add_36 : decode cX2_add 36 = .ok (.aload_n 0, 1) := by decide +kernel
theorem dX2_add_37 : decode cX2_add 37 = .ok (.getfield 18, 3) := by decide +kernel
theorem dX2_add_40 : decode cX2_add 40 = .ok (.arraylength, 1) := by decide +kernel
theorem dX2_add_41 : decode cX2_add 41 = .ok (.if_icmp .ge 26, 3) := by decide +kernel
theorem dX2_add_44 : decode cX2_add 44 = .ok (.aload_n 0, 1) := by decide +kernel
theorem dX2_add_45 : decode cX2_add 45 = .ok (.getfield 18, 3) := by decide +kernel
theorem dX2_add_48 : decode cX2_add 48 = .ok (.iload_n 3, 1) := by decide +kernel
theorem dX2_add_49 : decode cX2_add 49 = .ok (.dup2, 1) := by decide +kernel
theorem dX2_add_50 : decode cX2_add 50 = .ok (.laload, 1) := by decide +kernel
theorem dX2_add_51 : decode cX2_add 51 = .ok (.aload_n 0, 1) := by decide +kernel
theorem dX2_add_52 : decode cX2_add 52 = .ok (.iload_n 1, 1) := by decide +kernel
theorem dX2_add_53 : decode cX2_add 53 = .ok (.iload_n 2, 1) := by decide +kernel
theorem dX2_add_54 : decode cX2_add 54 = .ok (.iload_n 3, 1) := by decide +kernel
theorem dX2_add_55 : decode cX2_add 55 = .ok (.invokevirtual 73, 3) := by decide +kernel
theorem dX2_add_58 : decode cX2_add 58 = .ok (.i2l, 1) := by decide +kernel
theorem dX2_add_59 : decode cX2_add 59 = .ok (.lmul, 1) := by decide +kernel
theorem dX2_add_60 : decode cX2_add 60 = .ok (.lastore, 1) := by decide +kernel
theorem dX2_add_61 : decode cX2_add 61 = .ok (.iinc 3 1, 3) := by decide +kernel
theorem dX2_add_64 : decode cX2_add 64 = .ok (.goto (-29), 3) := by decide +kernel
theorem dX2_add_67 : decode cX2_add 67 = .ok (.aload_n 0, 1) := by decide +kernel
theorem dX2_add_68 : decode cX2_add 68 = .ok (.getfield 9, 3) := by decide +kernel
theorem dX2_add_71 : decode cX2_add 71 = .ok (.aload_n 0, 1) := by decide +kernel
theorem dX2_add_72 : decode cX2_add 72 = .ok (.getfield 30, 3) := by decide +kernel
theorem dX2_add_75 : decode cX2_add 75 = .ok (.iconst 2, 1) := by decide +kernel
theorem dX2_add_76 : decode cX2_add 76 = .ok (.iload_n 1, 1) := by decide +kernel
theorem dX2_add_77 : decode cX2_add 77 = .ok (.imul, 1) := by decide +kernel
theorem dX2_add_78 : decode cX2_add 78 = .ok (.iload_n 2, 1) := by decide +kernel
theorem dX2_add_79 : decode cX2_add 79 = .ok (.iadd, 1) := by decide +kernel
theorem dX2_add_80 : decode cX2_add 80 = .ok (.iastore, 1) := by decide +kernel
theorem dX2_add_81 : decode cX2_add 81 = .ok (.aload_n 0, 1) := by decide +kernel
theorem dX2_add_82 : decode cX2_add 82 = .ok (.getfield 15, 3) := by decide +kernel
theorem dX2_add_85 : decode cX2_add 85 = .ok (.iload_n 1, 1) := by decide +kernel
theorem dX2_add_86 : decode cX2_add 86 = .ok (.dup2, 1) := by decide +kernel
theorem dX2_add_87 : decode cX2_add 87 = .ok (.iaload, 1) := by decide +kernel
theorem dX2_add_88 : decode cX2_add 88 = .ok (.iconst 1, 1) := by decide +kernel
theorem dX2_add_89 : decode cX2_add 89 = .ok (.iadd, 1) := by decide +kernel
theorem dX2_add_90 : decode cX2_add 90 = .ok (.iastore, 1) := by decide +kernel
theorem dX2_add_91 : decode cX2_add 91 = .ok (.aload_n 0, 1) := by decide +kernel
theorem dX2_add_92 : decode cX2_add 92 = .ok (.dup, 1) := by decide +kernel
theorem dX2_add_93 : decode cX2_add 93 = .ok (.getfield 30, 3) := by decide +kernel
theorem dX2_add_96 : decode cX2_add 96 = .ok (.iconst 1, 1) := by decide +kernel
theorem dX2_add_97 : decode cX2_add 97 = .ok (.iadd, 1) := by decide +kernel
theorem dX2_add_98 : decode cX2_add 98 = .ok (.putfield 30, 3) := by decide +kernel
theorem dX2_add_101 : decode cX2_add 101 = .ok (.return_, 1) := by decide +kernel
abbrev rm_X2_add : Room := { frames := 4, cells := 0, slots := 0, locals := 92 }
noncomputable def fX2_add_b35_i (o0 : Nat) (x1 : Int32) (x2 : Int32) (x3 : Int32) (h : z_T) : Option ((Int32 × z_T) ⊕ (z_T)) :=
  y_gd (z_ok h o0 2) <|
  y_bi (z_R h o0 4) fun o2 =>
  y_gd (z_ok h o2 14) <|
  y_br ((nI (z_N h o2)) ≤ x3)
    (y_mp <|
    y_bi (z_R h o0 2) fun o6 =>
    y_gd (z_ok h o6 13) <|
    y_gd (z_ix (z_I h o0 1) (z_N h o6)) <|
    y_nm (z_sI h o6 (z_I h o0 1).toNatClampNeg (((2 : Int32) * x1) + x2)) fun h9 =>
    y_bi (z_R h9 o0 3) fun o10 =>
    y_gd (z_ok h9 o10 13) <|
    y_gd (z_ix x1 (z_N h9 o10)) <|
    y_gd (z_ix x1 (z_N h9 o10)) <|
    y_nm (z_sI h9 o10 x1.toNatClampNeg ((z_I h9 o10 x1.toNatClampNeg) + (1 : Int32))) fun h14 =>
    y_nm (z_sI h14 o0 1 ((z_I h14 o0 1) + (1 : Int32))) fun h15 =>
    some h15)
    (y_gd (z_ix x3 (z_N h o2)) <|
    y_bi (fX2_chanceOf o0 x1 x2 x3 h) fun r18 =>
    y_gd (z_ix x3 (z_N h o2)) <|
    y_nm (z_sL h o2 x3.toNatClampNeg ((z_L h o2 x3.toNatClampNeg) * (r18).toInt64)) fun h23 =>
    y_nm (x3 + 1) fun v24 =>
    some (.inl (v24, h23)))
noncomputable def fX2_add_b35 (o0 : Nat) (x1 : Int32) (x2 : Int32) (x3 : Int32) (h : z_T) : Option (z_T) := y_lp (fun q : Int32 × z_T => fX2_add_b35_i o0 x1 x2 q.1 q.2) (x3, h)
noncomputable def fX2_add (o0 : Nat) (x1 : Int32) (x2 : Int32) (h : z_T) : Option (z_T) :=
  y_br (x1 < 0)
    (some h)
    (y_gd (z_ok h o0 2) <|
    y_bi (z_R h o0 3) fun o27 =>
    y_gd (z_ok h o27 13) <|
    y_br ((nI (z_N h o27)) ≤ x1)
      (some h)
      (y_br ((z_I h o0 1) < 0)
        (some h)
        (y_bi (z_R h o0 2) fun o31 =>
        y_gd (z_ok h o31 13) <|
        y_br ((z_I h o0 1) < (nI (z_N h o31)))
          (fX2_add_b35 o0 x1 x2 (0 : Int32) h)
          (some h))))
set_option maxHeartbeats 4000000 in
set_option maxRecDepth 100000 in
theorem mm_X2_add {G : z_Gt} (hSK : z_SK (z_S G)) (l : Launch) (ad : Nat → Nat) (o0 : Nat) (x1 : Int32) (x2 : Int32) (h : z_T) {h9 : z_T} (hv : fX2_add o0 x1 x2 h = some h9) : z_Mv G (z_S G) l yX2_add cX2_add 4 rm_X2_add 0 0 [.ref (ad o0), .int x1, .int x2] ad h h9 := by
  refine z_ofW hSK (by decide) (Nat.le_of_ble_eq_true rfl) ?_
  intro p e s m args below meth c ls hc hr hnm hB hl
  have hx := hc.1.1
  have hb := hc.1.2.1
  have hown := hc.1.2.2.2.1
  have hts := hc.1.2.2.2.2
  replace hc : z_C G (z_S G) ad (z_n h) p m c cX2_add 4 s args RX2 meth := hc
  replace hown : s.vm.findClass RX2 = some m.cls := hown
  replace hl : lv_has ls 4 [(0, .ref (ad o0)), (1, .int x1), (2, .int x2)] := hl
  show W p l e rm_X2_add s m args below meth c s.heap [] 0 0 (MQ below (z_Qv G ad h9 (z_n h) s.heap.size) args s 0 0 (z_A ad (z_n h) s.heap.size)) (F0 m 0 ls [])
  obtain ⟨rs, kt⟩ : ∃ rs : z_T, rs = h9 := ⟨_, rfl⟩
  generalize hn0 : z_n h = n0 at hc hB ⊢
  have L35 : ∀ (nn35 : Nat) (x3 : Int32) (h : z_T) (H : Heap) (locs : List Loc) (ls : Array Slot), z_B G ad n0 s h H locs → lv_has ls 4 [(0, .ref (ad o0)), (1, .int x1), (2, .int x2), (3, .int x3)] → ∀ vv35, y_lpN (fun q : Int32 × z_T => fX2_add_b35_i o0 x1 x2 q.1 q.2) nn35 (x3, h) = some vv35 → vv35 = h9 → W p l e rm_X2_add s m args below meth c H locs 0 0 (MQ below (z_Qv G ad h9 n0 s.heap.size) args s 0 0 (z_A ad n0 s.heap.size)) (F0 m 35 ls []) := by
    intro nn35
    induction nn35 with
    | zero => intro x3 h H locs ls hB hl vv35 hv kv35; exact absurd hv (fun q => y_lpN_0 q)
    | succ nn35 ih35 =>
      intro x3 h H locs ls hB hl vv35 hv kv35
      obtain ⟨w, hq, kw35⟩ := y_lpN_e hv
      clear hv
      have hv : fX2_add_b35_i o0 x1 x2 x3 h = some w := hq
      clear hq
      refine lv_iload_n hx hb dX2_add_35 rfl (lv_at hl 3 rfl) ?_
      refine lv_aload_n hx hb dX2_add_36 rfl (lv_at hl 0 rfl) ?_
      obtain ⟨g1, hv⟩ := y_gd_e hv
      obtain ⟨o2, eo2, hv⟩ := y_bi_e hv
      refine z_getR hc hB 2 4 g1 eo2 (by decide) (by decide) rfl (z_l1 hc qfX2_18) dX2_add_37 ?_
      obtain ⟨g3, hv⟩ := y_gd_e hv
      refine z_alen hc hB 14 (by decide) (by decide) g3 dX2_add_40 ?_
      refine lv_icmp_ge (tgt := 67) hx hb dX2_add_41 (by decide) (fun c4 => ?_) (fun c4 => ?_)
      · replace hv := y_br_t hv c4
        obtain ⟨t5, hq, ew⟩ := y_mp_e hv
        clear hv; subst ew
        replace kw35 : t5 = _ := kw35
        subst kw35
        have hv := hq
        clear hq
        refine lv_aload_n hx hb dX2_add_67 rfl (lv_at hl 0 rfl) ?_
        obtain ⟨o6, eo6, hv⟩ := y_bi_e hv
        refine z_getR hc hB 2 2 g1 eo6 (by decide) (by decide) rfl (z_l1 hc qfX2_9) dX2_add_68 ?_
        refine lv_aload_n hx hb dX2_add_71 rfl (lv_at hl 0 rfl) ?_
        refine z_getI hc hB 2 1 g1 (by decide) (by decide) rfl (z_l1 hc qfX2_30) dX2_add_72 ?_
        refine lv_iconst (v := (2 : Int32)) hx hb dX2_add_75 (by decide) ?_
        refine lv_iload_n hx hb dX2_add_76 rfl (lv_at hl 1 rfl) ?_
        refine lv_imul hx hb dX2_add_77 ?_
        refine lv_iload_n hx hb dX2_add_78 rfl (lv_at hl 2 rfl) ?_
        refine lv_iadd hx hb dX2_add_79 ?_
        obtain ⟨g7, hv⟩ := y_gd_e hv
        obtain ⟨i8, hv⟩ := y_gd_e hv
        obtain ⟨h9, eh9, hv⟩ := y_nm_e hv
        refine y_iast hc hB eh9 g7 i8 dX2_add_80 (fun H locs hB => ?_)
        refine lv_aload_n hx hb dX2_add_81 rfl (lv_at hl 0 rfl) ?_
        obtain ⟨o10, eo10, hv⟩ := y_bi_e hv
        refine z_getR hc hB 2 3 (by rw [eh9]; exact g1) eo10 (by decide) (by decide) rfl (z_l1 hc qfX2_15) dX2_add_82 ?_
        refine lv_iload_n hx hb dX2_add_85 rfl (lv_at hl 1 rfl) ?_
        refine lv_dup2_11 hx hb dX2_add_86 rfl rfl ?_
        obtain ⟨g11, hv⟩ := y_gd_e hv
        obtain ⟨i12, hv⟩ := y_gd_e hv
        refine z_iald hc hB g11 i12 dX2_add_87 ?_
        refine lv_iconst (v := (1 : Int32)) hx hb dX2_add_88 (by decide) ?_
        refine lv_iadd hx hb dX2_add_89 ?_
        obtain ⟨i13, hv⟩ := y_gd_e hv
        obtain ⟨h14, eh14, hv⟩ := y_nm_e hv
        refine y_iast hc hB eh14 g11 i13 dX2_add_90 (fun H locs hB => ?_)
        refine lv_aload_n hx hb dX2_add_91 rfl (lv_at hl 0 rfl) ?_
        refine lv_dup hx hb dX2_add_92 rfl ?_
        refine z_getI hc hB 2 1 (by rw [eh14, eh9]; exact g1) (by decide) (by decide) rfl (z_l1 hc qfX2_30) dX2_add_93 ?_
        refine lv_iconst (v := (1 : Int32)) hx hb dX2_add_96 (by decide) ?_
        refine lv_iadd hx hb dX2_add_97 ?_
        obtain ⟨h15, eh15, hv⟩ := y_nm_e hv
        refine y_putI hc hB 2 1 eh15 (by rw [eh14, eh9]; exact g1) (z_l1 hc qfX2_30) dX2_add_98 (by decide) (by decide) rfl rfl rfl rfl (fun H locs hB => ?_)
        replace hv := Option.some.inj hv
        subst hv
        rw [← kv35]
        exact z_vret hc hB hr dX2_add_101
      · replace hv := y_br_f hv c4
        refine lv_aload_n hx hb dX2_add_44 rfl (lv_at hl 0 rfl) ?_
        refine z_getR hc hB 2 4 g1 eo2 (by decide) (by decide) rfl (z_l1 hc qfX2_18) dX2_add_45 ?_
        refine lv_iload_n hx hb dX2_add_48 rfl (lv_at hl 3 rfl) ?_
        refine lv_dup2_11 hx hb dX2_add_49 rfl rfl ?_
        obtain ⟨i16, hv⟩ := y_gd_e hv
        refine z_lald hc hB g3 i16 dX2_add_50 ?_
        refine lv_aload_n hx hb dX2_add_51 rfl (lv_at hl 0 rfl) ?_
        refine lv_iload_n hx hb dX2_add_52 rfl (lv_at hl 1 rfl) ?_
        refine lv_iload_n hx hb dX2_add_53 rfl (lv_at hl 2 rfl) ?_
        refine lv_iload_n hx hb dX2_add_54 rfl (lv_at hl 3 rfl) ?_
        obtain ⟨r18, c17, hv⟩ := y_bi_e hv
        refine z_thI hc hB (z_runV hc hB 2 (mm_X2_chanceOf hSK l ad o0 x1 x2 x3 h c17) md_X2_chanceOf qmX2_73 g1 (by decide) rfl rfl rfl ⟨Nat.le_of_ble_eq_true rfl, Nat.le_of_ble_eq_true rfl⟩ rfl hl.1 rfl (Nat.le_of_ble_eq_true rfl) dX2_add_55 ⟨Nat.le_of_ble_eq_true rfl, Nat.le_of_ble_eq_true rfl⟩) (fun H locs hB => ?_)
        refine lv_i2l hx hb dX2_add_58 rfl ?_
        refine lv_lmul hx hb dX2_add_59 ?_
        obtain ⟨i22, hv⟩ := y_gd_e hv
        obtain ⟨h23, eh23, hv⟩ := y_nm_e hv
        refine y_last hc hB eh23 g3 i22 dX2_add_60 (fun H locs hB => ?_)
        obtain ⟨v24, ev24, hv⟩ := y_nm_e hv
        refine lv_iinc (v := v24) (lv' := [(3, .int v24), (0, .ref (ad o0)), (1, .int x1), (2, .int x2)]) hx hb dX2_add_61 hl (k := 3) rfl (by rw [ev24]; rfl) (by decide) rfl (fun ls hl => ?_)
        refine lv_goto (tgt := 35) hx hb dX2_add_64 (by decide) ?_
        replace hv := Option.some.inj hv
        subst hv
        exact ih35 v24 h23 _ _ _ hB (lv_sub hl [1, 2, 3, 0] rfl) _ kw35 kv35
  rw [← kt] at hv
  refine lv_iload_n hx hb dX2_add_0 rfl (lv_at hl 1 rfl) ?_
  refine lv_if_lt (tgt := 32) hx hb dX2_add_1 (by decide) (fun c25 => ?_) (fun c25 => ?_)
  · replace hv := y_br_t hv c25
    replace hv := Option.some.inj hv
    subst hv
    rw [← kt]
    exact z_vret hc hB hr dX2_add_32
  · replace hv := y_br_f hv c25
    refine lv_iload_n hx hb dX2_add_4 rfl (lv_at hl 1 rfl) ?_
    refine lv_aload_n hx hb dX2_add_5 rfl (lv_at hl 0 rfl) ?_
    obtain ⟨g26, hv⟩ := y_gd_e hv
    obtain ⟨o27, eo27, hv⟩ := y_bi_e hv
    refine z_getR hc hB 2 3 g26 eo27 (by decide) (by decide) rfl (z_l1 hc qfX2_15) dX2_add_6 ?_
    obtain ⟨g28, hv⟩ := y_gd_e hv
    refine z_alen hc hB 13 (by decide) (by decide) g28 dX2_add_9 ?_
    refine lv_icmp_ge (tgt := 32) hx hb dX2_add_10 (by decide) (fun c29 => ?_) (fun c29 => ?_)
    · replace hv := y_br_t hv c29
      replace hv := Option.some.inj hv
      subst hv
      rw [← kt]
      exact z_vret hc hB hr dX2_add_32
    · replace hv := y_br_f hv c29
      refine lv_aload_n hx hb dX2_add_13 rfl (lv_at hl 0 rfl) ?_
      refine z_getI hc hB 2 1 g26 (by decide) (by decide) rfl (z_l1 hc qfX2_30) dX2_add_14 ?_
      refine lv_if_lt (tgt := 32) hx hb dX2_add_17 (by decide) (fun c30 => ?_) (fun c30 => ?_)
      · replace hv := y_br_t hv c30
        replace hv := Option.some.inj hv
        subst hv
        rw [← kt]
        exact z_vret hc hB hr dX2_add_32
      · replace hv := y_br_f hv c30
        refine lv_aload_n hx hb dX2_add_20 rfl (lv_at hl 0 rfl) ?_
        refine z_getI hc hB 2 1 g26 (by decide) (by decide) rfl (z_l1 hc qfX2_30) dX2_add_21 ?_
        refine lv_aload_n hx hb dX2_add_24 rfl (lv_at hl 0 rfl) ?_
        obtain ⟨o31, eo31, hv⟩ := y_bi_e hv
        refine z_getR hc hB 2 2 g26 eo31 (by decide) (by decide) rfl (z_l1 hc qfX2_9) dX2_add_25 ?_
        obtain ⟨g32, hv⟩ := y_gd_e hv
        refine z_alen hc hB 13 (by decide) (by decide) g32 dX2_add_28 ?_
        refine lv_icmp_lt (tgt := 33) hx hb dX2_add_29 (by decide) (fun c33 => ?_) (fun c33 => ?_)
        · replace hv := y_br_t hv c33
          refine lv_iconst (v := (0 : Int32)) hx hb dX2_add_33 (by decide) ?_
          refine lv_istore_n (lv' := [(3, .int (0 : Int32)), (0, .ref (ad o0)), (1, .int x1), (2, .int x2)]) hx hb dX2_add_34 rfl hl (by decide) rfl (fun ls hl => ?_)
          obtain ⟨n, hv⟩ := y_lp_e hv
          exact L35 n (0 : Int32) h _ _ _ hB (lv_sub hl [1, 2, 3, 0] rfl) _ hv kt
        · replace hv := y_br_f hv c33
          replace hv := Option.some.inj hv
          subst hv
          rw [← kt]
          exact z_vret hc hB hr dX2_add_32
theorem dX2_getsUp_0 : decode cX2_getsUp 0 = .ok (.aload_n 0, 1) := by decide +kernel
theorem dX2_getsUp_1 : decode cX2_getsUp 1 = .ok (.getfield 26, 3) := by decide +kernel
theorem dX2_getsUp_4 : decode cX2_getsUp 4 = .ok (.iconst 4, 1) := by decide +kernel
theorem dX2_getsUp_5 : decode cX2_getsUp 5 = .ok (.invokevirtual 57, 3) := by decide +kernel
theorem dX2_getsUp_8 : decode cX2_getsUp 8 = .ok (.i2l, 1) := by decide +kernel
theorem dX2_getsUp_9 : decode cX2_getsUp 9 = .ok (.aload_n 0, 1) := by decide +kernel
theorem dX2_getsUp_10 : decode cX2_getsUp 10 = .ok (.invokevirtual 54, 3) := by decide +kernel
theorem dX2_getsUp_13 : decode cX2_getsUp 13 = .ok (.lmul, 1) := by decide +kernel
theorem dX2_getsUp_14 : decode cX2_getsUp 14 = .ok (.aload_n 0, 1) := by decide +kernel
theorem dX2_getsUp_15 : decode cX2_getsUp 15 = .ok (.getfield 26, 3) := by decide +kernel
theorem dX2_getsUp_18 : decode cX2_getsUp 18 = .ok (.iconst 3, 1) := by decide +kernel
theorem dX2_getsUp_19 : decode cX2_getsUp 19 = .ok (.invokevirtual 57, 3) := by decide +kernel
theorem dX2_getsUp_22 : decode cX2_getsUp 22 = .ok (.i2l, 1) := by decide +kernel
theorem dX2_getsUp_23 : decode cX2_getsUp 23 = .ok (.aload_n 0, 1) := by decide +kernel
theorem dX2_getsUp_24 : decode cX2_getsUp 24 = .ok (.invokevirtual 50, 3) := by decide +kernel
theorem dX2_getsUp_27 : decode cX2_getsUp 27 = .ok (.lmul, 1) := by decide +kernel
theorem dX2_getsUp_28 : decode cX2_getsUp 28 = .ok (.lcmp, 1) := by decide +kernel
theorem dX2_getsUp_29 : decode cX2_getsUp 29 = .ok (.ifCond .gt 7, 3) := by decide +kernel
theorem dX2_getsUp_32 : decode cX2_getsUp 32 = .ok (.iconst 1, 1) := by decide +kernel
theorem dX2_getsUp_33 : decode cX2_getsUp 33 = .ok (.goto 4, 3) := by decide +kernel
theorem dX2_getsUp_36 : decode cX2_getsUp 36 = .ok (.iconst 0, 1) := by decide +kernel
theorem dX2_getsUp_37 : decode cX2_getsUp 37 = .ok (.ireturn, 1) := by decide +kernel
abbrev rm_X2_getsUp : Room := { frames := 2, cells := 0, slots := 0, locals := 44 }
noncomputable def fX2_getsUp (o0 : Nat) (h : z_T) : Option (Int32) :=
  y_gd (z_ok h o0 2) <|
  y_bi (z_R h o0 0) fun o2 =>
  y_gd (z_ok h o2 0) <|
  y_bi (fX0_setting o2 (4 : Int32) h) fun r4 =>
  y_bi (fX2_ofDreams o0 h) fun r11 =>
  y_bi (fX0_setting o2 (3 : Int32) h) fun r15 =>
  y_bi (fX2_ofRoom o0 h) fun r21 =>
  y_br (0 < (lg_cmp ((r4).toInt64 * r11) ((r15).toInt64 * r21)))
    (some (0 : Int32))
    (some (1 : Int32))
set_option maxHeartbeats 4000000 in
set_option maxRecDepth 100000 in
theorem mm_X2_getsUp {G : z_Gt} (hSK : z_SK (z_S G)) (l : Launch) (ad : Nat → Nat) (o0 : Nat) (h : z_T) {r0 : Int32} (hv : fX2_getsUp o0 h = some r0) : z_Mi G (z_S G) l yX2_getsUp cX2_getsUp 1 (.boolean) rm_X2_getsUp 0 0 [.ref (ad o0)] ad h h r0 := by
  refine z_ofW hSK (by decide) (Nat.le_of_ble_eq_true rfl) ?_
  intro p e s m args below meth c ls hc hr hnm hB hl
  have hx := hc.1.1
  have hb := hc.1.2.1
  have hown := hc.1.2.2.2.1
  have hts := hc.1.2.2.2.2
  replace hc : z_C G (z_S G) ad (z_n h) p m c cX2_getsUp 1 s args RX2 meth := hc
  replace hown : s.vm.findClass RX2 = some m.cls := hown
  replace hl : lv_has ls 1 [(0, .ref (ad o0))] := hl
  show W p l e rm_X2_getsUp s m args below meth c s.heap [] 0 0 (MQ below (z_Qi G ad h (z_n h) s.heap.size r0) args s 0 0 (z_A ad (z_n h) s.heap.size)) (F0 m 0 ls [])
  obtain ⟨rs, kt⟩ : ∃ rs : Int32, rs = r0 := ⟨_, rfl⟩
  generalize hn0 : z_n h = n0 at hc hB ⊢
  rw [← kt] at hv
  refine lv_aload_n hx hb dX2_getsUp_0 rfl (lv_at hl 0 rfl) ?_
  obtain ⟨g1, hv⟩ := y_gd_e hv
  obtain ⟨o2, eo2, hv⟩ := y_bi_e hv
  refine z_getR hc hB 2 0 g1 eo2 (by decide) (by decide) rfl (z_l1 hc qfX2_26) dX2_getsUp_1 ?_
  refine lv_iconst (v := (4 : Int32)) hx hb dX2_getsUp_4 (by decide) ?_
  obtain ⟨g8, hv⟩ := y_gd_e hv
  obtain ⟨r4, c3, hv⟩ := y_bi_e hv
  refine z_thI hc hB (z_runV hc hB 0 (mm_X0_setting hSK l ad o2 (4 : Int32) h c3) md_X0_setting qmX2_57 g8 (by decide) rfl rfl rfl ⟨Nat.le_of_ble_eq_true rfl, Nat.le_of_ble_eq_true rfl⟩ rfl hl.1 rfl (Nat.le_of_ble_eq_true rfl) dX2_getsUp_5 ⟨Nat.le_of_ble_eq_true rfl, Nat.le_of_ble_eq_true rfl⟩) (fun H locs hB => ?_)
  refine lv_i2l hx hb dX2_getsUp_8 rfl ?_
  refine lv_aload_n hx hb dX2_getsUp_9 rfl (lv_at hl 0 rfl) ?_
  obtain ⟨r11, c9, hv⟩ := y_bi_e hv
  refine z_thL hc hB (z_runV hc hB 2 (mm_X2_ofDreams hSK l ad o0 h c9) md_X2_ofDreams qmX2_54 g1 (by decide) rfl rfl rfl ⟨Nat.le_of_ble_eq_true rfl, Nat.le_of_ble_eq_true rfl⟩ rfl hl.1 rfl (Nat.le_of_ble_eq_true rfl) dX2_getsUp_10 ⟨Nat.le_of_ble_eq_true rfl, Nat.le_of_ble_eq_true rfl⟩) (fun H locs hB => ?_)
  refine lv_lmul hx hb dX2_getsUp_13 ?_
  refine lv_aload_n hx hb dX2_getsUp_14 rfl (lv_at hl 0 rfl) ?_
  refine z_getR hc hB 2 0 g1 eo2 (by decide) (by decide) rfl (z_l1 hc qfX2_26) dX2_getsUp_15 ?_
  refine lv_iconst (v := (3 : Int32)) hx hb dX2_getsUp_18 (by decide) ?_
  obtain ⟨r15, c14, hv⟩ := y_bi_e hv
  refine z_thI hc hB (z_runV hc hB 0 (mm_X0_setting hSK l ad o2 (3 : Int32) h c14) md_X0_setting qmX2_57 g8 (by decide) rfl rfl rfl ⟨Nat.le_of_ble_eq_true rfl, Nat.le_of_ble_eq_true rfl⟩ rfl hl.1 rfl (Nat.le_of_ble_eq_true rfl) dX2_getsUp_19 ⟨Nat.le_of_ble_eq_true rfl, Nat.le_of_ble_eq_true rfl⟩) (fun H locs hB => ?_)
  refine lv_i2l hx hb dX2_getsUp_22 rfl ?_
  refine lv_aload_n hx hb dX2_getsUp_23 rfl (lv_at hl 0 rfl) ?_
  obtain ⟨r21, c19, hv⟩ := y_bi_e hv
  refine z_thL hc hB (z_runV hc hB 2 (mm_X2_ofRoom hSK l ad o0 h c19) md_X2_ofRoom qmX2_50 g1 (by decide) rfl rfl rfl ⟨Nat.le_of_ble_eq_true rfl, Nat.le_of_ble_eq_true rfl⟩ rfl hl.1 rfl (Nat.le_of_ble_eq_true rfl) dX2_getsUp_24 ⟨Nat.le_of_ble_eq_true rfl, Nat.le_of_ble_eq_true rfl⟩) (fun H locs hB => ?_)
  refine lv_lmul hx hb dX2_getsUp_27 ?_
  refine W.lcmp hx hb dX2_getsUp_28 ?_
  refine lv_if_gt (tgt := 36) hx hb dX2_getsUp_29 (by decide) (fun c24 => ?_) (fun c24 => ?_)
  · replace hv := y_br_t hv c24
    refine lv_iconst (v := (0 : Int32)) hx hb dX2_getsUp_36 (by decide) ?_
    replace hv := Option.some.inj hv
    subst hv
    rw [← kt]
    exact z_zret hc hB hr rfl dX2_getsUp_37
  · replace hv := y_br_f hv c24
    refine lv_iconst (v := (1 : Int32)) hx hb dX2_getsUp_32 (by decide) ?_
    refine lv_goto (tgt := 37) hx hb dX2_getsUp_33 (by decide) ?_
    replace hv := Option.some.inj hv
    subst hv
    rw [← kt]
    exact z_zret hc hB hr rfl dX2_getsUp_37
theorem qkX2_77 : Cond.constantLong RX2 77 (9 : Int64) ∈ z_ws := List.mem_filter.mpr ⟨List.mem_append_right _ (List.mem_of_getElem? (i := 907) (by decide +kernel)), rfl⟩
theorem qmX2_79 : Cond.methodLink RX2 79 yX2_ofAll ∈ z_ws := List.mem_filter.mpr ⟨List.mem_append_right _ (List.mem_of_getElem? (i := 908) (by decide +kernel)), rfl⟩
theorem qc_X2_ofAll : Cond.code yX2_ofAll cX2_ofAll 1 (some .long) ∈ z_ws := List.mem_filter.mpr ⟨List.mem_append_right _ (List.mem_of_getElem? (i := 911) (by decide +kernel)), rfl⟩
theorem qi_X2_ofAll : Cond.instanceMethod yX2_ofAll ∈ z_ws := List.mem_filter.mpr ⟨List.mem_append_right _ (List.mem_of_getElem? (i := 909) (by decide +kernel)), rfl⟩
theorem qs_X2_ofAll : Cond.selects RX2 yX2_ofAll yX2_ofAll ∈ z_ws := List.mem_filter.mpr ⟨List.mem_append_right _ (List.mem_of_getElem? (i := 910) (by decide +kernel)), rfl⟩
theorem md_X2_ofAll : z_mdV yX2_ofAll cX2_ofAll 1 (some .long) 0 := ⟨⟨qn_RX2, qc_X2_ofAll, ⟨by decide +kernel, by decide +kernel, by decide +kernel⟩⟩, qi_X2_ofAll, qs_X2_ofAll⟩
theorem dX2_isWronglySure_0 : decode cX2_isWronglySure 0 = .ok (.iload_n 1, 1) := by decide +kernel
theorem dX2_isWronglySure_1 : decode cX2_isWronglySure 1 = .ok (.ifCond .ne 10, 3) := by decide +kernel
theorem dX2_isWronglySure_4 : decode cX2_isWronglySure 4 = .ok (.aload_n 0, 1) := by decide +kernel
theorem dX2_isWronglySure_5 : decode cX2_isWronglySure 5 = .ok (.invokevirtual 54, 3) := by decide +kernel
theorem dX2_isWronglySure_8 : decode cX2_isWronglySure 8 = .ok (.goto 7, 3) := by decide +kernel
theorem dX2_isWronglySure_11 : decode cX2_isWronglySure 11 = .ok (.aload_n 0, 1) := by decide +kernel
theorem dX2_isWronglySure_12 : decode cX2_isWronglySure 12 = .ok (.invokevirtual 50, 3) := by decide +kernel
theorem dX2_isWronglySure_15 : decode cX2_isWronglySure 15 = .ok (.lstore_n 2, 1) := by decide +kernel
theorem dX2_isWronglySure_16 : decode cX2_isWronglySure 16 = .ok (.lload_n 2, 1) := by decide +kernel
theorem dX2_isWronglySure_17 : decode cX2_isWronglySure 17 = .ok (.ldc2_w 77, 3) := by decide +kernel
theorem dX2_isWronglySure_20 : decode cX2_isWronglySure 20 = .ok (.lmul, 1) := by decide +kernel
theorem dX2_isWronglySure_21 : decode cX2_isWronglySure 21 = .ok (.aload_n 0, 1) := by decide +kernel
theorem dX2_isWronglySure_22 : decode cX2_isWronglySure 22 = .ok (.getfield 26, 3) := by decide +kernel
theorem dX2_isWronglySure_25 : decode cX2_isWronglySure 25 = .ok (.iconst 2, 1) := by decide +kernel
theorem dX2_isWronglySure_26 : decode cX2_isWronglySure 26 = .ok (.invokevirtual 57, 3) := by decide +kernel
theorem dX2_isWronglySure_29 : decode cX2_isWronglySure 29 = .ok (.i2l, 1) := by decide +kernel
theorem dX2_isWronglySure_30 : decode cX2_isWronglySure 30 = .ok (.aload_n 0, 1) := by decide +kernel
theorem dX2_isWronglySure_31 : decode cX2_isWronglySure 31 = .ok (.invokevirtual 79, 3) := by decide +kernel
theorem dX2_isWronglySure_34 : decode cX2_isWronglySure 34 = .ok (.lmul, 1) := by decide +kernel
theorem dX2_isWronglySure_35 : decode cX2_isWronglySure 35 = .ok (.lcmp, 1) := by decide +kernel
theorem dX2_isWronglySure_36 : decode cX2_isWronglySure 36 = .ok (.ifCond .lt 7, 3) := by decide +kernel
theorem dX2_isWronglySure_39 : decode cX2_isWronglySure 39 = .ok (.iconst 1, 1) := by decide +kernel
theorem dX2_isWronglySure_40 : decode cX2_isWronglySure 40 = .ok (.goto 4, 3) := by decide +kernel
theorem dX2_isWronglySure_43 : decode cX2_isWronglySure 43 = .ok (.iconst 0, 1) := by decide +kernel
theorem dX2_isWronglySure_44 : decode cX2_isWronglySure 44 = .ok (.ireturn, 1) := by decide +kernel
abbrev rm_X2_isWronglySure : Room := { frames := 3, cells := 0, slots := 0, locals := 64 }
noncomputable def fX2_isWronglySure_b15 (o0 : Nat) (s0 : Int64) (h : z_T) : Option (Int32) :=
  y_gd (z_ok h o0 2) <|
  y_bi (z_R h o0 0) fun o2 =>
  y_gd (z_ok h o2 0) <|
  y_bi (fX0_setting o2 (2 : Int32) h) fun r4 =>
  y_bi (fX2_ofAll o0 h) fun r11 =>
  y_br ((lg_cmp (s0 * (9 : Int64)) ((r4).toInt64 * r11)) < 0)
    (some (0 : Int32))
    (some (1 : Int32))
noncomputable def fX2_isWronglySure (o0 : Nat) (x1 : Int32) (h : z_T) : Option (Int32) :=
  y_br (x1 = 0)
    (y_gd (z_ok h o0 2) <|
    y_bi (fX2_ofDreams o0 h) fun r24 =>
    fX2_isWronglySure_b15 o0 r24 h)
    (y_gd (z_ok h o0 2) <|
    y_bi (fX2_ofRoom o0 h) fun r18 =>
    fX2_isWronglySure_b15 o0 r18 h)
set_option maxHeartbeats 4000000 in
set_option maxRecDepth 100000 in
theorem mm_X2_isWronglySure {G : z_Gt} (hSK : z_SK (z_S G)) (l : Launch) (ad : Nat → Nat) (o0 : Nat) (x1 : Int32) (h : z_T) {r0 : Int32} (hv : fX2_isWronglySure o0 x1 h = some r0) : z_Mi G (z_S G) l yX2_isWronglySure cX2_isWronglySure 4 (.boolean) rm_X2_isWronglySure 0 0 [.ref (ad o0), .int x1] ad h h r0 := by
  refine z_ofW hSK (by decide) (Nat.le_of_ble_eq_true rfl) ?_
  intro p e s m args below meth c ls hc hr hnm hB hl
  have hx := hc.1.1
  have hb := hc.1.2.1
  have hown := hc.1.2.2.2.1
  have hts := hc.1.2.2.2.2
  replace hc : z_C G (z_S G) ad (z_n h) p m c cX2_isWronglySure 4 s args RX2 meth := hc
  replace hown : s.vm.findClass RX2 = some m.cls := hown
  replace hl : lv_has ls 4 [(0, .ref (ad o0)), (1, .int x1)] := hl
  show W p l e rm_X2_isWronglySure s m args below meth c s.heap [] 0 0 (MQ below (z_Qi G ad h (z_n h) s.heap.size r0) args s 0 0 (z_A ad (z_n h) s.heap.size)) (F0 m 0 ls [])
  obtain ⟨rs, kt⟩ : ∃ rs : Int32, rs = r0 := ⟨_, rfl⟩
  generalize hn0 : z_n h = n0 at hc hB ⊢
  have b15 : ∀ (s0 : Int64) (H : Heap) (locs : List Loc) (ls : Array Slot), z_B G ad n0 s h H locs → lv_has ls 4 [(0, .ref (ad o0))] → ∀ w, fX2_isWronglySure_b15 o0 s0 h = some w → w = r0 → W p l e rm_X2_isWronglySure s m args below meth c H locs 0 0 (MQ below (z_Qi G ad h n0 s.heap.size r0) args s 0 0 (z_A ad n0 s.heap.size)) (F0 m 15 ls [.long s0]) := by
    intro s0 H locs ls hB hl w hv kb
    refine lv_lstore_n (lv' := [(2, .long s0), (0, .ref (ad o0))]) hx hb dX2_isWronglySure_15 rfl hl (by decide) rfl (fun ls hl => ?_)
    refine lv_lload_n hx hb dX2_isWronglySure_16 rfl (lv_at hl 0 rfl) ?_
    refine lv_ldc2 (v := (9 : Int64)) hx hb hown (hts _ qkX2_77) dX2_isWronglySure_17 ?_
    refine lv_lmul hx hb dX2_isWronglySure_20 ?_
    refine lv_aload_n hx hb dX2_isWronglySure_21 rfl (lv_at hl 1 rfl) ?_
    obtain ⟨g1, hv⟩ := y_gd_e hv
    obtain ⟨o2, eo2, hv⟩ := y_bi_e hv
    refine z_getR hc hB 2 0 g1 eo2 (by decide) (by decide) rfl (z_l1 hc qfX2_26) dX2_isWronglySure_22 ?_
    refine lv_iconst (v := (2 : Int32)) hx hb dX2_isWronglySure_25 (by decide) ?_
    obtain ⟨g8, hv⟩ := y_gd_e hv
    obtain ⟨r4, c3, hv⟩ := y_bi_e hv
    refine z_thI hc hB (z_runV hc hB 0 (mm_X0_setting hSK l ad o2 (2 : Int32) h c3) md_X0_setting qmX2_57 g8 (by decide) rfl rfl rfl ⟨Nat.le_of_ble_eq_true rfl, Nat.le_of_ble_eq_true rfl⟩ rfl hl.1 rfl (Nat.le_of_ble_eq_true rfl) dX2_isWronglySure_26 ⟨Nat.le_of_ble_eq_true rfl, Nat.le_of_ble_eq_true rfl⟩) (fun H locs hB => ?_)
    refine lv_i2l hx hb dX2_isWronglySure_29 rfl ?_
    refine lv_aload_n hx hb dX2_isWronglySure_30 rfl (lv_at hl 1 rfl) ?_
    obtain ⟨r11, c9, hv⟩ := y_bi_e hv
    refine z_thL hc hB (z_runV hc hB 2 (mm_X2_ofAll hSK l ad o0 h c9) md_X2_ofAll qmX2_79 g1 (by decide) rfl rfl rfl ⟨Nat.le_of_ble_eq_true rfl, Nat.le_of_ble_eq_true rfl⟩ rfl hl.1 rfl (Nat.le_of_ble_eq_true rfl) dX2_isWronglySure_31 ⟨Nat.le_of_ble_eq_true rfl, Nat.le_of_ble_eq_true rfl⟩) (fun H locs hB => ?_)
    refine lv_lmul hx hb dX2_isWronglySure_34 ?_
    refine W.lcmp hx hb dX2_isWronglySure_35 ?_
    refine lv_if_lt (tgt := 43) hx hb dX2_isWronglySure_36 (by decide) (fun c14 => ?_) (fun c14 => ?_)
    · replace hv := y_br_t hv c14
      refine lv_iconst (v := (0 : Int32)) hx hb dX2_isWronglySure_43 (by decide) ?_
      replace hv := Option.some.inj hv
      subst hv
      rw [← kb]
      exact z_zret hc hB hr rfl dX2_isWronglySure_44
    · replace hv := y_br_f hv c14
      refine lv_iconst (v := (1 : Int32)) hx hb dX2_isWronglySure_39 (by decide) ?_
      refine lv_goto (tgt := 44) hx hb dX2_isWronglySure_40 (by decide) ?_
      replace hv := Option.some.inj hv
      subst hv
      rw [← kb]
      exact z_zret hc hB hr rfl dX2_isWronglySure_44
  rw [← kt] at hv
  refine lv_iload_n hx hb dX2_isWronglySure_0 rfl (lv_at hl 1 rfl) ?_
  refine lv_if_ne (tgt := 11) hx hb dX2_isWronglySure_1 (by decide) (fun c15 => ?_) (fun c15 => ?_)
  · replace hv := y_br_f hv c15
    refine lv_aload_n hx hb dX2_isWronglySure_11 rfl (lv_at hl 0 rfl) ?_
    obtain ⟨g21, hv⟩ := y_gd_e hv
    obtain ⟨r18, c16, hv⟩ := y_bi_e hv
    refine z_thL hc hB (z_runV hc hB 2 (mm_X2_ofRoom hSK l ad o0 h c16) md_X2_ofRoom qmX2_50 g21 (by decide) rfl rfl rfl ⟨Nat.le_of_ble_eq_true rfl, Nat.le_of_ble_eq_true rfl⟩ rfl hl.1 rfl (Nat.le_of_ble_eq_true rfl) dX2_isWronglySure_12 ⟨Nat.le_of_ble_eq_true rfl, Nat.le_of_ble_eq_true rfl⟩) (fun H locs hB => ?_)
    exact b15 r18 _ _ _ hB (lv_sub hl [0] rfl) _ hv kt
  · replace hv := y_br_t hv c15
    refine lv_aload_n hx hb dX2_isWronglySure_4 rfl (lv_at hl 0 rfl) ?_
    obtain ⟨g27, hv⟩ := y_gd_e hv
    obtain ⟨r24, c22, hv⟩ := y_bi_e hv
    refine z_thL hc hB (z_runV hc hB 2 (mm_X2_ofDreams hSK l ad o0 h c22) md_X2_ofDreams qmX2_54 g27 (by decide) rfl rfl rfl ⟨Nat.le_of_ble_eq_true rfl, Nat.le_of_ble_eq_true rfl⟩ rfl hl.1 rfl (Nat.le_of_ble_eq_true rfl) dX2_isWronglySure_5 ⟨Nat.le_of_ble_eq_true rfl, Nat.le_of_ble_eq_true rfl⟩) (fun H locs hB => ?_)
    refine lv_goto (tgt := 15) hx hb dX2_isWronglySure_8 (by decide) ?_
    exact b15 r24 _ _ _ hB (lv_sub hl [0] rfl) _ hv kt
theorem qmX2_82 : Cond.methodLink RX2 82 Lib.MathLoose.max_long.x ∈ z_ws := List.mem_filter.mpr ⟨List.mem_append_right _ (List.mem_of_getElem? (i := 836) (by decide +kernel)), rfl⟩
theorem dX2_knownBehind_0 : decode cX2_knownBehind 0 = .ok (.lconst 0, 1) := by decide +kernel
theorem dX2_knownBehind_1 : decode cX2_knownBehind 1 = .ok (.lstore_n 2, 1) := by decide +kernel
theorem dX2_knownBehind_2 : decode cX2_knownBehind 2 = .ok (.iconst 0, 1) := by decide +kernel
theorem dX2_knownBehind_3 : decode cX2_knownBehind 3 = .ok (.istore 4, 2) := by decide +kernel
theorem dX2_knownBehind_5 : decode cX2_knownBehind 5 = .ok (.iload 4, 2) := by decide +kernel
theorem dX2_knownBehind_7 : decode cX2_knownBehind 7 = .ok (.iconst 1, 1) := by decide +kernel
theorem dX2_knownBehind_8 : decode cX2_knownBehind 8 = .ok (.if_icmp .gt 76, 3) := by decide +kernel
theorem dX2_knownBehind_11 : decode cX2_knownBehind 11 = .ok (.aload_n 0, 1) := by decide +kernel
theorem dX2_knownBehind_12 : decode cX2_knownBehind 12 = .ok (.invokevirtual 50, 3) := by decide +kernel
theorem dX2_knownBehind_15 : decode cX2_knownBehind 15 = .ok (.aload_n 0, 1) := by decide +kernel
theorem dX2_knownBehind_16 : decode cX2_knownBehind 16 = .ok (.iload_n 1, 1) := by decide +kernel
theorem dX2_knownBehind_17 : decode cX2_knownBehind 17 = .ok (.iload 4, 2) := by decide +kernel
theorem dX2_knownBehind_19 : decode cX2_knownBehind 19 = .ok (.iconst 0, 1) := by decide +kernel
theorem dX2_knownBehind_20 : decode cX2_knownBehind 20 = .ok (.invokevirtual 73, 3) := by decide +kernel
theorem dX2_knownBehind_23 : decode cX2_knownBehind 23 = .ok (.i2l, 1) := by decide +kernel
theorem dX2_knownBehind_24 : decode cX2_knownBehind 24 = .ok (.lmul, 1) := by decide +kernel
theorem dX2_knownBehind_25 : decode cX2_knownBehind 25 = .ok (.lstore 5, 2) := by decide +kernel
theorem dX2_knownBehind_27 : decode cX2_knownBehind 27 = .ok (.lconst 0, 1) := by decide +kernel
theorem dX2_knownBehind_28 : decode cX2_knownBehind 28 = .ok (.lstore 7, 2) := by decide +kernel
theorem dX2_knownBehind_30 : decode cX2_knownBehind 30 = .ok (.iconst 1, 1) := by decide +kernel
theorem dX2_knownBehind_31 : decode cX2_knownBehind 31 = .ok (.istore 9, 2) := by decide +kernel
theorem dX2_knownBehind_33 : decode cX2_knownBehind 33 = .ok (.iload 9, 2) := by decide +kernel
theorem dX2_knownBehind_35 : decode cX2_knownBehind 35 = .ok (.bipush 7, 2) := by decide +kernel
theorem dX2_knownBehind_37 : decode cX2_knownBehind 37 = .ok (.if_icmp .ge 31, 3) := by decide +kernel
theorem dX2_knownBehind_40 : decode cX2_knownBehind 40 = .ok (.lload 7, 2) := by decide +kernel
theorem dX2_knownBehind_42 : decode cX2_knownBehind 42 = .ok (.aload_n 0, 1) := by decide +kernel
theorem dX2_knownBehind_43 : decode cX2_knownBehind 43 = .ok (.iload 9, 2) := by decide +kernel
theorem dX2_knownBehind_45 : decode cX2_knownBehind 45 = .ok (.invokevirtual 46, 3) := by decide +kernel
theorem dX2_knownBehind_48 : decode cX2_knownBehind 48 = .ok (.aload_n 0, 1) := by decide +kernel
theorem dX2_knownBehind_49 : decode cX2_knownBehind 49 = .ok (.iload_n 1, 1) := by decide +kernel
theorem dX2_knownBehind_50 : decode cX2_knownBehind 50 = .ok (.iload 4, 2) := by decide +kernel
theorem dX2_knownBehind_52 : decode cX2_knownBehind 52 = .ok (.iload 9, 2) := by decide +kernel
theorem dX2_knownBehind_54 : decode cX2_knownBehind 54 = .ok (.invokevirtual 73, 3) := by decide +kernel
theorem dX2_knownBehind_57 : decode cX2_knownBehind 57 = .ok (.i2l, 1) := by decide +kernel
theorem dX2_knownBehind_58 : decode cX2_knownBehind 58 = .ok (.lmul, 1) := by decide +kernel
theorem dX2_knownBehind_59 : decode cX2_knownBehind 59 = .ok (.ladd, 1) := by decide +kernel
theorem dX2_knownBehind_60 : decode cX2_knownBehind 60 = .ok (.lstore 7, 2) := by decide +kernel
theorem dX2_knownBehind_62 : decode cX2_knownBehind 62 = .ok (.iinc 9 1, 3) := by decide +kernel
theorem dX2_knownBehind_65 : decode cX2_knownBehind 65 = .ok (.goto (-32), 3) := by decide +kernel
theorem dX2_knownBehind_68 : decode cX2_knownBehind 68 = .ok (.lload_n 2, 1) := by decide +kernel
theorem dX2_knownBehind_69 : decode cX2_knownBehind 69 = .ok (.lload 5, 2) := by decide +kernel
theorem dX2_knownBehind_71 : decode cX2_knownBehind 71 = .ok (.lload 7, 2) := by decide +kernel
theorem dX2_knownBehind_73 : decode cX2_knownBehind 73 = .ok (.invokestatic 82, 3) := by decide +kernel
theorem dX2_knownBehind_76 : decode cX2_knownBehind 76 = .ok (.ladd, 1) := by decide +kernel
theorem dX2_knownBehind_77 : decode cX2_knownBehind 77 = .ok (.lstore_n 2, 1) := by decide +kernel
theorem dX2_knownBehind_78 : decode cX2_knownBehind 78 = .ok (.iinc 4 1, 3) := by decide +kernel
theorem dX2_knownBehind_81 : decode cX2_knownBehind 81 = .ok (.goto (-76), 3) := by decide +kernel
theorem dX2_knownBehind_84 : decode cX2_knownBehind 84 = .ok (.lload_n 2, 1) := by decide +kernel
theorem dX2_knownBehind_85 : decode cX2_knownBehind 85 = .ok (.lreturn, 1) := by decide +kernel
abbrev rm_X2_knownBehind : Room := { frames := 4, cells := 0, slots := 0, locals := 92 }
noncomputable def fX2_knownBehind_b33_i (o0 : Nat) (x1 : Int32) (l2 : Int64) (x4 : Int32) (l5 : Int64) (h : z_T) (l7 : Int64) (x9 : Int32) : Option ((Int64 × Int32) ⊕ ((Int64 × Int32) ⊕ (Int64))) :=
  y_br ((7 : Int32) ≤ x9)
    (y_mp <|
    y_nm ((l2 + (if l7 < l5 then l5 else l7))) fun v3 =>
    y_nm (x4 + 1) fun v4 =>
    some (.inl (v3, v4)))
    (y_gd (z_ok h o0 2) <|
    y_bi (fX2_ofPlace o0 x9 h) fun r7 =>
    y_bi (fX2_chanceOf o0 x1 x4 x9 h) fun r12 =>
    y_nm ((l7 + (r7 * (r12).toInt64))) fun v16 =>
    y_nm (x9 + 1) fun v17 =>
    some (.inl (v16, v17)))
noncomputable def fX2_knownBehind_b33 (o0 : Nat) (x1 : Int32) (l2 : Int64) (x4 : Int32) (l5 : Int64) (l7 : Int64) (x9 : Int32) (h : z_T) : Option ((Int64 × Int32) ⊕ (Int64)) := y_lp (fun q : Int64 × Int32 => fX2_knownBehind_b33_i o0 x1 l2 x4 l5 h q.1 q.2) (l7, x9)
noncomputable def fX2_knownBehind_b5_i (o0 : Nat) (x1 : Int32) (h : z_T) (l2 : Int64) (x4 : Int32) : Option ((Int64 × Int32) ⊕ (Int64)) :=
  y_br ((1 : Int32) < x4)
    (y_mp <|
    some l2)
    (y_gd (z_ok h o0 2) <|
    y_bi (fX2_ofRoom o0 h) fun r22 =>
    y_bi (fX2_chanceOf o0 x1 x4 (0 : Int32) h) fun r27 =>
    y_nm ((r22 * (r27).toInt64)) fun v31 =>
    fX2_knownBehind_b33 o0 x1 l2 x4 v31 (0 : Int64) (1 : Int32) h)
noncomputable def fX2_knownBehind_b5 (o0 : Nat) (x1 : Int32) (l2 : Int64) (x4 : Int32) (h : z_T) : Option (Int64) := y_lp (fun q : Int64 × Int32 => fX2_knownBehind_b5_i o0 x1 h q.1 q.2) (l2, x4)
noncomputable def fX2_knownBehind (o0 : Nat) (x1 : Int32) (h : z_T) : Option (Int64) :=
  fX2_knownBehind_b5 o0 x1 (0 : Int64) (0 : Int32) h
set_option maxHeartbeats 4000000 in
set_option maxRecDepth 100000 in
theorem mm_X2_knownBehind {G : z_Gt} (hSK : z_SK (z_S G)) (l : Launch) (ad : Nat → Nat) (o0 : Nat) (x1 : Int32) (h : z_T) {r0 : Int64} (hv : fX2_knownBehind o0 x1 h = some r0) : z_Ml G (z_S G) l yX2_knownBehind cX2_knownBehind 10 (.long) rm_X2_knownBehind 0 0 [.ref (ad o0), .int x1] ad h h r0 := by
  refine z_ofW hSK (by decide) (Nat.le_of_ble_eq_true rfl) ?_
  intro p e s m args below meth c ls hc hr hnm hB hl
  have hx := hc.1.1
  have hb := hc.1.2.1
  have hown := hc.1.2.2.2.1
  have hts := hc.1.2.2.2.2
  replace hc : z_C G (z_S G) ad (z_n h) p m c cX2_knownBehind 10 s args RX2 meth := hc
  replace hown : s.vm.findClass RX2 = some m.cls := hown
  replace hl : lv_has ls 10 [(0, .ref (ad o0)), (1, .int x1)] := hl
  show W p l e rm_X2_knownBehind s m args below meth c s.heap [] 0 0 (MQ below (z_Ql G ad h (z_n h) s.heap.size r0) args s 0 0 (z_A ad (z_n h) s.heap.size)) (F0 m 0 ls [])
  obtain ⟨rs, kt⟩ : ∃ rs : Int64, rs = r0 := ⟨_, rfl⟩
  generalize hn0 : z_n h = n0 at hc hB ⊢
  have L5 : ∀ (nn5 : Nat) (l2 : Int64) (x4 : Int32) (H : Heap) (locs : List Loc) (ls : Array Slot), z_B G ad n0 s h H locs → lv_has ls 10 [(0, .ref (ad o0)), (1, .int x1), (2, .long l2), (4, .int x4)] → ∀ vv5, y_lpN (fun q : Int64 × Int32 => fX2_knownBehind_b5_i o0 x1 h q.1 q.2) nn5 (l2, x4) = some vv5 → vv5 = r0 → W p l e rm_X2_knownBehind s m args below meth c H locs 0 0 (MQ below (z_Ql G ad h n0 s.heap.size r0) args s 0 0 (z_A ad n0 s.heap.size)) (F0 m 5 ls []) := by
    intro nn5
    induction nn5 with
    | zero => intro l2 x4 H locs ls hB hl vv5 hv kv5; exact absurd hv (fun q => y_lpN_0 q)
    | succ nn5 ih5 =>
      intro l2 x4 H locs ls hB hl vv5 hv kv5
      obtain ⟨w, hq, kw5⟩ := y_lpN_e hv
      clear hv
      have hv : fX2_knownBehind_b5_i o0 x1 h l2 x4 = some w := hq
      clear hq
      have L33 : ∀ (l2 : Int64) (x4 : Int32) (l5 : Int64) (nn33 : Nat) (l7 : Int64) (x9 : Int32) (H : Heap) (locs : List Loc) (ls : Array Slot), z_B G ad n0 s h H locs → lv_has ls 10 [(0, .ref (ad o0)), (1, .int x1), (2, .long l2), (4, .int x4), (5, .long l5), (7, .long l7), (9, .int x9)] → ∀ vv33, y_lpN (fun q : Int64 × Int32 => fX2_knownBehind_b33_i o0 x1 l2 x4 l5 h q.1 q.2) nn33 (l7, x9) = some vv33 → y_lq (fun q : Int64 × Int32 => fX2_knownBehind_b5_i o0 x1 h q.1 q.2) nn5 vv5 vv33 → W p l e rm_X2_knownBehind s m args below meth c H locs 0 0 (MQ below (z_Ql G ad h n0 s.heap.size r0) args s 0 0 (z_A ad n0 s.heap.size)) (F0 m 33 ls []) := by
        intro l2 x4 l5 nn33
        induction nn33 with
        | zero => intro l7 x9 H locs ls hB hl vv33 hv kv33; exact absurd hv (fun q => y_lpN_0 q)
        | succ nn33 ih33 =>
          intro l7 x9 H locs ls hB hl vv33 hv kv33
          obtain ⟨w, hq, kw33⟩ := y_lpN_e hv
          clear hv
          have hv : fX2_knownBehind_b33_i o0 x1 l2 x4 l5 h l7 x9 = some w := hq
          clear hq
          refine lv_iload hx hb dX2_knownBehind_33 (lv_at hl 6 rfl) ?_
          refine lv_bipush (v := (7 : Int32)) hx hb dX2_knownBehind_35 (by decide) ?_
          refine lv_icmp_ge (tgt := 68) hx hb dX2_knownBehind_37 (by decide) (fun c1 => ?_) (fun c1 => ?_)
          · replace hv := y_br_t hv c1
            obtain ⟨t2, hq, ew⟩ := y_mp_e hv
            clear hv; subst ew
            replace kw33 : t2 = _ := kw33
            subst kw33
            have hv := hq
            clear hq
            refine lv_lload_n hx hb dX2_knownBehind_68 rfl (lv_at hl 2 rfl) ?_
            refine lv_lload hx hb dX2_knownBehind_69 (lv_at hl 4 rfl) ?_
            refine lv_lload hx hb dX2_knownBehind_71 (lv_at hl 5 rfl) ?_
            refine va_mmax_long hx hb (hc.1.2.2.1.trans hl.1.symm) hown (hts _ qmX2_82) (hts _ q_maxl_st) (hts _ q_mathIni) (hts _ q_maxl_cd) (Nat.le_of_ble_eq_true rfl) (Nat.le_of_ble_eq_true rfl) (Nat.le_of_ble_eq_true rfl) (Nat.le_of_ble_eq_true rfl) dX2_knownBehind_73 ?_
            refine lv_ladd hx hb dX2_knownBehind_76 ?_
            obtain ⟨v3, ev3, hv⟩ := y_nm_e hv
            rw [← ev3]
            refine lv_lstore_n (lv' := [(2, .long v3), (0, .ref (ad o0)), (1, .int x1), (4, .int x4), (5, .long l5), (7, .long l7), (9, .int x9)]) hx hb dX2_knownBehind_77 rfl hl (by decide) rfl (fun ls hl => ?_)
            obtain ⟨v4, ev4, hv⟩ := y_nm_e hv
            refine lv_iinc (v := v4) (lv' := [(4, .int v4), (2, .long v3), (0, .ref (ad o0)), (1, .int x1), (5, .long l5), (7, .long l7), (9, .int x9)]) hx hb dX2_knownBehind_78 hl (k := 3) rfl (by rw [ev4]; rfl) (by decide) rfl (fun ls hl => ?_)
            refine lv_goto (tgt := 5) hx hb dX2_knownBehind_81 (by decide) ?_
            replace hv := Option.some.inj hv
            subst hv
            exact ih5 v3 v4 _ _ _ hB (lv_sub hl [2, 3, 1, 0] rfl) _ kv33 kv5
          · replace hv := y_br_f hv c1
            refine lv_lload hx hb dX2_knownBehind_40 (lv_at hl 5 rfl) ?_
            refine lv_aload_n hx hb dX2_knownBehind_42 rfl (lv_at hl 0 rfl) ?_
            refine lv_iload hx hb dX2_knownBehind_43 (lv_at hl 6 rfl) ?_
            obtain ⟨g10, hv⟩ := y_gd_e hv
            obtain ⟨r7, c5, hv⟩ := y_bi_e hv
            refine z_thL hc hB (z_runV hc hB 2 (mm_X2_ofPlace hSK l ad o0 x9 h c5) md_X2_ofPlace qmX2_46 g10 (by decide) rfl rfl rfl ⟨Nat.le_of_ble_eq_true rfl, Nat.le_of_ble_eq_true rfl⟩ rfl hl.1 rfl (Nat.le_of_ble_eq_true rfl) dX2_knownBehind_45 ⟨Nat.le_of_ble_eq_true rfl, Nat.le_of_ble_eq_true rfl⟩) (fun H locs hB => ?_)
            refine lv_aload_n hx hb dX2_knownBehind_48 rfl (lv_at hl 0 rfl) ?_
            refine lv_iload_n hx hb dX2_knownBehind_49 rfl (lv_at hl 1 rfl) ?_
            refine lv_iload hx hb dX2_knownBehind_50 (lv_at hl 3 rfl) ?_
            refine lv_iload hx hb dX2_knownBehind_52 (lv_at hl 6 rfl) ?_
            obtain ⟨r12, c11, hv⟩ := y_bi_e hv
            refine z_thI hc hB (z_runV hc hB 2 (mm_X2_chanceOf hSK l ad o0 x1 x4 x9 h c11) md_X2_chanceOf qmX2_73 g10 (by decide) rfl rfl rfl ⟨Nat.le_of_ble_eq_true rfl, Nat.le_of_ble_eq_true rfl⟩ rfl hl.1 rfl (Nat.le_of_ble_eq_true rfl) dX2_knownBehind_54 ⟨Nat.le_of_ble_eq_true rfl, Nat.le_of_ble_eq_true rfl⟩) (fun H locs hB => ?_)
            refine lv_i2l hx hb dX2_knownBehind_57 rfl ?_
            refine lv_lmul hx hb dX2_knownBehind_58 ?_
            refine lv_ladd hx hb dX2_knownBehind_59 ?_
            obtain ⟨v16, ev16, hv⟩ := y_nm_e hv
            rw [← ev16]
            refine lv_lstore (lv' := [(7, .long v16), (0, .ref (ad o0)), (1, .int x1), (2, .long l2), (4, .int x4), (5, .long l5), (9, .int x9)]) hx hb dX2_knownBehind_60 hl (by decide) rfl (fun ls hl => ?_)
            obtain ⟨v17, ev17, hv⟩ := y_nm_e hv
            refine lv_iinc (v := v17) (lv' := [(9, .int v17), (7, .long v16), (0, .ref (ad o0)), (1, .int x1), (2, .long l2), (4, .int x4), (5, .long l5)]) hx hb dX2_knownBehind_62 hl (k := 6) rfl (by rw [ev17]; rfl) (by decide) rfl (fun ls hl => ?_)
            refine lv_goto (tgt := 33) hx hb dX2_knownBehind_65 (by decide) ?_
            replace hv := Option.some.inj hv
            subst hv
            exact ih33 v16 v17 _ _ _ hB (lv_sub hl [2, 3, 4, 5, 6, 1, 0] rfl) _ kw33 kv33
      refine lv_iload hx hb dX2_knownBehind_5 (lv_at hl 3 rfl) ?_
      refine lv_iconst (v := (1 : Int32)) hx hb dX2_knownBehind_7 (by decide) ?_
      refine lv_icmp_gt (tgt := 84) hx hb dX2_knownBehind_8 (by decide) (fun c18 => ?_) (fun c18 => ?_)
      · replace hv := y_br_t hv c18
        obtain ⟨t19, hq, ew⟩ := y_mp_e hv
        clear hv; subst ew
        replace kw5 : t19 = _ := kw5
        subst kw5
        have hv := hq
        clear hq
        refine lv_lload_n hx hb dX2_knownBehind_84 rfl (lv_at hl 2 rfl) ?_
        replace hv := Option.some.inj hv
        subst hv
        rw [← kv5]
        exact z_lret hc hB hr dX2_knownBehind_85
      · replace hv := y_br_f hv c18
        refine lv_aload_n hx hb dX2_knownBehind_11 rfl (lv_at hl 0 rfl) ?_
        obtain ⟨g25, hv⟩ := y_gd_e hv
        obtain ⟨r22, c20, hv⟩ := y_bi_e hv
        refine z_thL hc hB (z_runV hc hB 2 (mm_X2_ofRoom hSK l ad o0 h c20) md_X2_ofRoom qmX2_50 g25 (by decide) rfl rfl rfl ⟨Nat.le_of_ble_eq_true rfl, Nat.le_of_ble_eq_true rfl⟩ rfl hl.1 rfl (Nat.le_of_ble_eq_true rfl) dX2_knownBehind_12 ⟨Nat.le_of_ble_eq_true rfl, Nat.le_of_ble_eq_true rfl⟩) (fun H locs hB => ?_)
        refine lv_aload_n hx hb dX2_knownBehind_15 rfl (lv_at hl 0 rfl) ?_
        refine lv_iload_n hx hb dX2_knownBehind_16 rfl (lv_at hl 1 rfl) ?_
        refine lv_iload hx hb dX2_knownBehind_17 (lv_at hl 3 rfl) ?_
        refine lv_iconst (v := (0 : Int32)) hx hb dX2_knownBehind_19 (by decide) ?_
        obtain ⟨r27, c26, hv⟩ := y_bi_e hv
        refine z_thI hc hB (z_runV hc hB 2 (mm_X2_chanceOf hSK l ad o0 x1 x4 (0 : Int32) h c26) md_X2_chanceOf qmX2_73 g25 (by decide) rfl rfl rfl ⟨Nat.le_of_ble_eq_true rfl, Nat.le_of_ble_eq_true rfl⟩ rfl hl.1 rfl (Nat.le_of_ble_eq_true rfl) dX2_knownBehind_20 ⟨Nat.le_of_ble_eq_true rfl, Nat.le_of_ble_eq_true rfl⟩) (fun H locs hB => ?_)
        refine lv_i2l hx hb dX2_knownBehind_23 rfl ?_
        refine lv_lmul hx hb dX2_knownBehind_24 ?_
        obtain ⟨v31, ev31, hv⟩ := y_nm_e hv
        rw [← ev31]
        refine lv_lstore (lv' := [(5, .long v31), (0, .ref (ad o0)), (1, .int x1), (2, .long l2), (4, .int x4)]) hx hb dX2_knownBehind_25 hl (by decide) rfl (fun ls hl => ?_)
        refine lv_lconst (v := (0 : Int64)) hx hb dX2_knownBehind_27 (by decide) ?_
        refine lv_lstore (lv' := [(7, .long (0 : Int64)), (5, .long v31), (0, .ref (ad o0)), (1, .int x1), (2, .long l2), (4, .int x4)]) hx hb dX2_knownBehind_28 hl (by decide) rfl (fun ls hl => ?_)
        refine lv_iconst (v := (1 : Int32)) hx hb dX2_knownBehind_30 (by decide) ?_
        refine lv_istore (lv' := [(9, .int (1 : Int32)), (7, .long (0 : Int64)), (5, .long v31), (0, .ref (ad o0)), (1, .int x1), (2, .long l2), (4, .int x4)]) hx hb dX2_knownBehind_31 hl (by decide) rfl (fun ls hl => ?_)
        obtain ⟨n, hv⟩ := y_lp_e hv
        exact L33 l2 x4 v31 n (0 : Int64) (1 : Int32) _ _ _ hB (lv_sub hl [3, 4, 5, 6, 2, 1, 0] rfl) _ hv kw5
  rw [← kt] at hv
  refine lv_lconst (v := (0 : Int64)) hx hb dX2_knownBehind_0 (by decide) ?_
  refine lv_lstore_n (lv' := [(2, .long (0 : Int64)), (0, .ref (ad o0)), (1, .int x1)]) hx hb dX2_knownBehind_1 rfl hl (by decide) rfl (fun ls hl => ?_)
  refine lv_iconst (v := (0 : Int32)) hx hb dX2_knownBehind_2 (by decide) ?_
  refine lv_istore (lv' := [(4, .int (0 : Int32)), (2, .long (0 : Int64)), (0, .ref (ad o0)), (1, .int x1)]) hx hb dX2_knownBehind_3 hl (by decide) rfl (fun ls hl => ?_)
  obtain ⟨n, hv⟩ := y_lp_e hv
  exact L5 n (0 : Int64) (0 : Int32) _ _ _ hB (lv_sub hl [2, 3, 1, 0] rfl) _ hv kt
theorem qfX2_88 : Cond.fieldLink RX2 88 "DreamTests$Night" "x" "I" ∈ z_ws := List.mem_filter.mpr ⟨List.mem_append_right _ (List.mem_of_getElem? (i := 172) (by decide +kernel)), rfl⟩
theorem qkX2_108 : Cond.constant RX2 108 (1103515245 : Int32) ∈ z_ws := List.mem_filter.mpr ⟨List.mem_append_right _ (List.mem_of_getElem? (i := 940) (by decide +kernel)), rfl⟩
theorem dX2_drawBelow_0 : decode cX2_drawBelow 0 = .ok (.aload_n 0, 1) := by decide +kernel
theorem dX2_drawBelow_1 : decode cX2_drawBelow 1 = .ok (.aload_n 0, 1) := by decide +kernel
theorem dX2_drawBelow_2 : decode cX2_drawBelow 2 = .ok (.getfield 88, 3) := by decide +kernel
theorem dX2_drawBelow_5 : decode cX2_drawBelow 5 = .ok (.ldc 108, 2) := by decide +kernel
theorem dX2_drawBelow_7 : decode cX2_drawBelow 7 = .ok (.imul, 1) := by decide +kernel
theorem dX2_drawBelow_8 : decode cX2_drawBelow 8 = .ok (.sipush 12345, 3) := by decide +kernel
theorem dX2_drawBelow_11 : decode cX2_drawBelow 11 = .ok (.iadd, 1) := by decide +kernel
theorem dX2_drawBelow_12 : decode cX2_drawBelow 12 = .ok (.putfield 88, 3) := by decide +kernel
theorem dX2_drawBelow_15 : decode cX2_drawBelow 15 = .ok (.iload_n 1, 1) := by decide +kernel
theorem dX2_drawBelow_16 : decode cX2_drawBelow 16 = .ok (.ifCond .le 15, 3) := by decide +kernel
theorem dX2_drawBelow_19 : decode cX2_drawBelow 19 = .ok (.aload_n 0, 1) := by decide +kernel
theorem dX2_drawBelow_20 : decode cX2_drawBelow 20 = .ok (.getfield 88, 3) := by decide +kernel
theorem dX2_drawBelow_23 : decode cX2_drawBelow 23 = .ok (.bipush 8, 2) := by decide +kernel
theorem dX2_drawBelow_25 : decode cX2_drawBelow 25 = .ok (.iushr, 1) := by decide +kernel
theorem dX2_drawBelow_26 : decode cX2_drawBelow 26 = .ok (.iload_n 1, 1) := by decide +kernel
theorem dX2_drawBelow_27 : decode cX2_drawBelow 27 = .ok (.irem, 1) := by decide +kernel
theorem dX2_drawBelow_28 : decode cX2_drawBelow 28 = .ok (.goto 4, 3) := by decide +kernel
theorem dX2_drawBelow_31 : decode cX2_drawBelow 31 = .ok (.iconst 0, 1) := by decide +kernel
theorem dX2_drawBelow_32 : decode cX2_drawBelow 32 = .ok (.ireturn, 1) := by decide +kernel
abbrev rm_X2_drawBelow : Room := { frames := 0, cells := 0, slots := 0, locals := 0 }
noncomputable def fX2_drawBelow (o0 : Nat) (x1 : Int32) (h : z_T) : Option (Int32 × z_T) :=
  y_gd (z_ok h o0 2) <|
  y_nm (z_sI h o0 5 (((z_I h o0 5) * (1103515245 : Int32)) + (12345 : Int32))) fun h2 =>
  y_br (x1 ≤ 0)
    (some ((0 : Int32), h2))
    (y_gd (!decide (x1 = 0)) <|
    some (((((z_I h2 o0 5)).toUInt32 >>> (((8 : Int32)).toUInt32 &&& Int32.toUInt32 31)).toInt32 - (((z_I h2 o0 5)).toUInt32 >>> (((8 : Int32)).toUInt32 &&& Int32.toUInt32 31)).toInt32 / x1 * x1), h2))
set_option maxHeartbeats 4000000 in
set_option maxRecDepth 100000 in
theorem mm_X2_drawBelow {G : z_Gt} (hSK : z_SK (z_S G)) (l : Launch) (ad : Nat → Nat) (o0 : Nat) (x1 : Int32) (h : z_T) {r0 : Int32} {h9 : z_T} (hv : fX2_drawBelow o0 x1 h = some (r0, h9)) : z_Mi G (z_S G) l yX2_drawBelow cX2_drawBelow 2 (.int) rm_X2_drawBelow 0 0 [.ref (ad o0), .int x1] ad h h9 r0 := by
  refine z_ofW hSK (by decide) (Nat.le_of_ble_eq_true rfl) ?_
  intro p e s m args below meth c ls hc hr hnm hB hl
  have hx := hc.1.1
  have hb := hc.1.2.1
  have hown := hc.1.2.2.2.1
  have hts := hc.1.2.2.2.2
  replace hc : z_C G (z_S G) ad (z_n h) p m c cX2_drawBelow 2 s args RX2 meth := hc
  replace hown : s.vm.findClass RX2 = some m.cls := hown
  replace hl : lv_has ls 2 [(0, .ref (ad o0)), (1, .int x1)] := hl
  show W p l e rm_X2_drawBelow s m args below meth c s.heap [] 0 0 (MQ below (z_Qi G ad h9 (z_n h) s.heap.size r0) args s 0 0 (z_A ad (z_n h) s.heap.size)) (F0 m 0 ls [])
  obtain ⟨rs, kt⟩ : ∃ rs : Int32 × z_T, rs = (r0, h9) := ⟨_, rfl⟩
  generalize hn0 : z_n h = n0 at hc hB ⊢
  rw [← kt] at hv
  refine lv_aload_n hx hb dX2_drawBelow_0 rfl (lv_at hl 0 rfl) ?_
  refine lv_aload_n hx hb dX2_drawBelow_1 rfl (lv_at hl 0 rfl) ?_
  obtain ⟨g1, hv⟩ := y_gd_e hv
  refine z_getI hc hB 2 5 g1 (by decide) (by decide) rfl (z_l1 hc qfX2_88) dX2_drawBelow_2 ?_
  refine lv_ldc (v := (1103515245 : Int32)) hx hb hown (hts _ qkX2_108) dX2_drawBelow_5 ?_
  refine lv_imul hx hb dX2_drawBelow_7 ?_
  refine lv_sipush (v := (12345 : Int32)) hx hb dX2_drawBelow_8 (by decide) ?_
  refine lv_iadd hx hb dX2_drawBelow_11 ?_
  obtain ⟨h2, eh2, hv⟩ := y_nm_e hv
  refine y_putI hc hB 2 5 eh2 g1 (z_l1 hc qfX2_88) dX2_drawBelow_12 (by decide) (by decide) rfl rfl rfl rfl (fun H locs hB => ?_)
  refine lv_iload_n hx hb dX2_drawBelow_15 rfl (lv_at hl 1 rfl) ?_
  refine lv_if_le (tgt := 31) hx hb dX2_drawBelow_16 (by decide) (fun c3 => ?_) (fun c3 => ?_)
  · replace hv := y_br_t hv c3
    refine lv_iconst (v := (0 : Int32)) hx hb dX2_drawBelow_31 (by decide) ?_
    replace hv := Option.some.inj hv
    subst hv
    obtain ⟨e1, e2⟩ := y_pr kt
    rw [← e1, ← e2]
    exact z_iret hc hB hr dX2_drawBelow_32
  · replace hv := y_br_f hv c3
    refine lv_aload_n hx hb dX2_drawBelow_19 rfl (lv_at hl 0 rfl) ?_
    refine z_getI hc hB 2 5 (by rw [eh2]; exact g1) (by decide) (by decide) rfl (z_l1 hc qfX2_88) dX2_drawBelow_20 ?_
    refine lv_bipush (v := (8 : Int32)) hx hb dX2_drawBelow_23 (by decide) ?_
    refine lv_iushr hx hb dX2_drawBelow_25 rfl ?_
    refine lv_iload_n hx hb dX2_drawBelow_26 rfl (lv_at hl 1 rfl) ?_
    obtain ⟨z4, hv⟩ := y_gd_e hv
    refine lv_irem hx hb dX2_drawBelow_27 (y_ne z4) ?_
    refine lv_goto (tgt := 32) hx hb dX2_drawBelow_28 (by decide) ?_
    replace hv := Option.some.inj hv
    subst hv
    obtain ⟨e1, e2⟩ := y_pr kt
    rw [← e1, ← e2]
    exact z_iret hc hB hr dX2_drawBelow_32
theorem qmX2_105 : Cond.methodLink RX2 105 yX0_allWeights ∈ z_ws := List.mem_filter.mpr ⟨List.mem_append_right _ (List.mem_of_getElem? (i := 932) (by decide +kernel)), rfl⟩
theorem qc_X0_allWeights : Cond.code yX0_allWeights cX0_allWeights 3 (some .int) ∈ z_ws := List.mem_filter.mpr ⟨List.mem_append_right _ (List.mem_of_getElem? (i := 935) (by decide +kernel)), rfl⟩
theorem qi_X0_allWeights : Cond.instanceMethod yX0_allWeights ∈ z_ws := List.mem_filter.mpr ⟨List.mem_append_right _ (List.mem_of_getElem? (i := 933) (by decide +kernel)), rfl⟩
theorem qs_X0_allWeights : Cond.selects RX0 yX0_allWeights yX0_allWeights ∈ z_ws := List.mem_filter.mpr ⟨List.mem_append_right _ (List.mem_of_getElem? (i := 934) (by decide +kernel)), rfl⟩
theorem md_X0_allWeights : z_mdV yX0_allWeights cX0_allWeights 3 (some .int) 0 := ⟨⟨qn_RX0, qc_X0_allWeights, ⟨by decide +kernel, by decide +kernel, by decide +kernel⟩⟩, qi_X0_allWeights, qs_X0_allWeights⟩
theorem qmX2_98 : Cond.methodLink RX2 98 yX2_drawBelow ∈ z_ws := List.mem_filter.mpr ⟨List.mem_append_right _ (List.mem_of_getElem? (i := 936) (by decide +kernel)), rfl⟩
theorem qc_X2_drawBelow : Cond.code yX2_drawBelow cX2_drawBelow 2 (some .int) ∈ z_ws := List.mem_filter.mpr ⟨List.mem_append_right _ (List.mem_of_getElem? (i := 939) (by decide +kernel)), rfl⟩
theorem qi_X2_drawBelow : Cond.instanceMethod yX2_drawBelow ∈ z_ws := List.mem_filter.mpr ⟨List.mem_append_right _ (List.mem_of_getElem? (i := 938) (by decide +kernel)), rfl⟩
theorem qs_X2_drawBelow : Cond.selects RX2 yX2_drawBelow yX2_drawBelow ∈ z_ws := List.mem_filter.mpr ⟨List.mem_append_left _ (List.mem_of_getElem? (i := 22) (by decide +kernel)), rfl⟩
theorem md_X2_drawBelow : z_mdV yX2_drawBelow cX2_drawBelow 2 (some .int) 1 := ⟨⟨qn_RX2, qc_X2_drawBelow, ⟨by decide +kernel, by decide +kernel, by decide +kernel⟩⟩, qi_X2_drawBelow, qs_X2_drawBelow⟩
theorem dX2_drawPlace_0 : decode cX2_drawPlace 0 = .ok (.aload_n 0, 1) := by decide +kernel
theorem dX2_drawPlace_1 : decode cX2_drawPlace 1 = .ok (.aload_n 0, 1) := by decide +kernel
theorem dX2_drawPlace_2 : decode cX2_drawPlace 2 = .ok (.getfield 26, 3) := by decide +kernel
theorem dX2_drawPlace_5 : decode cX2_drawPlace 5 = .ok (.invokevirtual 105, 3) := by decide +kernel
theorem dX2_drawPlace_8 : decode cX2_drawPlace 8 = .ok (.invokevirtual 98, 3) := by decide +kernel
theorem dX2_drawPlace_11 : decode cX2_drawPlace 11 = .ok (.istore_n 1, 1) := by decide +kernel
theorem dX2_drawPlace_12 : decode cX2_drawPlace 12 = .ok (.iconst 0, 1) := by decide +kernel
theorem dX2_drawPlace_13 : decode cX2_drawPlace 13 = .ok (.istore_n 2, 1) := by decide +kernel
theorem dX2_drawPlace_14 : decode cX2_drawPlace 14 = .ok (.iload_n 2, 1) := by decide +kernel
theorem dX2_drawPlace_15 : decode cX2_drawPlace 15 = .ok (.bipush 7, 2) := by decide +kernel
theorem dX2_drawPlace_17 : decode cX2_drawPlace 17 = .ok (.if_icmp .ge 34, 3) := by decide +kernel
theorem dX2_drawPlace_20 : decode cX2_drawPlace 20 = .ok (.iload_n 1, 1) := by decide +kernel
theorem dX2_drawPlace_21 : decode cX2_drawPlace 21 = .ok (.aload_n 0, 1) := by decide +kernel
theorem dX2_drawPlace_22 : decode cX2_drawPlace 22 = .ok (.getfield 26, 3) := by decide +kernel
theorem dX2_drawPlace_25 : decode cX2_drawPlace 25 = .ok (.iload_n 2, 1) := by decide +kernel
theorem dX2_drawPlace_26 : decode cX2_drawPlace 26 = .ok (.invokevirtual 34, 3) := by decide +kernel
theorem dX2_drawPlace_29 : decode cX2_drawPlace 29 = .ok (.if_icmp .ge 5, 3) := by decide +kernel
theorem dX2_drawPlace_32 : decode cX2_drawPlace 32 = .ok (.iload_n 2, 1) := by decide +kernel
theorem dX2_drawPlace_33 : decode cX2_drawPlace 33 = .ok (.ireturn, 1) := by decide +kernel
theorem dX2_drawPlace_34 : decode cX2_drawPlace 34 = .ok (.iload_n 1, 1) := by decide +kernel
theorem dX2_drawPlace_35 : decode cX2_drawPlace 35 = .ok (.aload_n 0, 1) := by decide +kernel
theorem dX2_drawPlace_36 : decode cX2_drawPlace 36 = .ok (.getfield 26, 3) := by decide +kernel
theorem dX2_drawPlace_39 : decode cX2_drawPlace 39 = .ok (.iload_n 2, 1) := by decide +kernel
theorem dX2_drawPlace_40 : decode cX2_drawPlace 40 = .ok (.invokevirtual 34, 3) := by decide +kernel
theorem dX2_drawPlace_43 : decode cX2_drawPlace 43 = .ok (.isub, 1) := by decide +kernel
theorem dX2_drawPlace_44 : decode cX2_drawPlace 44 = .ok (.istore_n 1, 1) := by decide +kernel
theorem dX2_drawPlace_45 : decode cX2_drawPlace 45 = .ok (.iinc 2 1, 3) := by decide +kernel
theorem dX2_drawPlace_48 : decode cX2_drawPlace 48 = .ok (.goto (-34), 3) := by decide +kernel
theorem dX2_drawPlace_51 : decode cX2_drawPlace 51 = .ok (.iconst 0, 1) := by decide +kernel
theorem dX2_drawPlace_52 : decode cX2_drawPlace 52 = .ok (.ireturn, 1) := by decide +kernel
abbrev rm_X2_drawPlace : Room := { frames := 2, cells := 0, slots := 0, locals := 43 }
noncomputable def fX2_drawPlace_b14_i (o0 : Nat) (h : z_T) (x1 : Int32) (x2 : Int32) : Option ((Int32 × Int32) ⊕ (Int32 × z_T)) :=
  y_br ((7 : Int32) ≤ x2)
    (y_mp <|
    some ((0 : Int32), h))
    (y_gd (z_ok h o0 2) <|
    y_bi (z_R h o0 0) fun o4 =>
    y_gd (z_ok h o4 0) <|
    y_bi (fX0_weightOf o4 x2 h) fun r6 =>
    y_br (r6 ≤ x1)
      (y_bi (fX0_weightOf o4 x2 h) fun r13 =>
      y_nm ((x1 - r13)) fun v17 =>
      y_nm (x2 + 1) fun v18 =>
      some (.inl (v17, v18)))
      (y_mp <|
      some (x2, h)))
noncomputable def fX2_drawPlace_b14 (o0 : Nat) (x1 : Int32) (x2 : Int32) (h : z_T) : Option (Int32 × z_T) := y_lp (fun q : Int32 × Int32 => fX2_drawPlace_b14_i o0 h q.1 q.2) (x1, x2)
noncomputable def fX2_drawPlace (o0 : Nat) (h : z_T) : Option (Int32 × z_T) :=
  y_gd (z_ok h o0 2) <|
  y_bi (z_R h o0 0) fun o21 =>
  y_gd (z_ok h o21 0) <|
  y_bi (fX0_allWeights o21 h) fun r23 =>
  y_bi (fX2_drawBelow o0 r23 h) fun ⟨r29, h33⟩ =>
  fX2_drawPlace_b14 o0 r29 (0 : Int32) h33
set_option maxHeartbeats 4000000 in
set_option maxRecDepth 100000 in
theorem mm_X2_drawPlace {G : z_Gt} (hSK : z_SK (z_S G)) (l : Launch) (ad : Nat → Nat) (o0 : Nat) (h : z_T) {r0 : Int32} {h9 : z_T} (hv : fX2_drawPlace o0 h = some (r0, h9)) : z_Mi G (z_S G) l yX2_drawPlace cX2_drawPlace 3 (.int) rm_X2_drawPlace 0 0 [.ref (ad o0)] ad h h9 r0 := by
  refine z_ofW hSK (by decide) (Nat.le_of_ble_eq_true rfl) ?_
  intro p e s m args below meth c ls hc hr hnm hB hl
  have hx := hc.1.1
  have hb := hc.1.2.1
  have hown := hc.1.2.2.2.1
  have hts := hc.1.2.2.2.2
  replace hc : z_C G (z_S G) ad (z_n h) p m c cX2_drawPlace 3 s args RX2 meth := hc
  replace hown : s.vm.findClass RX2 = some m.cls := hown
  replace hl : lv_has ls 3 [(0, .ref (ad o0))] := hl
  show W p l e rm_X2_drawPlace s m args below meth c s.heap [] 0 0 (MQ below (z_Qi G ad h9 (z_n h) s.heap.size r0) args s 0 0 (z_A ad (z_n h) s.heap.size)) (F0 m 0 ls [])
  obtain ⟨rs, kt⟩ : ∃ rs : Int32 × z_T, rs = (r0, h9) := ⟨_, rfl⟩
  generalize hn0 : z_n h = n0 at hc hB ⊢
  have L14 : ∀ (h : z_T) (nn14 : Nat) (x1 : Int32) (x2 : Int32) (H : Heap) (locs : List Loc) (ls : Array Slot), z_B G ad n0 s h H locs → lv_has ls 3 [(0, .ref (ad o0)), (1, .int x1), (2, .int x2)] → ∀ vv14, y_lpN (fun q : Int32 × Int32 => fX2_drawPlace_b14_i o0 h q.1 q.2) nn14 (x1, x2) = some vv14 → vv14 = (r0, h9) → W p l e rm_X2_drawPlace s m args below meth c H locs 0 0 (MQ below (z_Qi G ad h9 n0 s.heap.size r0) args s 0 0 (z_A ad n0 s.heap.size)) (F0 m 14 ls []) := by
    intro h nn14
    induction nn14 with
    | zero => intro x1 x2 H locs ls hB hl vv14 hv kv14; exact absurd hv (fun q => y_lpN_0 q)
    | succ nn14 ih14 =>
      intro x1 x2 H locs ls hB hl vv14 hv kv14
      obtain ⟨w, hq, kw14⟩ := y_lpN_e hv
      clear hv
      have hv : fX2_drawPlace_b14_i o0 h x1 x2 = some w := hq
      clear hq
      refine lv_iload_n hx hb dX2_drawPlace_14 rfl (lv_at hl 2 rfl) ?_
      refine lv_bipush (v := (7 : Int32)) hx hb dX2_drawPlace_15 (by decide) ?_
      refine lv_icmp_ge (tgt := 51) hx hb dX2_drawPlace_17 (by decide) (fun c1 => ?_) (fun c1 => ?_)
      · replace hv := y_br_t hv c1
        obtain ⟨t2, hq, ew⟩ := y_mp_e hv
        clear hv; subst ew
        replace kw14 : t2 = _ := kw14
        subst kw14
        have hv := hq
        clear hq
        refine lv_iconst (v := (0 : Int32)) hx hb dX2_drawPlace_51 (by decide) ?_
        replace hv := Option.some.inj hv
        subst hv
        obtain ⟨e1, e2⟩ := y_pr kv14
        rw [← e1, ← e2]
        exact z_iret hc hB hr dX2_drawPlace_52
      · replace hv := y_br_f hv c1
        refine lv_iload_n hx hb dX2_drawPlace_20 rfl (lv_at hl 1 rfl) ?_
        refine lv_aload_n hx hb dX2_drawPlace_21 rfl (lv_at hl 0 rfl) ?_
        obtain ⟨g3, hv⟩ := y_gd_e hv
        obtain ⟨o4, eo4, hv⟩ := y_bi_e hv
        refine z_getR hc hB 2 0 g3 eo4 (by decide) (by decide) rfl (z_l1 hc qfX2_26) dX2_drawPlace_22 ?_
        refine lv_iload_n hx hb dX2_drawPlace_25 rfl (lv_at hl 2 rfl) ?_
        obtain ⟨g10, hv⟩ := y_gd_e hv
        obtain ⟨r6, c5, hv⟩ := y_bi_e hv
        refine z_thI hc hB (z_runV hc hB 0 (mm_X0_weightOf hSK l ad o4 x2 h c5) md_X0_weightOf qmX2_34 g10 (by decide) rfl rfl rfl ⟨Nat.le_of_ble_eq_true rfl, Nat.le_of_ble_eq_true rfl⟩ rfl hl.1 rfl (Nat.le_of_ble_eq_true rfl) dX2_drawPlace_26 ⟨Nat.le_of_ble_eq_true rfl, Nat.le_of_ble_eq_true rfl⟩) (fun H locs hB => ?_)
        refine lv_icmp_ge (tgt := 34) hx hb dX2_drawPlace_29 (by decide) (fun c11 => ?_) (fun c11 => ?_)
        · replace hv := y_br_t hv c11
          refine lv_iload_n hx hb dX2_drawPlace_34 rfl (lv_at hl 1 rfl) ?_
          refine lv_aload_n hx hb dX2_drawPlace_35 rfl (lv_at hl 0 rfl) ?_
          refine z_getR hc hB 2 0 g3 eo4 (by decide) (by decide) rfl (z_l1 hc qfX2_26) dX2_drawPlace_36 ?_
          refine lv_iload_n hx hb dX2_drawPlace_39 rfl (lv_at hl 2 rfl) ?_
          obtain ⟨r13, c12, hv⟩ := y_bi_e hv
          refine z_thI hc hB (z_runV hc hB 0 (mm_X0_weightOf hSK l ad o4 x2 h c12) md_X0_weightOf qmX2_34 g10 (by decide) rfl rfl rfl ⟨Nat.le_of_ble_eq_true rfl, Nat.le_of_ble_eq_true rfl⟩ rfl hl.1 rfl (Nat.le_of_ble_eq_true rfl) dX2_drawPlace_40 ⟨Nat.le_of_ble_eq_true rfl, Nat.le_of_ble_eq_true rfl⟩) (fun H locs hB => ?_)
          refine lv_isub hx hb dX2_drawPlace_43 ?_
          obtain ⟨v17, ev17, hv⟩ := y_nm_e hv
          rw [← ev17]
          refine lv_istore_n (lv' := [(1, .int v17), (0, .ref (ad o0)), (2, .int x2)]) hx hb dX2_drawPlace_44 rfl hl (by decide) rfl (fun ls hl => ?_)
          obtain ⟨v18, ev18, hv⟩ := y_nm_e hv
          refine lv_iinc (v := v18) (lv' := [(2, .int v18), (1, .int v17), (0, .ref (ad o0))]) hx hb dX2_drawPlace_45 hl (k := 2) rfl (by rw [ev18]; rfl) (by decide) rfl (fun ls hl => ?_)
          refine lv_goto (tgt := 14) hx hb dX2_drawPlace_48 (by decide) ?_
          replace hv := Option.some.inj hv
          subst hv
          exact ih14 v17 v18 _ _ _ hB (lv_sub hl [2, 1, 0] rfl) _ kw14 kv14
        · replace hv := y_br_f hv c11
          obtain ⟨t19, hq, ew⟩ := y_mp_e hv
          clear hv; subst ew
          replace kw14 : t19 = _ := kw14
          subst kw14
          have hv := hq
          clear hq
          refine lv_iload_n hx hb dX2_drawPlace_32 rfl (lv_at hl 2 rfl) ?_
          replace hv := Option.some.inj hv
          subst hv
          obtain ⟨e1, e2⟩ := y_pr kv14
          rw [← e1, ← e2]
          exact z_iret hc hB hr dX2_drawPlace_33
  rw [← kt] at hv
  refine lv_aload_n hx hb dX2_drawPlace_0 rfl (lv_at hl 0 rfl) ?_
  refine lv_aload_n hx hb dX2_drawPlace_1 rfl (lv_at hl 0 rfl) ?_
  obtain ⟨g20, hv⟩ := y_gd_e hv
  obtain ⟨o21, eo21, hv⟩ := y_bi_e hv
  refine z_getR hc hB 2 0 g20 eo21 (by decide) (by decide) rfl (z_l1 hc qfX2_26) dX2_drawPlace_2 ?_
  obtain ⟨g27, hv⟩ := y_gd_e hv
  obtain ⟨r23, c22, hv⟩ := y_bi_e hv
  refine z_thI hc hB (z_runV hc hB 0 (mm_X0_allWeights hSK l ad o21 h c22) md_X0_allWeights qmX2_105 g27 (by decide) rfl rfl rfl ⟨Nat.le_of_ble_eq_true rfl, Nat.le_of_ble_eq_true rfl⟩ rfl hl.1 rfl (Nat.le_of_ble_eq_true rfl) dX2_drawPlace_5 ⟨Nat.le_of_ble_eq_true rfl, Nat.le_of_ble_eq_true rfl⟩) (fun H locs hB => ?_)
  obtain ⟨⟨r29, h33⟩, c28, hv⟩ := y_bi_e hv
  refine z_thI hc hB (z_runV hc hB 2 (mm_X2_drawBelow hSK l ad o0 r23 h c28) md_X2_drawBelow qmX2_98 g20 (by decide) rfl rfl rfl ⟨Nat.le_of_ble_eq_true rfl, Nat.le_of_ble_eq_true rfl⟩ rfl hl.1 rfl (Nat.le_of_ble_eq_true rfl) dX2_drawPlace_8 ⟨Nat.le_of_ble_eq_true rfl, Nat.le_of_ble_eq_true rfl⟩) (fun H locs hB => ?_)
  refine lv_istore_n (lv' := [(1, .int r29), (0, .ref (ad o0))]) hx hb dX2_drawPlace_11 rfl hl (by decide) rfl (fun ls hl => ?_)
  refine lv_iconst (v := (0 : Int32)) hx hb dX2_drawPlace_12 (by decide) ?_
  refine lv_istore_n (lv' := [(2, .int (0 : Int32)), (1, .int r29), (0, .ref (ad o0))]) hx hb dX2_drawPlace_13 rfl hl (by decide) rfl (fun ls hl => ?_)
  obtain ⟨n, hv⟩ := y_lp_e hv
  exact L14 h33 n r29 (0 : Int32) _ _ _ hB (lv_sub hl [2, 1, 0] rfl) _ hv kt
theorem qmX2_101 : Cond.methodLink RX2 101 yX2_add ∈ z_ws := List.mem_filter.mpr ⟨List.mem_append_right _ (List.mem_of_getElem? (i := 941) (by decide +kernel)), rfl⟩
theorem qc_X2_add : Cond.code yX2_add cX2_add 4 none ∈ z_ws := List.mem_filter.mpr ⟨List.mem_append_right _ (List.mem_of_getElem? (i := 556) (by decide +kernel)), rfl⟩
theorem qi_X2_add : Cond.instanceMethod yX2_add ∈ z_ws := List.mem_filter.mpr ⟨List.mem_append_right _ (List.mem_of_getElem? (i := 554) (by decide +kernel)), rfl⟩
theorem qs_X2_add : Cond.selects RX2 yX2_add yX2_add ∈ z_ws := List.mem_filter.mpr ⟨List.mem_append_right _ (List.mem_of_getElem? (i := 555) (by decide +kernel)), rfl⟩
theorem md_X2_add : z_mdV yX2_add cX2_add 4 none 2 := ⟨⟨qn_RX2, qc_X2_add, ⟨by decide +kernel, by decide +kernel, by decide +kernel⟩⟩, qi_X2_add, qs_X2_add⟩
theorem qfX2_95 : Cond.fieldLinkNest RX2 95 "DreamTests$Book" "tests" "I" "DreamTests" ∈ z_nw := List.mem_filter.mpr ⟨List.mem_of_getElem? (i := 45) (by decide +kernel), rfl⟩
theorem qmX2_91 : Cond.methodLink RX2 91 yX2_drawPlace ∈ z_ws := List.mem_filter.mpr ⟨List.mem_append_right _ (List.mem_of_getElem? (i := 928) (by decide +kernel)), rfl⟩
theorem qc_X2_drawPlace : Cond.code yX2_drawPlace cX2_drawPlace 3 (some .int) ∈ z_ws := List.mem_filter.mpr ⟨List.mem_append_right _ (List.mem_of_getElem? (i := 931) (by decide +kernel)), rfl⟩
theorem qi_X2_drawPlace : Cond.instanceMethod yX2_drawPlace ∈ z_ws := List.mem_filter.mpr ⟨List.mem_append_right _ (List.mem_of_getElem? (i := 930) (by decide +kernel)), rfl⟩
theorem qs_X2_drawPlace : Cond.selects RX2 yX2_drawPlace yX2_drawPlace ∈ z_ws := List.mem_filter.mpr ⟨List.mem_append_left _ (List.mem_of_getElem? (i := 21) (by decide +kernel)), rfl⟩
theorem md_X2_drawPlace : z_mdV yX2_drawPlace cX2_drawPlace 3 (some .int) 0 := ⟨⟨qn_RX2, qc_X2_drawPlace, ⟨by decide +kernel, by decide +kernel, by decide +kernel⟩⟩, qi_X2_drawPlace, qs_X2_drawPlace⟩
theorem dX2_draw_0 : decode cX2_draw 0 = .ok (.aload_n 0, 1) := by decide +kernel
theorem dX2_draw_1 : decode cX2_draw 1 = .ok (.aload_n 0, 1) := by decide +kernel
theorem dX2_draw_2 : decode cX2_draw 2 = .ok (.getfield 26, 3) := by decide +kernel
theorem dX2_draw_5 : decode cX2_draw 5 = .ok (.invokevirtual 22, 3) := by decide +kernel
theorem dX2_draw_8 : decode cX2_draw 8 = .ok (.aload_n 0, 1) := by decide +kernel
theorem dX2_draw_9 : decode cX2_draw 9 = .ok (.iload_n 2, 1) := by decide +kernel
theorem dX2_draw_10 : decode cX2_draw 10 = .ok (.putfield 88, 3) := by decide +kernel
theorem dX2_draw_13 : decode cX2_draw 13 = .ok (.aload_n 0, 1) := by decide +kernel
theorem dX2_draw_14 : decode cX2_draw 14 = .ok (.invokevirtual 91, 3) := by decide +kernel
theorem dX2_draw_17 : decode cX2_draw 17 = .ok (.istore_n 3, 1) := by decide +kernel
theorem dX2_draw_18 : decode cX2_draw 18 = .ok (.iconst 0, 1) := by decide +kernel
theorem dX2_draw_19 : decode cX2_draw 19 = .ok (.istore 4, 2) := by decide +kernel
theorem dX2_draw_21 : decode cX2_draw 21 = .ok (.iload 4, 2) := by decide +kernel
theorem dX2_draw_23 : decode cX2_draw 23 = .ok (.iload_n 1, 1) := by decide +kernel
theorem dX2_draw_24 : decode cX2_draw 24 = .ok (.if_icmp .ge 49, 3) := by decide +kernel
theorem dX2_draw_27 : decode cX2_draw 27 = .ok (.aload_n 0, 1) := by decide +kernel
theorem dX2_draw_28 : decode cX2_draw 28 = .ok (.aload_n 0, 1) := by decide +kernel
theorem dX2_draw_29 : decode cX2_draw 29 = .ok (.getfield 26, 3) := by decide +kernel
theorem dX2_draw_32 : decode cX2_draw 32 = .ok (.getfield 95, 3) := by decide +kernel
theorem dX2_draw_35 : decode cX2_draw 35 = .ok (.invokevirtual 98, 3) := by decide +kernel
theorem dX2_draw_38 : decode cX2_draw 38 = .ok (.istore 5, 2) := by decide +kernel
theorem dX2_draw_40 : decode cX2_draw 40 = .ok (.aload_n 0, 1) := by decide +kernel
theorem dX2_draw_41 : decode cX2_draw 41 = .ok (.iload 5, 2) := by decide +kernel
theorem dX2_draw_43 : decode cX2_draw 43 = .ok (.aload_n 0, 1) := by decide +kernel
theorem dX2_draw_44 : decode cX2_draw 44 = .ok (.bipush 9, 2) := by decide +kernel
theorem dX2_draw_46 : decode cX2_draw 46 = .ok (.invokevirtual 98, 3) := by decide +kernel
theorem dX2_draw_49 : decode cX2_draw 49 = .ok (.aload_n 0, 1) := by decide +kernel
theorem dX2_draw_50 : decode cX2_draw 50 = .ok (.iload 5, 2) := by decide +kernel
theorem dX2_draw_52 : decode cX2_draw 52 = .ok (.iload_n 3, 1) := by decide +kernel
theorem dX2_draw_53 : decode cX2_draw 53 = .ok (.invokevirtual 70, 3) := by decide +kernel
theorem dX2_draw_56 : decode cX2_draw 56 = .ok (.if_icmp .ge 7, 3) := by decide +kernel
theorem dX2_draw_59 : decode cX2_draw 59 = .ok (.iconst 1, 1) := by decide +kernel
theorem dX2_draw_60 : decode cX2_draw 60 = .ok (.goto 4, 3) := by decide +kernel
theorem dX2_draw_63 : decode cX2_draw 63 = .ok (.iconst 0, 1) := by decide +kernel
theorem dX2_draw_64 : decode cX2_draw 64 = .ok (.invokevirtual 101, 3) := by decide +kernel
theorem dX2_draw_67 : decode cX2_draw 67 = .ok (.iinc 4 1, 3) := by decide +kernel
theorem dX2_draw_70 : decode cX2_draw 70 = .ok (.goto (-49), 3) := by decide +kernel
theorem dX2_draw_73 : decode cX2_draw 73 = .ok (.iload_n 3, 1) := by decide +kernel
theorem dX2_draw_74 : decode cX2_draw 74 = .ok (.ireturn, 1) := by decide +kernel
abbrev rm_X2_draw : Room := { frames := 5, cells := 0, slots := 0, locals := 115 }
noncomputable def fX2_draw_b64 (o0 : Nat) (x1 : Int32) (x3 : Int32) (x4 : Int32) (s0 : Nat) (s1 : Int32) (s2 : Int32) (h : z_T) : Option ((Int32 × z_T) ⊕ (Int32 × z_T)) :=
  y_gd (z_ok h s0 2) <|
  y_bi (fX2_add s0 s1 s2 h) fun h2 =>
  y_nm (x4 + 1) fun v4 =>
  some (.inl (v4, h2))
noncomputable def fX2_draw_b21_i (o0 : Nat) (x1 : Int32) (x3 : Int32) (x4 : Int32) (h : z_T) : Option ((Int32 × z_T) ⊕ (Int32 × z_T)) :=
  y_br (x1 ≤ x4)
    (y_mp <|
    some (x3, h))
    (y_gd (z_ok h o0 2) <|
    y_bi (z_R h o0 0) fun o8 =>
    y_gd (z_ok h o8 0) <|
    y_bi (fX2_drawBelow o0 (z_I h o8 1) h) fun ⟨r11, h15⟩ =>
    y_gd (z_ok h15 o0 2) <|
    y_bi (fX2_drawBelow o0 (9 : Int32) h15) fun ⟨r17, h21⟩ =>
    y_gd (z_ok h21 o0 2) <|
    y_bi (fX2_chance o0 r11 x3 h21) fun r24 =>
    y_br (r24 ≤ r17)
      (fX2_draw_b64 o0 x1 x3 x4 o0 r11 (0 : Int32) h21)
      (fX2_draw_b64 o0 x1 x3 x4 o0 r11 (1 : Int32) h21))
noncomputable def fX2_draw_b21 (o0 : Nat) (x1 : Int32) (x3 : Int32) (x4 : Int32) (h : z_T) : Option (Int32 × z_T) := y_lp (fun q : Int32 × z_T => fX2_draw_b21_i o0 x1 x3 q.1 q.2) (x4, h)
noncomputable def fX2_draw (o0 : Nat) (x1 : Int32) (x2 : Int32) (h : z_T) : Option (Int32 × z_T) :=
  y_gd (z_ok h o0 2) <|
  y_bi (z_R h o0 0) fun o31 =>
  y_bi (fX2_begin o0 o31 h) fun h33 =>
  y_gd (z_ok h33 o0 2) <|
  y_nm (z_sI h33 o0 5 x2) fun h35 =>
  y_bi (fX2_drawPlace o0 h35) fun ⟨r37, h41⟩ =>
  fX2_draw_b21 o0 x1 r37 (0 : Int32) h41
set_option maxHeartbeats 4000000 in
set_option maxRecDepth 100000 in
theorem mm_X2_draw {G : z_Gt} (hSK : z_SK (z_S G)) (l : Launch) (ad : Nat → Nat) (o0 : Nat) (x1 : Int32) (x2 : Int32) (h : z_T) {r0 : Int32} {h9 : z_T} (hv : fX2_draw o0 x1 x2 h = some (r0, h9)) : z_Mi G (z_S G) l yX2_draw cX2_draw 6 (.int) rm_X2_draw 0 0 [.ref (ad o0), .int x1, .int x2] ad h h9 r0 := by
  refine z_ofW hSK (by decide) (Nat.le_of_ble_eq_true rfl) ?_
  intro p e s m args below meth c ls hc hr hnm hB hl
  have hx := hc.1.1
  have hb := hc.1.2.1
  have hown := hc.1.2.2.2.1
  have hts := hc.1.2.2.2.2
  replace hc : z_C G (z_S G) ad (z_n h) p m c cX2_draw 6 s args RX2 meth := hc
  replace hown : s.vm.findClass RX2 = some m.cls := hown
  replace hl : lv_has ls 6 [(0, .ref (ad o0)), (1, .int x1), (2, .int x2)] := hl
  show W p l e rm_X2_draw s m args below meth c s.heap [] 0 0 (MQ below (z_Qi G ad h9 (z_n h) s.heap.size r0) args s 0 0 (z_A ad (z_n h) s.heap.size)) (F0 m 0 ls [])
  obtain ⟨rs, kt⟩ : ∃ rs : Int32 × z_T, rs = (r0, h9) := ⟨_, rfl⟩
  generalize hn0 : z_n h = n0 at hc hB ⊢
  have L21 : ∀ (x3 : Int32) (nn21 : Nat) (x4 : Int32) (h : z_T) (H : Heap) (locs : List Loc) (ls : Array Slot), z_B G ad n0 s h H locs → lv_has ls 6 [(0, .ref (ad o0)), (1, .int x1), (3, .int x3), (4, .int x4)] → ∀ vv21, y_lpN (fun q : Int32 × z_T => fX2_draw_b21_i o0 x1 x3 q.1 q.2) nn21 (x4, h) = some vv21 → vv21 = (r0, h9) → W p l e rm_X2_draw s m args below meth c H locs 0 0 (MQ below (z_Qi G ad h9 n0 s.heap.size r0) args s 0 0 (z_A ad n0 s.heap.size)) (F0 m 21 ls []) := by
    intro x3 nn21
    induction nn21 with
    | zero => intro x4 h H locs ls hB hl vv21 hv kv21; exact absurd hv (fun q => y_lpN_0 q)
    | succ nn21 ih21 =>
      intro x4 h H locs ls hB hl vv21 hv kv21
      obtain ⟨w, hq, kw21⟩ := y_lpN_e hv
      clear hv
      have hv : fX2_draw_b21_i o0 x1 x3 x4 h = some w := hq
      clear hq
      have b64 : ∀ (x4 : Int32) (s0 : Nat) (s1 : Int32) (s2 : Int32) (h : z_T) (H : Heap) (locs : List Loc) (ls : Array Slot), z_B G ad n0 s h H locs → lv_has ls 6 [(0, .ref (ad o0)), (1, .int x1), (3, .int x3), (4, .int x4)] → ∀ w, fX2_draw_b64 o0 x1 x3 x4 s0 s1 s2 h = some w → y_lq (fun q : Int32 × z_T => fX2_draw_b21_i o0 x1 x3 q.1 q.2) nn21 vv21 w → W p l e rm_X2_draw s m args below meth c H locs 0 0 (MQ below (z_Qi G ad h9 n0 s.heap.size r0) args s 0 0 (z_A ad n0 s.heap.size)) (F0 m 64 ls [.int s2, .int s1, .ref (ad s0)]) := by
        intro x4 s0 s1 s2 h H locs ls hB hl w hv kw21
        obtain ⟨g3, hv⟩ := y_gd_e hv
        obtain ⟨h2, c1, hv⟩ := y_bi_e hv
        refine z_thV hc hB (z_runV hc hB 2 (mm_X2_add hSK l ad s0 s1 s2 h c1) md_X2_add qmX2_101 g3 (by decide) rfl rfl rfl ⟨Nat.le_of_ble_eq_true rfl, Nat.le_of_ble_eq_true rfl⟩ rfl hl.1 rfl (Nat.le_of_ble_eq_true rfl) dX2_draw_64 ⟨Nat.le_of_ble_eq_true rfl, Nat.le_of_ble_eq_true rfl⟩) (fun H locs hB => ?_)
        obtain ⟨v4, ev4, hv⟩ := y_nm_e hv
        refine lv_iinc (v := v4) (lv' := [(4, .int v4), (0, .ref (ad o0)), (1, .int x1), (3, .int x3)]) hx hb dX2_draw_67 hl (k := 3) rfl (by rw [ev4]; rfl) (by decide) rfl (fun ls hl => ?_)
        refine lv_goto (tgt := 21) hx hb dX2_draw_70 (by decide) ?_
        replace hv := Option.some.inj hv
        subst hv
        exact ih21 v4 h2 _ _ _ hB (lv_sub hl [1, 2, 3, 0] rfl) _ kw21 kv21
      refine lv_iload hx hb dX2_draw_21 (lv_at hl 3 rfl) ?_
      refine lv_iload_n hx hb dX2_draw_23 rfl (lv_at hl 1 rfl) ?_
      refine lv_icmp_ge (tgt := 73) hx hb dX2_draw_24 (by decide) (fun c5 => ?_) (fun c5 => ?_)
      · replace hv := y_br_t hv c5
        obtain ⟨t6, hq, ew⟩ := y_mp_e hv
        clear hv; subst ew
        replace kw21 : t6 = _ := kw21
        subst kw21
        have hv := hq
        clear hq
        refine lv_iload_n hx hb dX2_draw_73 rfl (lv_at hl 2 rfl) ?_
        replace hv := Option.some.inj hv
        subst hv
        obtain ⟨e1, e2⟩ := y_pr kv21
        rw [← e1, ← e2]
        exact z_iret hc hB hr dX2_draw_74
      · replace hv := y_br_f hv c5
        refine lv_aload_n hx hb dX2_draw_27 rfl (lv_at hl 0 rfl) ?_
        refine lv_aload_n hx hb dX2_draw_28 rfl (lv_at hl 0 rfl) ?_
        obtain ⟨g7, hv⟩ := y_gd_e hv
        obtain ⟨o8, eo8, hv⟩ := y_bi_e hv
        refine z_getR hc hB 2 0 g7 eo8 (by decide) (by decide) rfl (z_l1 hc qfX2_26) dX2_draw_29 ?_
        obtain ⟨g9, hv⟩ := y_gd_e hv
        refine z_getI hc hB 0 1 g9 (by decide) (by decide) rfl (z_l2 hc qfX2_95) dX2_draw_32 ?_
        obtain ⟨⟨r11, h15⟩, c10, hv⟩ := y_bi_e hv
        refine z_thI hc hB (z_runV hc hB 2 (mm_X2_drawBelow hSK l ad o0 (z_I h o8 1) h c10) md_X2_drawBelow qmX2_98 g7 (by decide) rfl rfl rfl ⟨Nat.le_of_ble_eq_true rfl, Nat.le_of_ble_eq_true rfl⟩ rfl hl.1 rfl (Nat.le_of_ble_eq_true rfl) dX2_draw_35 ⟨Nat.le_of_ble_eq_true rfl, Nat.le_of_ble_eq_true rfl⟩) (fun H locs hB => ?_)
        refine lv_istore (lv' := [(5, .int r11), (0, .ref (ad o0)), (1, .int x1), (3, .int x3), (4, .int x4)]) hx hb dX2_draw_38 hl (by decide) rfl (fun ls hl => ?_)
        refine lv_aload_n hx hb dX2_draw_40 rfl (lv_at hl 1 rfl) ?_
        refine lv_iload hx hb dX2_draw_41 (lv_at hl 0 rfl) ?_
        refine lv_aload_n hx hb dX2_draw_43 rfl (lv_at hl 1 rfl) ?_
        refine lv_bipush (v := (9 : Int32)) hx hb dX2_draw_44 (by decide) ?_
        obtain ⟨g22, hv⟩ := y_gd_e hv
        obtain ⟨⟨r17, h21⟩, c16, hv⟩ := y_bi_e hv
        refine z_thI hc hB (z_runV hc hB 2 (mm_X2_drawBelow hSK l ad o0 (9 : Int32) h15 c16) md_X2_drawBelow qmX2_98 g22 (by decide) rfl rfl rfl ⟨Nat.le_of_ble_eq_true rfl, Nat.le_of_ble_eq_true rfl⟩ rfl hl.1 rfl (Nat.le_of_ble_eq_true rfl) dX2_draw_46 ⟨Nat.le_of_ble_eq_true rfl, Nat.le_of_ble_eq_true rfl⟩) (fun H locs hB => ?_)
        refine lv_aload_n hx hb dX2_draw_49 rfl (lv_at hl 1 rfl) ?_
        refine lv_iload hx hb dX2_draw_50 (lv_at hl 0 rfl) ?_
        refine lv_iload_n hx hb dX2_draw_52 rfl (lv_at hl 3 rfl) ?_
        obtain ⟨g28, hv⟩ := y_gd_e hv
        obtain ⟨r24, c23, hv⟩ := y_bi_e hv
        refine z_thI hc hB (z_runV hc hB 2 (mm_X2_chance hSK l ad o0 r11 x3 h21 c23) md_X2_chance qmX2_70 g28 (by decide) rfl rfl rfl ⟨Nat.le_of_ble_eq_true rfl, Nat.le_of_ble_eq_true rfl⟩ rfl hl.1 rfl (Nat.le_of_ble_eq_true rfl) dX2_draw_53 ⟨Nat.le_of_ble_eq_true rfl, Nat.le_of_ble_eq_true rfl⟩) (fun H locs hB => ?_)
        refine lv_icmp_ge (tgt := 63) hx hb dX2_draw_56 (by decide) (fun c29 => ?_) (fun c29 => ?_)
        · replace hv := y_br_t hv c29
          refine lv_iconst (v := (0 : Int32)) hx hb dX2_draw_63 (by decide) ?_
          exact b64 x4 o0 r11 (0 : Int32) h21 _ _ _ hB (lv_sub hl [1, 2, 3, 4] rfl) _ hv kw21
        · replace hv := y_br_f hv c29
          refine lv_iconst (v := (1 : Int32)) hx hb dX2_draw_59 (by decide) ?_
          refine lv_goto (tgt := 64) hx hb dX2_draw_60 (by decide) ?_
          exact b64 x4 o0 r11 (1 : Int32) h21 _ _ _ hB (lv_sub hl [1, 2, 3, 4] rfl) _ hv kw21
  rw [← kt] at hv
  refine lv_aload_n hx hb dX2_draw_0 rfl (lv_at hl 0 rfl) ?_
  refine lv_aload_n hx hb dX2_draw_1 rfl (lv_at hl 0 rfl) ?_
  obtain ⟨g30, hv⟩ := y_gd_e hv
  obtain ⟨o31, eo31, hv⟩ := y_bi_e hv
  refine z_getR hc hB 2 0 g30 eo31 (by decide) (by decide) rfl (z_l1 hc qfX2_26) dX2_draw_2 ?_
  obtain ⟨h33, c32, hv⟩ := y_bi_e hv
  refine z_thV hc hB (z_runV hc hB 2 (mm_X2_begin hSK l ad o0 o31 h c32) md_X2_begin qmX2_22 g30 (by decide) rfl rfl rfl ⟨Nat.le_of_ble_eq_true rfl, Nat.le_of_ble_eq_true rfl⟩ rfl hl.1 rfl (Nat.le_of_ble_eq_true rfl) dX2_draw_5 ⟨Nat.le_of_ble_eq_true rfl, Nat.le_of_ble_eq_true rfl⟩) (fun H locs hB => ?_)
  refine lv_aload_n hx hb dX2_draw_8 rfl (lv_at hl 0 rfl) ?_
  refine lv_iload_n hx hb dX2_draw_9 rfl (lv_at hl 2 rfl) ?_
  obtain ⟨g34, hv⟩ := y_gd_e hv
  obtain ⟨h35, eh35, hv⟩ := y_nm_e hv
  refine y_putI hc hB 2 5 eh35 g34 (z_l1 hc qfX2_88) dX2_draw_10 (by decide) (by decide) rfl rfl rfl rfl (fun H locs hB => ?_)
  refine lv_aload_n hx hb dX2_draw_13 rfl (lv_at hl 0 rfl) ?_
  obtain ⟨⟨r37, h41⟩, c36, hv⟩ := y_bi_e hv
  refine z_thI hc hB (z_runV hc hB 2 (mm_X2_drawPlace hSK l ad o0 h35 c36) md_X2_drawPlace qmX2_91 (by rw [eh35]; exact g34) (by decide) rfl rfl rfl ⟨Nat.le_of_ble_eq_true rfl, Nat.le_of_ble_eq_true rfl⟩ rfl hl.1 rfl (Nat.le_of_ble_eq_true rfl) dX2_draw_14 ⟨Nat.le_of_ble_eq_true rfl, Nat.le_of_ble_eq_true rfl⟩) (fun H locs hB => ?_)
  refine lv_istore_n (lv' := [(3, .int r37), (0, .ref (ad o0)), (1, .int x1), (2, .int x2)]) hx hb dX2_draw_17 rfl hl (by decide) rfl (fun ls hl => ?_)
  refine lv_iconst (v := (0 : Int32)) hx hb dX2_draw_18 (by decide) ?_
  refine lv_istore (lv' := [(4, .int (0 : Int32)), (3, .int r37), (0, .ref (ad o0)), (1, .int x1), (2, .int x2)]) hx hb dX2_draw_19 hl (by decide) rfl (fun ls hl => ?_)
  obtain ⟨n, hv⟩ := y_lp_e hv
  exact L21 r37 n (0 : Int32) h41 _ _ _ hB (lv_sub hl [2, 3, 1, 0] rfl) _ hv kt
theorem qmX3_3 : Cond.methodLink RX3 3 objectInit ∈ z_ws := List.mem_filter.mpr ⟨List.mem_append_right _ (List.mem_of_getElem? (i := 258) (by decide +kernel)), rfl⟩
theorem qfX3_11 : Cond.fieldLink RX3 11 "DreamTests$Nights" "acts" "[I" ∈ z_ws := List.mem_filter.mpr ⟨List.mem_append_right _ (List.mem_of_getElem? (i := 259) (by decide +kernel)), rfl⟩
theorem qfX3_15 : Cond.fieldLink RX3 15 "DreamTests$Nights" "values" "[I" ∈ z_ws := List.mem_filter.mpr ⟨List.mem_append_right _ (List.mem_of_getElem? (i := 260) (by decide +kernel)), rfl⟩
theorem qfX3_18 : Cond.fieldLink RX3 18 "DreamTests$Nights" "why" "I" ∈ z_ws := List.mem_filter.mpr ⟨List.mem_append_right _ (List.mem_of_getElem? (i := 264) (by decide +kernel)), rfl⟩
theorem qfX3_22 : Cond.fieldLink RX3 22 "DreamTests$Nights" "began" "I" ∈ z_ws := List.mem_filter.mpr ⟨List.mem_append_right _ (List.mem_of_getElem? (i := 266) (by decide +kernel)), rfl⟩
theorem qfX3_25 : Cond.fieldLink RX3 25 "DreamTests$Nights" "answers" "I" ∈ z_ws := List.mem_filter.mpr ⟨List.mem_append_right _ (List.mem_of_getElem? (i := 268) (by decide +kernel)), rfl⟩
theorem dX3_init_0 : decode cX3_init 0 = .ok (.aload_n 0, 1) := by decide +kernel
theorem dX3_init_1 : decode cX3_init 1 = .ok (.invokespecial 3, 3) := by decide +kernel
theorem dX3_init_4 : decode cX3_init 4 = .ok (.aload_n 0, 1) := by decide +kernel
theorem dX3_init_5 : decode cX3_init 5 = .ok (.bipush 40, 2) := by decide +kernel
theorem dX3_init_7 : decode cX3_init 7 = .ok (.newarray .int, 2) := by decide +kernel
theorem dX3_init_9 : decode cX3_init 9 = .ok (.putfield 11, 3) := by decide +kernel
theorem dX3_init_12 : decode cX3_init 12 = .ok (.aload_n 0, 1) := by decide +kernel
theorem dX3_init_13 : decode cX3_init 13 = .ok (.bipush 40, 2) := by decide +kernel
theorem dX3_init_15 : decode cX3_init 15 = .ok (.newarray .int, 2) := by decide +kernel
theorem dX3_init_17 : decode cX3_init 17 = .ok (.putfield 15, 3) := by decide +kernel
theorem dX3_init_20 : decode cX3_init 20 = .ok (.aload_n 0, 1) := by decide +kernel
theorem dX3_init_21 : decode cX3_init 21 = .ok (.iconst (-1), 1) := by decide +kernel
theorem dX3_init_22 : decode cX3_init 22 = .ok (.putfield 18, 3) := by decide +kernel
theorem dX3_init_25 : decode cX3_init 25 = .ok (.aload_n 0, 1) := by decide +kernel
theorem dX3_init_26 : decode cX3_init 26 = .ok (.iconst (-1), 1) := by decide +kernel
theorem dX3_init_27 : decode cX3_init 27 = .ok (.putfield 22, 3) := by decide +kernel
theorem dX3_init_30 : decode cX3_init 30 = .ok (.aload_n 0, 1) := by decide +kernel
theorem dX3_init_31 : decode cX3_init 31 = .ok (.iconst (-1), 1) := by decide +kernel
theorem dX3_init_32 : decode cX3_init 32 = .ok (.putfield 25, 3) := by decide +kernel
theorem dX3_init_35 : decode cX3_init 35 = .ok (.return_, 1) := by decide +kernel
abbrev rm_X3_init : Room := { frames := 1, cells := 2, slots := 80, locals := 12 }
noncomputable def fX3_init (o0 : Nat) (h : z_T) : Option (z_T) :=
  y_nm (z_n h) fun o1 =>
  y_nm (z_al h 13 40) fun h2 =>
  y_gd (z_ok h2 o0 3) <|
  y_nm (z_sR h2 o0 0 (some o1)) fun h5 =>
  y_nm (z_n h5) fun o6 =>
  y_nm (z_al h5 13 40) fun h7 =>
  y_gd (z_ok h7 o0 3) <|
  y_nm (z_sR h7 o0 1 (some o6)) fun h10 =>
  y_nm (z_sI h10 o0 5 (-1 : Int32)) fun h11 =>
  y_nm (z_sI h11 o0 6 (-1 : Int32)) fun h12 =>
  y_nm (z_sI h12 o0 7 (-1 : Int32)) fun h13 =>
  some h13
set_option maxHeartbeats 4000000 in
set_option maxRecDepth 100000 in
theorem mm_X3_init {G : z_Gt} (hSK : z_SK (z_S G)) (l : Launch) (ad : Nat → Nat) (o0 : Nat) (h : z_T) {h9 : z_T} (hv : fX3_init o0 h = some h9) : z_Mv G (z_S G) l yX3_init cX3_init 1 rm_X3_init 2 80 [.ref (ad o0)] ad h h9 := by
  refine z_ofW hSK (by decide) (Nat.le_of_ble_eq_true rfl) ?_
  intro p e s m args below meth c ls hc hr hnm hB hl
  have hx := hc.1.1
  have hb := hc.1.2.1
  have hown := hc.1.2.2.2.1
  have hts := hc.1.2.2.2.2
  replace hc : z_C G (z_S G) ad (z_n h) p m c cX3_init 1 s args RX3 meth := hc
  replace hown : s.vm.findClass RX3 = some m.cls := hown
  replace hl : lv_has ls 1 [(0, .ref (ad o0))] := hl
  show W p l e rm_X3_init s m args below meth c s.heap [] 0 0 (MQ below (z_Qv G ad h9 (z_n h) s.heap.size) args s 2 80 (z_A ad (z_n h) s.heap.size)) (F0 m 0 ls [])
  obtain ⟨rs, kt⟩ : ∃ rs : z_T, rs = h9 := ⟨_, rfl⟩
  generalize hn0 : z_n h = n0 at hc hB ⊢
  rw [← kt] at hv
  refine lv_aload_n hx hb dX3_init_0 rfl (lv_at hl 0 rfl) ?_
  refine z_objI hc qmX3_3 q_objInst q_objCode hl.1 ⟨Nat.le_of_ble_eq_true rfl, Nat.le_of_ble_eq_true rfl⟩ dX3_init_1 ?_
  refine lv_aload_n hx hb dX3_init_4 rfl (lv_at hl 0 rfl) ?_
  refine lv_bipush (v := (40 : Int32)) hx hb dX3_init_5 (by decide) ?_
  obtain ⟨o1, eo1, hv⟩ := y_nm_e hv
  obtain ⟨h2, eh2, hv⟩ := y_nm_e hv
  refine z_newarr hc hB 13 40 (n := (40 : Int32)) eh2 (by decide) (by decide) (by decide) rfl qa_int (by decide) (by decide) (Nat.le_of_ble_eq_true rfl) (Nat.le_of_ble_eq_true rfl) dX3_init_7 (fun H hB => ?_)
  rw [← eo1]
  have g3 : z_ok h2 o1 13 = true := by rw [eh2, eo1]; exact z_al_ok
  obtain ⟨g4, hv⟩ := y_gd_e hv
  obtain ⟨h5, eh5, hv⟩ := y_nm_e hv
  refine z_putF hc hB 3 0 (r := (some o1)) rfl (z_hrS (k := 13) g3) eh5 g4 qfX3_11 dX3_init_9 hnm (by decide) (by decide) rfl rfl rfl (fun r => by cases r <;> rfl) (fun r => by cases r <;> rfl) (fun H locs hB => ?_)
  refine lv_aload_n hx hb dX3_init_12 rfl (lv_at hl 0 rfl) ?_
  refine lv_bipush (v := (40 : Int32)) hx hb dX3_init_13 (by decide) ?_
  obtain ⟨o6, eo6, hv⟩ := y_nm_e hv
  obtain ⟨h7, eh7, hv⟩ := y_nm_e hv
  refine z_newarr hc hB 13 40 (n := (40 : Int32)) eh7 (by decide) (by decide) (by decide) rfl qa_int (by decide) (by decide) (Nat.le_of_ble_eq_true rfl) (Nat.le_of_ble_eq_true rfl) dX3_init_15 (fun H hB => ?_)
  rw [← eo6]
  have g8 : z_ok h7 o6 13 = true := by rw [eh7, eo6]; exact z_al_ok
  obtain ⟨g9, hv⟩ := y_gd_e hv
  obtain ⟨h10, eh10, hv⟩ := y_nm_e hv
  refine z_putF hc hB 3 1 (r := (some o6)) rfl (z_hrS (k := 13) g8) eh10 g9 qfX3_15 dX3_init_17 hnm (by decide) (by decide) rfl rfl rfl (fun r => by cases r <;> rfl) (fun r => by cases r <;> rfl) (fun H locs hB => ?_)
  refine lv_aload_n hx hb dX3_init_20 rfl (lv_at hl 0 rfl) ?_
  refine lv_iconst (v := (-1 : Int32)) hx hb dX3_init_21 (by decide) ?_
  obtain ⟨h11, eh11, hv⟩ := y_nm_e hv
  refine y_putI hc hB 3 5 eh11 (by rw [eh10]; exact g9) (z_l1 hc qfX3_18) dX3_init_22 (by decide) (by decide) rfl rfl rfl rfl (fun H locs hB => ?_)
  refine lv_aload_n hx hb dX3_init_25 rfl (lv_at hl 0 rfl) ?_
  refine lv_iconst (v := (-1 : Int32)) hx hb dX3_init_26 (by decide) ?_
  obtain ⟨h12, eh12, hv⟩ := y_nm_e hv
  refine y_putI hc hB 3 6 eh12 (by rw [eh11, eh10]; exact g9) (z_l1 hc qfX3_22) dX3_init_27 (by decide) (by decide) rfl rfl rfl rfl (fun H locs hB => ?_)
  refine lv_aload_n hx hb dX3_init_30 rfl (lv_at hl 0 rfl) ?_
  refine lv_iconst (v := (-1 : Int32)) hx hb dX3_init_31 (by decide) ?_
  obtain ⟨h13, eh13, hv⟩ := y_nm_e hv
  refine y_putI hc hB 3 7 eh13 (by rw [eh12, eh11, eh10]; exact g9) (z_l1 hc qfX3_25) dX3_init_32 (by decide) (by decide) rfl rfl rfl rfl (fun H locs hB => ?_)
  replace hv := Option.some.inj hv
  subst hv
  rw [← kt]
  exact z_vret hc hB hr dX3_init_35
theorem qfX3_28 : Cond.fieldLink RX3 28 "DreamTests$Nights" "lines" "I" ∈ z_ws := List.mem_filter.mpr ⟨List.mem_append_right _ (List.mem_of_getElem? (i := 261) (by decide +kernel)), rfl⟩
theorem dX3_put_0 : decode cX3_put 0 = .ok (.aload_n 0, 1) := by decide +kernel
theorem dX3_put_1 : decode cX3_put 1 = .ok (.getfield 28, 3) := by decide +kernel
theorem dX3_put_4 : decode cX3_put 4 = .ok (.ifCond .lt 57, 3) := by decide +kernel
theorem dX3_put_7 : decode cX3_put 7 = .ok (.aload_n 0, 1) := by decide +kernel
theorem dX3_put_8 : decode cX3_put 8 = .ok (.getfield 28, 3) := by decide +kernel
theorem dX3_put_11 : decode cX3_put 11 = .ok (.aload_n 0, 1) := by decide +kernel
theorem dX3_put_12 : decode cX3_put 12 = .ok (.getfield 11, 3) := by decide +kernel
theorem dX3_put_15 : decode cX3_put 15 = .ok (.arraylength, 1) := by decide +kernel
theorem dX3_put_16 : decode cX3_put 16 = .ok (.if_icmp .ge 45, 3) := by decide +kernel
theorem dX3_put_19 : decode cX3_put 19 = .ok (.aload_n 0, 1) := by decide +kernel
theorem dX3_put_20 : decode cX3_put 20 = .ok (.getfield 28, 3) := by decide +kernel
theorem dX3_put_23 : decode cX3_put 23 = .ok (.aload_n 0, 1) := by decide +kernel
theorem dX3_put_24 : decode cX3_put 24 = .ok (.getfield 15, 3) := by decide +kernel
theorem dX3_put_27 : decode cX3_put 27 = .ok (.arraylength, 1) := by decide +kernel
theorem dX3_put_28 : decode cX3_put 28 = .ok (.if_icmp .ge 33, 3) := by decide +kernel
theorem dX3_put_31 : decode cX3_put 31 = .ok (.aload_n 0, 1) := by decide +kernel
theorem dX3_put_32 : decode cX3_put 32 = .ok (.getfield 11, 3) := by decide +kernel
theorem dX3_put_35 : decode cX3_put 35 = .ok (.aload_n 0, 1) := by decide +kernel
theorem dX3_put_36 : decode cX3_put 36 = .ok (.getfield 28, 3) := by decide +kernel
theorem dX3_put_39 : decode cX3_put 39 = .ok (.iload_n 1, 1) := by decide +kernel
theorem dX3_put_40 : decode cX3_put 40 = .ok (.iastore, 1) := by decide +kernel
theorem dX3_put_41 : decode cX3_put 41 = .ok (.aload_n 0, 1) := by decide +kernel
theorem dX3_put_42 : decode cX3_put 42 = .ok (.getfield 15, 3) := by decide +kernel
theorem dX3_put_45 : decode cX3_put 45 = .ok (.aload_n 0, 1) := by decide +kernel
theorem dX3_put_46 : decode cX3_put 46 = .ok (.getfield 28, 3) := by decide +kernel
theorem dX3_put_49 : decode cX3_put 49 = .ok (.iload_n 2, 1) := by decide +kernel
theorem dX3_put_50 : decode cX3_put 50 = .ok (.iastore, 1) := by decide +kernel
theorem dX3_put_51 : decode cX3_put 51 = .ok (.aload_n 0, 1) := by decide +kernel
theorem dX3_put_52 : decode cX3_put 52 = .ok (.dup, 1) := by decide +kernel
theorem dX3_put_53 : decode cX3_put 53 = .ok (.getfield 28, 3) := by decide +kernel
theorem dX3_put_56 : decode cX3_put 56 = .ok (.iconst 1, 1) := by decide +kernel
theorem dX3_put_57 : decode cX3_put 57 = .ok (.iadd, 1) := by decide +kernel
theorem dX3_put_58 : decode cX3_put 58 = .ok (.putfield 28, 3) := by decide +kernel
theorem dX3_put_61 : decode cX3_put 61 = .ok (.return_, 1) := by decide +kernel
abbrev rm_X3_put : Room := { frames := 0, cells := 0, slots := 0, locals := 0 }
noncomputable def fX3_put (o0 : Nat) (x1 : Int32) (x2 : Int32) (h : z_T) : Option (z_T) :=
  y_gd (z_ok h o0 3) <|
  y_br ((z_I h o0 2) < 0)
    (some h)
    (y_bi (z_R h o0 0) fun o3 =>
    y_gd (z_ok h o3 13) <|
    y_br ((nI (z_N h o3)) ≤ (z_I h o0 2))
      (some h)
      (y_bi (z_R h o0 1) fun o6 =>
      y_gd (z_ok h o6 13) <|
      y_br ((nI (z_N h o6)) ≤ (z_I h o0 2))
        (some h)
        (y_gd (z_ix (z_I h o0 2) (z_N h o3)) <|
        y_nm (z_sI h o3 (z_I h o0 2).toNatClampNeg x1) fun h10 =>
        y_gd (z_ix (z_I h10 o0 2) (z_N h10 o6)) <|
        y_nm (z_sI h10 o6 (z_I h10 o0 2).toNatClampNeg x2) fun h12 =>
        y_nm (z_sI h12 o0 2 ((z_I h12 o0 2) + (1 : Int32))) fun h13 =>
        some h13)))
set_option maxHeartbeats 4000000 in
set_option maxRecDepth 100000 in
theorem mm_X3_put {G : z_Gt} (hSK : z_SK (z_S G)) (l : Launch) (ad : Nat → Nat) (o0 : Nat) (x1 : Int32) (x2 : Int32) (h : z_T) {h9 : z_T} (hv : fX3_put o0 x1 x2 h = some h9) : z_Mv G (z_S G) l yX3_put cX3_put 3 rm_X3_put 0 0 [.ref (ad o0), .int x1, .int x2] ad h h9 := by
  refine z_ofW hSK (by decide) (Nat.le_of_ble_eq_true rfl) ?_
  intro p e s m args below meth c ls hc hr hnm hB hl
  have hx := hc.1.1
  have hb := hc.1.2.1
  have hown := hc.1.2.2.2.1
  have hts := hc.1.2.2.2.2
  replace hc : z_C G (z_S G) ad (z_n h) p m c cX3_put 3 s args RX3 meth := hc
  replace hown : s.vm.findClass RX3 = some m.cls := hown
  replace hl : lv_has ls 3 [(0, .ref (ad o0)), (1, .int x1), (2, .int x2)] := hl
  show W p l e rm_X3_put s m args below meth c s.heap [] 0 0 (MQ below (z_Qv G ad h9 (z_n h) s.heap.size) args s 0 0 (z_A ad (z_n h) s.heap.size)) (F0 m 0 ls [])
  obtain ⟨rs, kt⟩ : ∃ rs : z_T, rs = h9 := ⟨_, rfl⟩
  generalize hn0 : z_n h = n0 at hc hB ⊢
  rw [← kt] at hv
  refine lv_aload_n hx hb dX3_put_0 rfl (lv_at hl 0 rfl) ?_
  obtain ⟨g1, hv⟩ := y_gd_e hv
  refine z_getI hc hB 3 2 g1 (by decide) (by decide) rfl (z_l1 hc qfX3_28) dX3_put_1 ?_
  refine lv_if_lt (tgt := 61) hx hb dX3_put_4 (by decide) (fun c2 => ?_) (fun c2 => ?_)
  · replace hv := y_br_t hv c2
    replace hv := Option.some.inj hv
    subst hv
    rw [← kt]
    exact z_vret hc hB hr dX3_put_61
  · replace hv := y_br_f hv c2
    refine lv_aload_n hx hb dX3_put_7 rfl (lv_at hl 0 rfl) ?_
    refine z_getI hc hB 3 2 g1 (by decide) (by decide) rfl (z_l1 hc qfX3_28) dX3_put_8 ?_
    refine lv_aload_n hx hb dX3_put_11 rfl (lv_at hl 0 rfl) ?_
    obtain ⟨o3, eo3, hv⟩ := y_bi_e hv
    refine z_getR hc hB 3 0 g1 eo3 (by decide) (by decide) rfl (z_l1 hc qfX3_11) dX3_put_12 ?_
    obtain ⟨g4, hv⟩ := y_gd_e hv
    refine z_alen hc hB 13 (by decide) (by decide) g4 dX3_put_15 ?_
    refine lv_icmp_ge (tgt := 61) hx hb dX3_put_16 (by decide) (fun c5 => ?_) (fun c5 => ?_)
    · replace hv := y_br_t hv c5
      replace hv := Option.some.inj hv
      subst hv
      rw [← kt]
      exact z_vret hc hB hr dX3_put_61
    · replace hv := y_br_f hv c5
      refine lv_aload_n hx hb dX3_put_19 rfl (lv_at hl 0 rfl) ?_
      refine z_getI hc hB 3 2 g1 (by decide) (by decide) rfl (z_l1 hc qfX3_28) dX3_put_20 ?_
      refine lv_aload_n hx hb dX3_put_23 rfl (lv_at hl 0 rfl) ?_
      obtain ⟨o6, eo6, hv⟩ := y_bi_e hv
      refine z_getR hc hB 3 1 g1 eo6 (by decide) (by decide) rfl (z_l1 hc qfX3_15) dX3_put_24 ?_
      obtain ⟨g7, hv⟩ := y_gd_e hv
      refine z_alen hc hB 13 (by decide) (by decide) g7 dX3_put_27 ?_
      refine lv_icmp_ge (tgt := 61) hx hb dX3_put_28 (by decide) (fun c8 => ?_) (fun c8 => ?_)
      · replace hv := y_br_t hv c8
        replace hv := Option.some.inj hv
        subst hv
        rw [← kt]
        exact z_vret hc hB hr dX3_put_61
      · replace hv := y_br_f hv c8
        refine lv_aload_n hx hb dX3_put_31 rfl (lv_at hl 0 rfl) ?_
        refine z_getR hc hB 3 0 g1 eo3 (by decide) (by decide) rfl (z_l1 hc qfX3_11) dX3_put_32 ?_
        refine lv_aload_n hx hb dX3_put_35 rfl (lv_at hl 0 rfl) ?_
        refine z_getI hc hB 3 2 g1 (by decide) (by decide) rfl (z_l1 hc qfX3_28) dX3_put_36 ?_
        refine lv_iload_n hx hb dX3_put_39 rfl (lv_at hl 1 rfl) ?_
        obtain ⟨i9, hv⟩ := y_gd_e hv
        obtain ⟨h10, eh10, hv⟩ := y_nm_e hv
        refine y_iast hc hB eh10 g4 i9 dX3_put_40 (fun H locs hB => ?_)
        refine lv_aload_n hx hb dX3_put_41 rfl (lv_at hl 0 rfl) ?_
        refine z_getR hc hB 3 1 (by rw [eh10]; exact g1) (by rw [eh10]; exact eo6) (by decide) (by decide) rfl (z_l1 hc qfX3_15) dX3_put_42 ?_
        refine lv_aload_n hx hb dX3_put_45 rfl (lv_at hl 0 rfl) ?_
        refine z_getI hc hB 3 2 (by rw [eh10]; exact g1) (by decide) (by decide) rfl (z_l1 hc qfX3_28) dX3_put_46 ?_
        refine lv_iload_n hx hb dX3_put_49 rfl (lv_at hl 2 rfl) ?_
        obtain ⟨i11, hv⟩ := y_gd_e hv
        obtain ⟨h12, eh12, hv⟩ := y_nm_e hv
        refine y_iast hc hB eh12 (by rw [eh10]; exact g7) i11 dX3_put_50 (fun H locs hB => ?_)
        refine lv_aload_n hx hb dX3_put_51 rfl (lv_at hl 0 rfl) ?_
        refine lv_dup hx hb dX3_put_52 rfl ?_
        refine z_getI hc hB 3 2 (by rw [eh12, eh10]; exact g1) (by decide) (by decide) rfl (z_l1 hc qfX3_28) dX3_put_53 ?_
        refine lv_iconst (v := (1 : Int32)) hx hb dX3_put_56 (by decide) ?_
        refine lv_iadd hx hb dX3_put_57 ?_
        obtain ⟨h13, eh13, hv⟩ := y_nm_e hv
        refine y_putI hc hB 3 2 eh13 (by rw [eh12, eh10]; exact g1) (z_l1 hc qfX3_28) dX3_put_58 (by decide) (by decide) rfl rfl rfl rfl (fun H locs hB => ?_)
        replace hv := Option.some.inj hv
        subst hv
        rw [← kt]
        exact z_vret hc hB hr dX3_put_61
theorem qmX3_73 : Cond.methodLink RX3 73 yX6_advance ∈ z_ws := List.mem_filter.mpr ⟨List.mem_append_right _ (List.mem_of_getElem? (i := 863) (by decide +kernel)), rfl⟩
theorem qmX3_86 : Cond.methodLink RX3 86 yX3_put ∈ z_ws := List.mem_filter.mpr ⟨List.mem_append_right _ (List.mem_of_getElem? (i := 871) (by decide +kernel)), rfl⟩
theorem qn_RX3 : Cond.initialized RX3 ∈ z_ws := List.mem_filter.mpr ⟨List.mem_append_right _ (List.mem_of_getElem? (i := 11) (by decide +kernel)), rfl⟩
theorem qc_X3_put : Cond.code yX3_put cX3_put 3 none ∈ z_ws := List.mem_filter.mpr ⟨List.mem_append_right _ (List.mem_of_getElem? (i := 874) (by decide +kernel)), rfl⟩
theorem qi_X3_put : Cond.instanceMethod yX3_put ∈ z_ws := List.mem_filter.mpr ⟨List.mem_append_right _ (List.mem_of_getElem? (i := 873) (by decide +kernel)), rfl⟩
theorem qs_X3_put : Cond.selects RX3 yX3_put yX3_put ∈ z_ws := List.mem_filter.mpr ⟨List.mem_append_left _ (List.mem_of_getElem? (i := 17) (by decide +kernel)), rfl⟩
theorem md_X3_put : z_mdV yX3_put cX3_put 3 none 2 := ⟨⟨qn_RX3, qc_X3_put, ⟨by decide +kernel, by decide +kernel, by decide +kernel⟩⟩, qi_X3_put, qs_X3_put⟩
theorem qmX3_57 : Cond.methodLink RX3 57 yX6_fail ∈ z_ws := List.mem_filter.mpr ⟨List.mem_append_right _ (List.mem_of_getElem? (i := 862) (by decide +kernel)), rfl⟩
theorem dX3_readAct_0 : decode cX3_readAct 0 = .ok (.aload_n 0, 1) := by decide +kernel
theorem dX3_readAct_1 : decode cX3_readAct 1 = .ok (.getfield 28, 3) := by decide +kernel
theorem dX3_readAct_4 : decode cX3_readAct 4 = .ok (.bipush 40, 2) := by decide +kernel
theorem dX3_readAct_6 : decode cX3_readAct 6 = .ok (.if_icmp .lt 9, 3) := by decide +kernel
theorem dX3_readAct_9 : decode cX3_readAct 9 = .ok (.aload_n 1, 1) := by decide +kernel
theorem dX3_readAct_10 : decode cX3_readAct 10 = .ok (.iconst 4, 1) := by decide +kernel
theorem dX3_readAct_11 : decode cX3_readAct 11 = .ok (.invokevirtual 57, 3) := by decide +kernel
theorem dX3_readAct_14 : decode cX3_readAct 14 = .ok (.ireturn, 1) := by decide +kernel
theorem dX3_readAct_15 : decode cX3_readAct 15 = .ok (.aload_n 1, 1) := by decide +kernel
theorem dX3_readAct_16 : decode cX3_readAct 16 = .ok (.invokevirtual 73, 3) := by decide +kernel
theorem dX3_readAct_19 : decode cX3_readAct 19 = .ok (.aload_n 0, 1) := by decide +kernel
theorem dX3_readAct_20 : decode cX3_readAct 20 = .ok (.iload_n 2, 1) := by decide +kernel
theorem dX3_readAct_21 : decode cX3_readAct 21 = .ok (.iconst 0, 1) := by decide +kernel
theorem dX3_readAct_22 : decode cX3_readAct 22 = .ok (.invokevirtual 86, 3) := by decide +kernel
theorem dX3_readAct_25 : decode cX3_readAct 25 = .ok (.iconst 1, 1) := by decide +kernel
theorem dX3_readAct_26 : decode cX3_readAct 26 = .ok (.ireturn, 1) := by decide +kernel
abbrev rm_X3_readAct : Room := { frames := 3, cells := 0, slots := 0, locals := 69 }
noncomputable def fX3_readAct (o0 : Nat) (o1 : Nat) (x2 : Int32) (h : z_T) : Option (Int32 × z_T) :=
  y_gd (z_ok h o0 3) <|
  y_br ((z_I h o0 2) < (40 : Int32))
    (y_gd (z_ok h o1 6) <|
    y_bi (fX6_advance o1 h) fun h4 =>
    y_gd (z_ok h4 o0 3) <|
    y_bi (fX3_put o0 x2 (0 : Int32) h4) fun h7 =>
    some ((1 : Int32), h7))
    (y_gd (z_ok h o1 6) <|
    y_bi (fX6_fail o1 (4 : Int32) h) fun ⟨r10, h14⟩ =>
    y_gd (y_b r10) <|
    some (r10, h14))
set_option maxHeartbeats 4000000 in
set_option maxRecDepth 100000 in
theorem mm_X3_readAct {G : z_Gt} (hSK : z_SK (z_S G)) (l : Launch) (ad : Nat → Nat) (o0 : Nat) (o1 : Nat) (x2 : Int32) (h : z_T) {r0 : Int32} {h9 : z_T} (hv : fX3_readAct o0 o1 x2 h = some (r0, h9)) : z_Mi G (z_S G) l yX3_readAct cX3_readAct 3 (.boolean) rm_X3_readAct 0 0 [.ref (ad o0), .ref (ad o1), .int x2] ad h h9 r0 := by
  refine z_ofW hSK (by decide) (Nat.le_of_ble_eq_true rfl) ?_
  intro p e s m args below meth c ls hc hr hnm hB hl
  have hx := hc.1.1
  have hb := hc.1.2.1
  have hown := hc.1.2.2.2.1
  have hts := hc.1.2.2.2.2
  replace hc : z_C G (z_S G) ad (z_n h) p m c cX3_readAct 3 s args RX3 meth := hc
  replace hown : s.vm.findClass RX3 = some m.cls := hown
  replace hl : lv_has ls 3 [(0, .ref (ad o0)), (1, .ref (ad o1)), (2, .int x2)] := hl
  show W p l e rm_X3_readAct s m args below meth c s.heap [] 0 0 (MQ below (z_Qi G ad h9 (z_n h) s.heap.size r0) args s 0 0 (z_A ad (z_n h) s.heap.size)) (F0 m 0 ls [])
  obtain ⟨rs, kt⟩ : ∃ rs : Int32 × z_T, rs = (r0, h9) := ⟨_, rfl⟩
  generalize hn0 : z_n h = n0 at hc hB ⊢
  rw [← kt] at hv
  refine lv_aload_n hx hb dX3_readAct_0 rfl (lv_at hl 0 rfl) ?_
  obtain ⟨g1, hv⟩ := y_gd_e hv
  refine z_getI hc hB 3 2 g1 (by decide) (by decide) rfl (z_l1 hc qfX3_28) dX3_readAct_1 ?_
  refine lv_bipush (v := (40 : Int32)) hx hb dX3_readAct_4 (by decide) ?_
  refine lv_icmp_lt (tgt := 15) hx hb dX3_readAct_6 (by decide) (fun c2 => ?_) (fun c2 => ?_)
  · replace hv := y_br_t hv c2
    refine lv_aload_n hx hb dX3_readAct_15 rfl (lv_at hl 1 rfl) ?_
    obtain ⟨g5, hv⟩ := y_gd_e hv
    obtain ⟨h4, c3, hv⟩ := y_bi_e hv
    refine z_thV hc hB (z_runV hc hB 6 (mm_X6_advance hSK l ad o1 h c3) md_X6_advance qmX3_73 g5 (by decide) rfl rfl rfl ⟨Nat.le_of_ble_eq_true rfl, Nat.le_of_ble_eq_true rfl⟩ rfl hl.1 rfl (Nat.le_of_ble_eq_true rfl) dX3_readAct_16 ⟨Nat.le_of_ble_eq_true rfl, Nat.le_of_ble_eq_true rfl⟩) (fun H locs hB => ?_)
    refine lv_aload_n hx hb dX3_readAct_19 rfl (lv_at hl 0 rfl) ?_
    refine lv_iload_n hx hb dX3_readAct_20 rfl (lv_at hl 2 rfl) ?_
    refine lv_iconst (v := (0 : Int32)) hx hb dX3_readAct_21 (by decide) ?_
    obtain ⟨g8, hv⟩ := y_gd_e hv
    obtain ⟨h7, c6, hv⟩ := y_bi_e hv
    refine z_thV hc hB (z_runV hc hB 3 (mm_X3_put hSK l ad o0 x2 (0 : Int32) h4 c6) md_X3_put qmX3_86 g8 (by decide) rfl rfl rfl ⟨Nat.le_of_ble_eq_true rfl, Nat.le_of_ble_eq_true rfl⟩ rfl hl.1 rfl (Nat.le_of_ble_eq_true rfl) dX3_readAct_22 ⟨Nat.le_of_ble_eq_true rfl, Nat.le_of_ble_eq_true rfl⟩) (fun H locs hB => ?_)
    refine lv_iconst (v := (1 : Int32)) hx hb dX3_readAct_25 (by decide) ?_
    replace hv := Option.some.inj hv
    subst hv
    obtain ⟨e1, e2⟩ := y_pr kt
    rw [← e1, ← e2]
    exact z_zret hc hB hr rfl dX3_readAct_26
  · replace hv := y_br_f hv c2
    refine lv_aload_n hx hb dX3_readAct_9 rfl (lv_at hl 1 rfl) ?_
    refine lv_iconst (v := (4 : Int32)) hx hb dX3_readAct_10 (by decide) ?_
    obtain ⟨g15, hv⟩ := y_gd_e hv
    obtain ⟨⟨r10, h14⟩, c9, hv⟩ := y_bi_e hv
    refine z_thI hc hB (z_runV hc hB 6 (mm_X6_fail hSK l ad o1 (4 : Int32) h c9) md_X6_fail qmX3_57 g15 (by decide) rfl rfl rfl ⟨Nat.le_of_ble_eq_true rfl, Nat.le_of_ble_eq_true rfl⟩ rfl hl.1 rfl (Nat.le_of_ble_eq_true rfl) dX3_readAct_11 ⟨Nat.le_of_ble_eq_true rfl, Nat.le_of_ble_eq_true rfl⟩) (fun H locs hB => ?_)
    obtain ⟨y16, hv⟩ := y_gd_e hv
    replace hv := Option.some.inj hv
    subst hv
    obtain ⟨e1, e2⟩ := y_pr kt
    rw [← e1, ← e2]
    exact z_zret hc hB hr (y_b_n y16) dX3_readAct_14
theorem qfX3_83 : Cond.fieldLink RX3 83 "DreamTests$Nights" "asked" "I" ∈ z_ws := List.mem_filter.mpr ⟨List.mem_append_right _ (List.mem_of_getElem? (i := 262) (by decide +kernel)), rfl⟩
theorem qmX3_90 : Cond.methodLink RX3 90 yX6_testHere ∈ z_ws := List.mem_filter.mpr ⟨List.mem_append_right _ (List.mem_of_getElem? (i := 885) (by decide +kernel)), rfl⟩
theorem qfX3_93 : Cond.fieldLink RX3 93 "DreamTests$Word" "STAYS" "LDreamTests$Word;" ∈ z_ws := List.mem_filter.mpr ⟨List.mem_append_right _ (List.mem_of_getElem? (i := 886) (by decide +kernel)), rfl⟩
theorem qmX3_50 : Cond.methodLink RX3 50 yX6_isAt ∈ z_ws := List.mem_filter.mpr ⟨List.mem_append_right _ (List.mem_of_getElem? (i := 857) (by decide +kernel)), rfl⟩
theorem qfX3_96 : Cond.fieldLink RX3 96 "DreamTests$Word" "MOVES" "LDreamTests$Word;" ∈ z_ws := List.mem_filter.mpr ⟨List.mem_append_right _ (List.mem_of_getElem? (i := 888) (by decide +kernel)), rfl⟩
theorem dX3_readAnswer_0 : decode cX3_readAnswer 0 = .ok (.aload_n 1, 1) := by decide +kernel
theorem dX3_readAnswer_1 : decode cX3_readAnswer 1 = .ok (.aload_n 2, 1) := by decide +kernel
theorem dX3_readAnswer_2 : decode cX3_readAnswer 2 = .ok (.invokevirtual 90, 3) := by decide +kernel
theorem dX3_readAnswer_5 : decode cX3_readAnswer 5 = .ok (.istore_n 3, 1) := by decide +kernel
theorem dX3_readAnswer_6 : decode cX3_readAnswer 6 = .ok (.iload_n 3, 1) := by decide +kernel
theorem dX3_readAnswer_7 : decode cX3_readAnswer 7 = .ok (.iconst (-1), 1) := by decide +kernel
theorem dX3_readAnswer_8 : decode cX3_readAnswer 8 = .ok (.if_icmp .ne 5, 3) := by decide +kernel
theorem dX3_readAnswer_11 : decode cX3_readAnswer 11 = .ok (.iconst 0, 1) := by decide +kernel
theorem dX3_readAnswer_12 : decode cX3_readAnswer 12 = .ok (.ireturn, 1) := by decide +kernel
theorem dX3_readAnswer_13 : decode cX3_readAnswer 13 = .ok (.aload_n 0, 1) := by decide +kernel
theorem dX3_readAnswer_14 : decode cX3_readAnswer 14 = .ok (.getfield 28, 3) := by decide +kernel
theorem dX3_readAnswer_17 : decode cX3_readAnswer 17 = .ok (.bipush 40, 2) := by decide +kernel
theorem dX3_readAnswer_19 : decode cX3_readAnswer 19 = .ok (.if_icmp .ge 12, 3) := by decide +kernel
theorem dX3_readAnswer_22 : decode cX3_readAnswer 22 = .ok (.aload_n 0, 1) := by decide +kernel
theorem dX3_readAnswer_23 : decode cX3_readAnswer 23 = .ok (.getfield 83, 3) := by decide +kernel
theorem dX3_readAnswer_26 : decode cX3_readAnswer 26 = .ok (.bipush 12, 2) := by decide +kernel
theorem dX3_readAnswer_28 : decode cX3_readAnswer 28 = .ok (.if_icmp .lt 9, 3) := by decide +kernel
theorem dX3_readAnswer_31 : decode cX3_readAnswer 31 = .ok (.aload_n 1, 1) := by decide +kernel
theorem dX3_readAnswer_32 : decode cX3_readAnswer 32 = .ok (.iconst 4, 1) := by decide +kernel
theorem dX3_readAnswer_33 : decode cX3_readAnswer 33 = .ok (.invokevirtual 57, 3) := by decide +kernel
theorem dX3_readAnswer_36 : decode cX3_readAnswer 36 = .ok (.ireturn, 1) := by decide +kernel
theorem dX3_readAnswer_37 : decode cX3_readAnswer 37 = .ok (.aload_n 1, 1) := by decide +kernel
theorem dX3_readAnswer_38 : decode cX3_readAnswer 38 = .ok (.invokevirtual 73, 3) := by decide +kernel
theorem dX3_readAnswer_41 : decode cX3_readAnswer 41 = .ok (.aload_n 1, 1) := by decide +kernel
theorem dX3_readAnswer_42 : decode cX3_readAnswer 42 = .ok (.getstatic 93, 3) := by decide +kernel
theorem dX3_readAnswer_45 : decode cX3_readAnswer 45 = .ok (.invokevirtual 50, 3) := by decide +kernel
theorem dX3_readAnswer_48 : decode cX3_readAnswer 48 = .ok (.istore 4, 2) := by decide +kernel
theorem dX3_readAnswer_50 : decode cX3_readAnswer 50 = .ok (.iload 4, 2) := by decide +kernel
theorem dX3_readAnswer_52 : decode cX3_readAnswer 52 = .ok (.ifCond .ne 19, 3) := by decide +kernel
theorem dX3_readAnswer_55 : decode cX3_readAnswer 55 = .ok (.aload_n 1, 1) := by decide +kernel
theorem dX3_readAnswer_56 : decode cX3_readAnswer 56 = .ok (.getstatic 96, 3) := by decide +kernel
theorem dX3_readAnswer_59 : decode cX3_readAnswer 59 = .ok (.invokevirtual 50, 3) := by decide +kernel
theorem dX3_readAnswer_62 : decode cX3_readAnswer 62 = .ok (.ifCond .ne 9, 3) := by decide +kernel
theorem dX3_readAnswer_65 : decode cX3_readAnswer 65 = .ok (.aload_n 1, 1) := by decide +kernel
theorem dX3_readAnswer_66 : decode cX3_readAnswer 66 = .ok (.iconst 1, 1) := by decide +kernel
theorem dX3_readAnswer_67 : decode cX3_readAnswer 67 = .ok (.invokevirtual 57, 3) := by decide +kernel
theorem dX3_readAnswer_70 : decode cX3_readAnswer 70 = .ok (.ireturn, 1) := by decide +kernel
theorem dX3_readAnswer_71 : decode cX3_readAnswer 71 = .ok (.aload_n 1, 1) := by decide +kernel
theorem dX3_readAnswer_72 : decode cX3_readAnswer 72 = .ok (.invokevirtual 73, 3) := by decide +kernel
theorem dX3_readAnswer_75 : decode cX3_readAnswer 75 = .ok (.aload_n 0, 1) := by decide +kernel
theorem dX3_readAnswer_76 : decode cX3_readAnswer 76 = .ok (.dup, 1) := by decide +kernel
theorem dX3_readAnswer_77 : decode cX3_readAnswer 77 = .ok (.getfield 83, 3) := by decide +kernel
theorem dX3_readAnswer_80 : decode cX3_readAnswer 80 = .ok (.iconst 1, 1) := by decide +kernel
theorem dX3_readAnswer_81 : decode cX3_readAnswer 81 = .ok (.iadd, 1) := by decide +kernel
theorem dX3_readAnswer_82 : decode cX3_readAnswer 82 = .ok (.putfield 83, 3) := by decide +kernel
theorem dX3_readAnswer_85 : decode cX3_readAnswer 85 = .ok (.aload_n 0, 1) := by decide +kernel
theorem dX3_readAnswer_86 : decode cX3_readAnswer 86 = .ok (.iconst 1, 1) := by decide +kernel
theorem dX3_readAnswer_87 : decode cX3_readAnswer 87 = .ok (.iconst 2, 1) := by decide +kernel
theorem dX3_readAnswer_88 : decode cX3_readAnswer 88 = .ok (.iload_n 3, 1) := by decide +kernel
theorem dX3_readAnswer_89 : decode cX3_readAnswer 89 = .ok (.imul, 1) := by decide +kernel
theorem dX3_readAnswer_90 : decode cX3_readAnswer 90 = .ok (.iload 4, 2) := by decide +kernel
theorem dX3_readAnswer_92 : decode cX3_readAnswer 92 = .ok (.ifCond .eq 7, 3) := by decide +kernel
theorem dX3_readAnswer_95 : decode cX3_readAnswer 95 = .ok (.iconst 1, 1) := by decide +kernel
theorem dX3_readAnswer_96 : decode cX3_readAnswer 96 = .ok (.goto 4, 3) := by decide +kernel
theorem dX3_readAnswer_99 : decode cX3_readAnswer 99 = .ok (.iconst 0, 1) := by decide +kernel
theorem dX3_readAnswer_100 : decode cX3_readAnswer 100 = .ok (.iadd, 1) := by decide +kernel
theorem dX3_readAnswer_101 : decode cX3_readAnswer 101 = .ok (.invokevirtual 86, 3) := by decide +kernel
theorem dX3_readAnswer_104 : decode cX3_readAnswer 104 = .ok (.iconst 1, 1) := by decide +kernel
theorem dX3_readAnswer_105 : decode cX3_readAnswer 105 = .ok (.ireturn, 1) := by decide +kernel
abbrev rm_X3_readAnswer : Room := { frames := 3, cells := 0, slots := 0, locals := 69 }
noncomputable def fX3_readAnswer_b31 (o1 : Nat) (h : z_T) : Option (Int32 × z_T) :=
  y_gd (z_ok h o1 6) <|
  y_bi (fX6_fail o1 (4 : Int32) h) fun ⟨r2, h6⟩ =>
  y_gd (y_b r2) <|
  some (r2, h6)
noncomputable def fX3_readAnswer_b100 (s0 : Nat) (s1 : Int32) (s2 : Int32) (s3 : Int32) (h : z_T) : Option (Int32 × z_T) :=
  y_gd (z_ok h s0 3) <|
  y_bi (fX3_put s0 s1 (s2 + s3) h) fun h10 =>
  some ((1 : Int32), h10)
noncomputable def fX3_readAnswer_b71 (o0 : Nat) (o1 : Nat) (x3 : Int32) (x4 : Int32) (h : z_T) : Option (Int32 × z_T) :=
  y_gd (z_ok h o1 6) <|
  y_bi (fX6_advance o1 h) fun h13 =>
  y_gd (z_ok h13 o0 3) <|
  y_nm (z_sI h13 o0 3 ((z_I h13 o0 3) + (1 : Int32))) fun h16 =>
  y_br (x4 = 0)
    (fX3_readAnswer_b100 o0 (1 : Int32) ((2 : Int32) * x3) (0 : Int32) h16)
    (fX3_readAnswer_b100 o0 (1 : Int32) ((2 : Int32) * x3) (1 : Int32) h16)
noncomputable def fX3_readAnswer (o0 : Nat) (o1 : Nat) (o2 : Nat) (h : z_T) : Option (Int32 × z_T) :=
  y_gd (z_ok h o1 6) <|
  y_bi (fX6_testHere o1 o2 h) fun ⟨r19, h23⟩ =>
  y_br (r19 = (-1 : Int32))
    (some ((0 : Int32), h23))
    (y_gd (z_ok h23 o0 3) <|
    y_br ((40 : Int32) ≤ (z_I h23 o0 2))
      (fX3_readAnswer_b31 o1 h23)
      (y_br ((z_I h23 o0 3) < (12 : Int32))
        (y_gd (z_ok h23 o1 6) <|
        y_bi (fX6_advance o1 h23) fun h30 =>
        y_gd (z_ok h30 o1 6) <|
        y_bi (fX6_isAt o1 10 h30) fun r33 =>
        y_br (r33 = 0)
          (y_bi (fX6_isAt o1 11 h30) fun r40 =>
          y_br (r40 = 0)
            (y_bi (fX6_fail o1 (1 : Int32) h30) fun ⟨r46, h50⟩ =>
            y_gd (y_b r46) <|
            some (r46, h50))
            (fX3_readAnswer_b71 o0 o1 r19 r33 h30))
          (fX3_readAnswer_b71 o0 o1 r19 r33 h30))
        (fX3_readAnswer_b31 o1 h23)))
set_option maxHeartbeats 4000000 in
set_option maxRecDepth 100000 in
theorem mm_X3_readAnswer {G : z_Gt} (hSK : z_SK (z_S G)) (l : Launch) (ad : Nat → Nat) (o0 : Nat) (o1 : Nat) (o2 : Nat) (h : z_T) {r0 : Int32} {h9 : z_T} (hv : fX3_readAnswer o0 o1 o2 h = some (r0, h9)) : z_Mi G (z_S G) l yX3_readAnswer cX3_readAnswer 5 (.boolean) rm_X3_readAnswer 0 0 [.ref (ad o0), .ref (ad o1), .ref (ad o2)] ad h h9 r0 := by
  refine z_ofW hSK (by decide) (Nat.le_of_ble_eq_true rfl) ?_
  intro p e s m args below meth c ls hc hr hnm hB hl
  have hx := hc.1.1
  have hb := hc.1.2.1
  have hown := hc.1.2.2.2.1
  have hts := hc.1.2.2.2.2
  replace hc : z_C G (z_S G) ad (z_n h) p m c cX3_readAnswer 5 s args RX3 meth := hc
  replace hown : s.vm.findClass RX3 = some m.cls := hown
  replace hl : lv_has ls 5 [(0, .ref (ad o0)), (1, .ref (ad o1)), (2, .ref (ad o2))] := hl
  show W p l e rm_X3_readAnswer s m args below meth c s.heap [] 0 0 (MQ below (z_Qi G ad h9 (z_n h) s.heap.size r0) args s 0 0 (z_A ad (z_n h) s.heap.size)) (F0 m 0 ls [])
  obtain ⟨rs, kt⟩ : ∃ rs : Int32 × z_T, rs = (r0, h9) := ⟨_, rfl⟩
  generalize hn0 : z_n h = n0 at hc hB ⊢
  have b31 : ∀ (h : z_T) (H : Heap) (locs : List Loc) (ls : Array Slot), z_B G ad n0 s h H locs → lv_has ls 5 [(1, .ref (ad o1))] → ∀ w, fX3_readAnswer_b31 o1 h = some w → w = (r0, h9) → W p l e rm_X3_readAnswer s m args below meth c H locs 0 0 (MQ below (z_Qi G ad h9 n0 s.heap.size r0) args s 0 0 (z_A ad n0 s.heap.size)) (F0 m 31 ls []) := by
    intro h H locs ls hB hl w hv kb
    refine lv_aload_n hx hb dX3_readAnswer_31 rfl (lv_at hl 0 rfl) ?_
    refine lv_iconst (v := (4 : Int32)) hx hb dX3_readAnswer_32 (by decide) ?_
    obtain ⟨g7, hv⟩ := y_gd_e hv
    obtain ⟨⟨r2, h6⟩, c1, hv⟩ := y_bi_e hv
    refine z_thI hc hB (z_runV hc hB 6 (mm_X6_fail hSK l ad o1 (4 : Int32) h c1) md_X6_fail qmX3_57 g7 (by decide) rfl rfl rfl ⟨Nat.le_of_ble_eq_true rfl, Nat.le_of_ble_eq_true rfl⟩ rfl hl.1 rfl (Nat.le_of_ble_eq_true rfl) dX3_readAnswer_33 ⟨Nat.le_of_ble_eq_true rfl, Nat.le_of_ble_eq_true rfl⟩) (fun H locs hB => ?_)
    obtain ⟨y8, hv⟩ := y_gd_e hv
    replace hv := Option.some.inj hv
    subst hv
    obtain ⟨e1, e2⟩ := y_pr kb
    rw [← e1, ← e2]
    exact z_zret hc hB hr (y_b_n y8) dX3_readAnswer_36
  have b100 : ∀ (s0 : Nat) (s1 : Int32) (s2 : Int32) (s3 : Int32) (h : z_T) (H : Heap) (locs : List Loc) (ls : Array Slot), z_B G ad n0 s h H locs → lv_has ls 5 [] → ∀ w, fX3_readAnswer_b100 s0 s1 s2 s3 h = some w → w = (r0, h9) → W p l e rm_X3_readAnswer s m args below meth c H locs 0 0 (MQ below (z_Qi G ad h9 n0 s.heap.size r0) args s 0 0 (z_A ad n0 s.heap.size)) (F0 m 100 ls [.int s3, .int s2, .int s1, .ref (ad s0)]) := by
    intro s0 s1 s2 s3 h H locs ls hB hl w hv kb
    refine lv_iadd hx hb dX3_readAnswer_100 ?_
    obtain ⟨g11, hv⟩ := y_gd_e hv
    obtain ⟨h10, c9, hv⟩ := y_bi_e hv
    refine z_thV hc hB (z_runV hc hB 3 (mm_X3_put hSK l ad s0 s1 (s2 + s3) h c9) md_X3_put qmX3_86 g11 (by decide) rfl rfl rfl ⟨Nat.le_of_ble_eq_true rfl, Nat.le_of_ble_eq_true rfl⟩ rfl hl.1 rfl (Nat.le_of_ble_eq_true rfl) dX3_readAnswer_101 ⟨Nat.le_of_ble_eq_true rfl, Nat.le_of_ble_eq_true rfl⟩) (fun H locs hB => ?_)
    refine lv_iconst (v := (1 : Int32)) hx hb dX3_readAnswer_104 (by decide) ?_
    replace hv := Option.some.inj hv
    subst hv
    obtain ⟨e1, e2⟩ := y_pr kb
    rw [← e1, ← e2]
    exact z_zret hc hB hr rfl dX3_readAnswer_105
  have b71 : ∀ (x3 : Int32) (x4 : Int32) (h : z_T) (H : Heap) (locs : List Loc) (ls : Array Slot), z_B G ad n0 s h H locs → lv_has ls 5 [(0, .ref (ad o0)), (1, .ref (ad o1)), (3, .int x3), (4, .int x4)] → ∀ w, fX3_readAnswer_b71 o0 o1 x3 x4 h = some w → w = (r0, h9) → W p l e rm_X3_readAnswer s m args below meth c H locs 0 0 (MQ below (z_Qi G ad h9 n0 s.heap.size r0) args s 0 0 (z_A ad n0 s.heap.size)) (F0 m 71 ls []) := by
    intro x3 x4 h H locs ls hB hl w hv kb
    refine lv_aload_n hx hb dX3_readAnswer_71 rfl (lv_at hl 1 rfl) ?_
    obtain ⟨g14, hv⟩ := y_gd_e hv
    obtain ⟨h13, c12, hv⟩ := y_bi_e hv
    refine z_thV hc hB (z_runV hc hB 6 (mm_X6_advance hSK l ad o1 h c12) md_X6_advance qmX3_73 g14 (by decide) rfl rfl rfl ⟨Nat.le_of_ble_eq_true rfl, Nat.le_of_ble_eq_true rfl⟩ rfl hl.1 rfl (Nat.le_of_ble_eq_true rfl) dX3_readAnswer_72 ⟨Nat.le_of_ble_eq_true rfl, Nat.le_of_ble_eq_true rfl⟩) (fun H locs hB => ?_)
    refine lv_aload_n hx hb dX3_readAnswer_75 rfl (lv_at hl 0 rfl) ?_
    refine lv_dup hx hb dX3_readAnswer_76 rfl ?_
    obtain ⟨g15, hv⟩ := y_gd_e hv
    refine z_getI hc hB 3 3 g15 (by decide) (by decide) rfl (z_l1 hc qfX3_83) dX3_readAnswer_77 ?_
    refine lv_iconst (v := (1 : Int32)) hx hb dX3_readAnswer_80 (by decide) ?_
    refine lv_iadd hx hb dX3_readAnswer_81 ?_
    obtain ⟨h16, eh16, hv⟩ := y_nm_e hv
    refine y_putI hc hB 3 3 eh16 g15 (z_l1 hc qfX3_83) dX3_readAnswer_82 (by decide) (by decide) rfl rfl rfl rfl (fun H locs hB => ?_)
    refine lv_aload_n hx hb dX3_readAnswer_85 rfl (lv_at hl 0 rfl) ?_
    refine lv_iconst (v := (1 : Int32)) hx hb dX3_readAnswer_86 (by decide) ?_
    refine lv_iconst (v := (2 : Int32)) hx hb dX3_readAnswer_87 (by decide) ?_
    refine lv_iload_n hx hb dX3_readAnswer_88 rfl (lv_at hl 2 rfl) ?_
    refine lv_imul hx hb dX3_readAnswer_89 ?_
    refine lv_iload hx hb dX3_readAnswer_90 (lv_at hl 3 rfl) ?_
    refine lv_if_eq (tgt := 99) hx hb dX3_readAnswer_92 (by decide) (fun c17 => ?_) (fun c17 => ?_)
    · replace hv := y_br_t hv c17
      refine lv_iconst (v := (0 : Int32)) hx hb dX3_readAnswer_99 (by decide) ?_
      exact b100 o0 (1 : Int32) ((2 : Int32) * x3) (0 : Int32) h16 _ _ _ hB (lv_sub hl [] rfl) _ hv kb
    · replace hv := y_br_f hv c17
      refine lv_iconst (v := (1 : Int32)) hx hb dX3_readAnswer_95 (by decide) ?_
      refine lv_goto (tgt := 100) hx hb dX3_readAnswer_96 (by decide) ?_
      exact b100 o0 (1 : Int32) ((2 : Int32) * x3) (1 : Int32) h16 _ _ _ hB (lv_sub hl [] rfl) _ hv kb
  rw [← kt] at hv
  refine lv_aload_n hx hb dX3_readAnswer_0 rfl (lv_at hl 1 rfl) ?_
  refine lv_aload_n hx hb dX3_readAnswer_1 rfl (lv_at hl 2 rfl) ?_
  obtain ⟨g24, hv⟩ := y_gd_e hv
  obtain ⟨⟨r19, h23⟩, c18, hv⟩ := y_bi_e hv
  refine z_thI hc hB (z_runV hc hB 6 (mm_X6_testHere hSK l ad o1 o2 h c18) md_X6_testHere qmX3_90 g24 (by decide) rfl rfl rfl ⟨Nat.le_of_ble_eq_true rfl, Nat.le_of_ble_eq_true rfl⟩ rfl hl.1 rfl (Nat.le_of_ble_eq_true rfl) dX3_readAnswer_2 ⟨Nat.le_of_ble_eq_true rfl, Nat.le_of_ble_eq_true rfl⟩) (fun H locs hB => ?_)
  refine lv_istore_n (lv' := [(3, .int r19), (0, .ref (ad o0)), (1, .ref (ad o1)), (2, .ref (ad o2))]) hx hb dX3_readAnswer_5 rfl hl (by decide) rfl (fun ls hl => ?_)
  refine lv_iload_n hx hb dX3_readAnswer_6 rfl (lv_at hl 0 rfl) ?_
  refine lv_iconst (v := (-1 : Int32)) hx hb dX3_readAnswer_7 (by decide) ?_
  refine lv_icmp_ne (tgt := 13) hx hb dX3_readAnswer_8 (by decide) (fun c25 => ?_) (fun c25 => ?_)
  · replace hv := y_br_f hv c25
    refine lv_aload_n hx hb dX3_readAnswer_13 rfl (lv_at hl 1 rfl) ?_
    obtain ⟨g26, hv⟩ := y_gd_e hv
    refine z_getI hc hB 3 2 g26 (by decide) (by decide) rfl (z_l1 hc qfX3_28) dX3_readAnswer_14 ?_
    refine lv_bipush (v := (40 : Int32)) hx hb dX3_readAnswer_17 (by decide) ?_
    refine lv_icmp_ge (tgt := 31) hx hb dX3_readAnswer_19 (by decide) (fun c27 => ?_) (fun c27 => ?_)
    · replace hv := y_br_t hv c27
      exact b31 h23 _ _ _ hB (lv_sub hl [2] rfl) _ hv kt
    · replace hv := y_br_f hv c27
      refine lv_aload_n hx hb dX3_readAnswer_22 rfl (lv_at hl 1 rfl) ?_
      refine z_getI hc hB 3 3 g26 (by decide) (by decide) rfl (z_l1 hc qfX3_83) dX3_readAnswer_23 ?_
      refine lv_bipush (v := (12 : Int32)) hx hb dX3_readAnswer_26 (by decide) ?_
      refine lv_icmp_lt (tgt := 37) hx hb dX3_readAnswer_28 (by decide) (fun c28 => ?_) (fun c28 => ?_)
      · replace hv := y_br_t hv c28
        refine lv_aload_n hx hb dX3_readAnswer_37 rfl (lv_at hl 2 rfl) ?_
        obtain ⟨g31, hv⟩ := y_gd_e hv
        obtain ⟨h30, c29, hv⟩ := y_bi_e hv
        refine z_thV hc hB (z_runV hc hB 6 (mm_X6_advance hSK l ad o1 h23 c29) md_X6_advance qmX3_73 g31 (by decide) rfl rfl rfl ⟨Nat.le_of_ble_eq_true rfl, Nat.le_of_ble_eq_true rfl⟩ rfl hl.1 rfl (Nat.le_of_ble_eq_true rfl) dX3_readAnswer_38 ⟨Nat.le_of_ble_eq_true rfl, Nat.le_of_ble_eq_true rfl⟩) (fun H locs hB => ?_)
        refine lv_aload_n hx hb dX3_readAnswer_41 rfl (lv_at hl 2 rfl) ?_
        refine z_gets hc hB (hc.2.1.2.2.2.1.1 10 (by decide)) qfX3_93 dX3_readAnswer_42 ?_
        obtain ⟨g37, hv⟩ := y_gd_e hv
        obtain ⟨r33, c32, hv⟩ := y_bi_e hv
        refine z_thI hc hB (z_runV hc hB 6 (mm_X6_isAt hSK l ad o1 10 h30 c32) md_X6_isAt qmX3_50 g37 (by decide) rfl rfl rfl ⟨Nat.le_of_ble_eq_true rfl, Nat.le_of_ble_eq_true rfl⟩ rfl hl.1 rfl (Nat.le_of_ble_eq_true rfl) dX3_readAnswer_45 ⟨Nat.le_of_ble_eq_true rfl, Nat.le_of_ble_eq_true rfl⟩) (fun H locs hB => ?_)
        refine lv_istore (lv' := [(4, .int r33), (3, .int r19), (0, .ref (ad o0)), (1, .ref (ad o1)), (2, .ref (ad o2))]) hx hb dX3_readAnswer_48 hl (by decide) rfl (fun ls hl => ?_)
        refine lv_iload hx hb dX3_readAnswer_50 (lv_at hl 0 rfl) ?_
        refine lv_if_ne (tgt := 71) hx hb dX3_readAnswer_52 (by decide) (fun c38 => ?_) (fun c38 => ?_)
        · replace hv := y_br_f hv c38
          exact b71 r19 r33 h30 _ _ _ hB (lv_sub hl [2, 3, 1, 0] rfl) _ hv kt
        · replace hv := y_br_t hv c38
          refine lv_aload_n hx hb dX3_readAnswer_55 rfl (lv_at hl 3 rfl) ?_
          refine z_gets hc hB (hc.2.1.2.2.2.1.1 11 (by decide)) qfX3_96 dX3_readAnswer_56 ?_
          obtain ⟨r40, c39, hv⟩ := y_bi_e hv
          refine z_thI hc hB (z_runV hc hB 6 (mm_X6_isAt hSK l ad o1 11 h30 c39) md_X6_isAt qmX3_50 g37 (by decide) rfl rfl rfl ⟨Nat.le_of_ble_eq_true rfl, Nat.le_of_ble_eq_true rfl⟩ rfl hl.1 rfl (Nat.le_of_ble_eq_true rfl) dX3_readAnswer_59 ⟨Nat.le_of_ble_eq_true rfl, Nat.le_of_ble_eq_true rfl⟩) (fun H locs hB => ?_)
          refine lv_if_ne (tgt := 71) hx hb dX3_readAnswer_62 (by decide) (fun c44 => ?_) (fun c44 => ?_)
          · replace hv := y_br_f hv c44
            exact b71 r19 r33 h30 _ _ _ hB (lv_sub hl [2, 3, 1, 0] rfl) _ hv kt
          · replace hv := y_br_t hv c44
            refine lv_aload_n hx hb dX3_readAnswer_65 rfl (lv_at hl 3 rfl) ?_
            refine lv_iconst (v := (1 : Int32)) hx hb dX3_readAnswer_66 (by decide) ?_
            obtain ⟨⟨r46, h50⟩, c45, hv⟩ := y_bi_e hv
            refine z_thI hc hB (z_runV hc hB 6 (mm_X6_fail hSK l ad o1 (1 : Int32) h30 c45) md_X6_fail qmX3_57 g37 (by decide) rfl rfl rfl ⟨Nat.le_of_ble_eq_true rfl, Nat.le_of_ble_eq_true rfl⟩ rfl hl.1 rfl (Nat.le_of_ble_eq_true rfl) dX3_readAnswer_67 ⟨Nat.le_of_ble_eq_true rfl, Nat.le_of_ble_eq_true rfl⟩) (fun H locs hB => ?_)
            obtain ⟨y51, hv⟩ := y_gd_e hv
            replace hv := Option.some.inj hv
            subst hv
            obtain ⟨e1, e2⟩ := y_pr kt
            rw [← e1, ← e2]
            exact z_zret hc hB hr (y_b_n y51) dX3_readAnswer_70
      · replace hv := y_br_f hv c28
        exact b31 h23 _ _ _ hB (lv_sub hl [2] rfl) _ hv kt
  · replace hv := y_br_t hv c25
    refine lv_iconst (v := (0 : Int32)) hx hb dX3_readAnswer_11 (by decide) ?_
    replace hv := Option.some.inj hv
    subst hv
    obtain ⟨e1, e2⟩ := y_pr kt
    rw [← e1, ← e2]
    exact z_zret hc hB hr rfl dX3_readAnswer_12
theorem qmX6_106 : Cond.methodLink RX6 106 yX0_dreamNamed ∈ z_ws := List.mem_filter.mpr ⟨List.mem_append_right _ (List.mem_of_getElem? (i := 870) (by decide +kernel)), rfl⟩
theorem dX6_dreamHere_0 : decode cX6_dreamHere 0 = .ok (.aload_n 1, 1) := by decide +kernel
theorem dX6_dreamHere_1 : decode cX6_dreamHere 1 = .ok (.aload_n 0, 1) := by decide +kernel
theorem dX6_dreamHere_2 : decode cX6_dreamHere 2 = .ok (.getfield 53, 3) := by decide +kernel
theorem dX6_dreamHere_5 : decode cX6_dreamHere 5 = .ok (.invokevirtual 106, 3) := by decide +kernel
theorem dX6_dreamHere_8 : decode cX6_dreamHere 8 = .ok (.istore_n 2, 1) := by decide +kernel
theorem dX6_dreamHere_9 : decode cX6_dreamHere 9 = .ok (.aload_n 0, 1) := by decide +kernel
theorem dX6_dreamHere_10 : decode cX6_dreamHere 10 = .ok (.invokevirtual 102, 3) := by decide +kernel
theorem dX6_dreamHere_13 : decode cX6_dreamHere 13 = .ok (.ifCond .ne 11, 3) := by decide +kernel
theorem dX6_dreamHere_16 : decode cX6_dreamHere 16 = .ok (.aload_n 0, 1) := by decide +kernel
theorem dX6_dreamHere_17 : decode cX6_dreamHere 17 = .ok (.iconst 1, 1) := by decide +kernel
theorem dX6_dreamHere_18 : decode cX6_dreamHere 18 = .ok (.invokevirtual 93, 3) := by decide +kernel
theorem dX6_dreamHere_21 : decode cX6_dreamHere 21 = .ok (.pop, 1) := by decide +kernel
theorem dX6_dreamHere_22 : decode cX6_dreamHere 22 = .ok (.iconst (-1), 1) := by decide +kernel
theorem dX6_dreamHere_23 : decode cX6_dreamHere 23 = .ok (.ireturn, 1) := by decide +kernel
theorem dX6_dreamHere_24 : decode cX6_dreamHere 24 = .ok (.iload_n 2, 1) := by decide +kernel
theorem dX6_dreamHere_25 : decode cX6_dreamHere 25 = .ok (.iconst (-1), 1) := by decide +kernel
theorem dX6_dreamHere_26 : decode cX6_dreamHere 26 = .ok (.if_icmp .ne 9, 3) := by decide +kernel
theorem dX6_dreamHere_29 : decode cX6_dreamHere 29 = .ok (.aload_n 0, 1) := by decide +kernel
theorem dX6_dreamHere_30 : decode cX6_dreamHere 30 = .ok (.iconst 3, 1) := by decide +kernel
theorem dX6_dreamHere_31 : decode cX6_dreamHere 31 = .ok (.invokevirtual 93, 3) := by decide +kernel
theorem dX6_dreamHere_34 : decode cX6_dreamHere 34 = .ok (.pop, 1) := by decide +kernel
theorem dX6_dreamHere_35 : decode cX6_dreamHere 35 = .ok (.iload_n 2, 1) := by decide +kernel
theorem dX6_dreamHere_36 : decode cX6_dreamHere 36 = .ok (.ireturn, 1) := by decide +kernel
abbrev rm_X6_dreamHere : Room := { frames := 2, cells := 0, slots := 0, locals := 41 }
noncomputable def fX6_dreamHere (o0 : Nat) (o1 : Nat) (h : z_T) : Option (Int32 × z_T) :=
  y_gd (z_ok h o0 6) <|
  y_gd (z_ok h o1 0) <|
  y_bi (fX0_dreamNamed o1 (z_L h o0 6) h) fun r3 =>
  y_bi (fX6_isName o0 h) fun r9 =>
  y_br (r9 = 0)
    (y_bi (fX6_fail o0 (1 : Int32) h) fun ⟨r22, h26⟩ =>
    some ((-1 : Int32), h26))
    (y_br (r3 = (-1 : Int32))
      (y_bi (fX6_fail o0 (3 : Int32) h) fun ⟨r16, h20⟩ =>
      some (r3, h20))
      (some (r3, h)))
set_option maxHeartbeats 4000000 in
set_option maxRecDepth 100000 in
theorem mm_X6_dreamHere {G : z_Gt} (hSK : z_SK (z_S G)) (l : Launch) (ad : Nat → Nat) (o0 : Nat) (o1 : Nat) (h : z_T) {r0 : Int32} {h9 : z_T} (hv : fX6_dreamHere o0 o1 h = some (r0, h9)) : z_Mi G (z_S G) l yX6_dreamHere cX6_dreamHere 3 (.int) rm_X6_dreamHere 0 0 [.ref (ad o0), .ref (ad o1)] ad h h9 r0 := by
  refine z_ofW hSK (by decide) (Nat.le_of_ble_eq_true rfl) ?_
  intro p e s m args below meth c ls hc hr hnm hB hl
  have hx := hc.1.1
  have hb := hc.1.2.1
  have hown := hc.1.2.2.2.1
  have hts := hc.1.2.2.2.2
  replace hc : z_C G (z_S G) ad (z_n h) p m c cX6_dreamHere 3 s args RX6 meth := hc
  replace hown : s.vm.findClass RX6 = some m.cls := hown
  replace hl : lv_has ls 3 [(0, .ref (ad o0)), (1, .ref (ad o1))] := hl
  show W p l e rm_X6_dreamHere s m args below meth c s.heap [] 0 0 (MQ below (z_Qi G ad h9 (z_n h) s.heap.size r0) args s 0 0 (z_A ad (z_n h) s.heap.size)) (F0 m 0 ls [])
  obtain ⟨rs, kt⟩ : ∃ rs : Int32 × z_T, rs = (r0, h9) := ⟨_, rfl⟩
  generalize hn0 : z_n h = n0 at hc hB ⊢
  rw [← kt] at hv
  refine lv_aload_n hx hb dX6_dreamHere_0 rfl (lv_at hl 1 rfl) ?_
  refine lv_aload_n hx hb dX6_dreamHere_1 rfl (lv_at hl 0 rfl) ?_
  obtain ⟨g1, hv⟩ := y_gd_e hv
  refine z_getL hc hB 6 6 g1 (by decide) (by decide) rfl (z_l1 hc qfX6_53) dX6_dreamHere_2 ?_
  obtain ⟨g7, hv⟩ := y_gd_e hv
  obtain ⟨r3, c2, hv⟩ := y_bi_e hv
  refine z_thI hc hB (z_runV hc hB 0 (mm_X0_dreamNamed hSK l ad o1 (z_L h o0 6) h c2) md_X0_dreamNamed qmX6_106 g7 (by decide) rfl rfl rfl ⟨Nat.le_of_ble_eq_true rfl, Nat.le_of_ble_eq_true rfl⟩ rfl hl.1 rfl (Nat.le_of_ble_eq_true rfl) dX6_dreamHere_5 ⟨Nat.le_of_ble_eq_true rfl, Nat.le_of_ble_eq_true rfl⟩) (fun H locs hB => ?_)
  refine lv_istore_n (lv' := [(2, .int r3), (0, .ref (ad o0)), (1, .ref (ad o1))]) hx hb dX6_dreamHere_8 rfl hl (by decide) rfl (fun ls hl => ?_)
  refine lv_aload_n hx hb dX6_dreamHere_9 rfl (lv_at hl 1 rfl) ?_
  obtain ⟨r9, c8, hv⟩ := y_bi_e hv
  refine z_thI hc hB (z_runV hc hB 6 (mm_X6_isName hSK l ad o0 h c8) md_X6_isName qmX6_102 g1 (by decide) rfl rfl rfl ⟨Nat.le_of_ble_eq_true rfl, Nat.le_of_ble_eq_true rfl⟩ rfl hl.1 rfl (Nat.le_of_ble_eq_true rfl) dX6_dreamHere_10 ⟨Nat.le_of_ble_eq_true rfl, Nat.le_of_ble_eq_true rfl⟩) (fun H locs hB => ?_)
  refine lv_if_ne (tgt := 24) hx hb dX6_dreamHere_13 (by decide) (fun c13 => ?_) (fun c13 => ?_)
  · replace hv := y_br_f hv c13
    refine lv_iload_n hx hb dX6_dreamHere_24 rfl (lv_at hl 0 rfl) ?_
    refine lv_iconst (v := (-1 : Int32)) hx hb dX6_dreamHere_25 (by decide) ?_
    refine lv_icmp_ne (tgt := 35) hx hb dX6_dreamHere_26 (by decide) (fun c14 => ?_) (fun c14 => ?_)
    · replace hv := y_br_f hv c14
      refine lv_iload_n hx hb dX6_dreamHere_35 rfl (lv_at hl 0 rfl) ?_
      replace hv := Option.some.inj hv
      subst hv
      obtain ⟨e1, e2⟩ := y_pr kt
      rw [← e1, ← e2]
      exact z_iret hc hB hr dX6_dreamHere_36
    · replace hv := y_br_t hv c14
      refine lv_aload_n hx hb dX6_dreamHere_29 rfl (lv_at hl 1 rfl) ?_
      refine lv_iconst (v := (3 : Int32)) hx hb dX6_dreamHere_30 (by decide) ?_
      obtain ⟨⟨r16, h20⟩, c15, hv⟩ := y_bi_e hv
      refine z_thI hc hB (z_runV hc hB 6 (mm_X6_fail hSK l ad o0 (3 : Int32) h c15) md_X6_fail qmX6_93 g1 (by decide) rfl rfl rfl ⟨Nat.le_of_ble_eq_true rfl, Nat.le_of_ble_eq_true rfl⟩ rfl hl.1 rfl (Nat.le_of_ble_eq_true rfl) dX6_dreamHere_31 ⟨Nat.le_of_ble_eq_true rfl, Nat.le_of_ble_eq_true rfl⟩) (fun H locs hB => ?_)
      refine lv_pop hx hb dX6_dreamHere_34 rfl ?_
      refine lv_iload_n hx hb dX6_dreamHere_35 rfl (lv_at hl 0 rfl) ?_
      replace hv := Option.some.inj hv
      subst hv
      obtain ⟨e1, e2⟩ := y_pr kt
      rw [← e1, ← e2]
      exact z_iret hc hB hr dX6_dreamHere_36
  · replace hv := y_br_t hv c13
    refine lv_aload_n hx hb dX6_dreamHere_16 rfl (lv_at hl 1 rfl) ?_
    refine lv_iconst (v := (1 : Int32)) hx hb dX6_dreamHere_17 (by decide) ?_
    obtain ⟨⟨r22, h26⟩, c21, hv⟩ := y_bi_e hv
    refine z_thI hc hB (z_runV hc hB 6 (mm_X6_fail hSK l ad o0 (1 : Int32) h c21) md_X6_fail qmX6_93 g1 (by decide) rfl rfl rfl ⟨Nat.le_of_ble_eq_true rfl, Nat.le_of_ble_eq_true rfl⟩ rfl hl.1 rfl (Nat.le_of_ble_eq_true rfl) dX6_dreamHere_18 ⟨Nat.le_of_ble_eq_true rfl, Nat.le_of_ble_eq_true rfl⟩) (fun H locs hB => ?_)
    refine lv_pop hx hb dX6_dreamHere_21 rfl ?_
    refine lv_iconst (v := (-1 : Int32)) hx hb dX6_dreamHere_22 (by decide) ?_
    replace hv := Option.some.inj hv
    subst hv
    obtain ⟨e1, e2⟩ := y_pr kt
    rw [← e1, ← e2]
    exact z_iret hc hB hr dX6_dreamHere_23
theorem qfX3_76 : Cond.fieldLink RX3 76 "DreamTests$Word" "ROOM" "LDreamTests$Word;" ∈ z_ws := List.mem_filter.mpr ⟨List.mem_append_right _ (List.mem_of_getElem? (i := 864) (by decide +kernel)), rfl⟩
theorem qmX3_79 : Cond.methodLink RX3 79 yX6_dreamHere ∈ z_ws := List.mem_filter.mpr ⟨List.mem_append_right _ (List.mem_of_getElem? (i := 866) (by decide +kernel)), rfl⟩
theorem qc_X6_dreamHere : Cond.code yX6_dreamHere cX6_dreamHere 3 (some .int) ∈ z_ws := List.mem_filter.mpr ⟨List.mem_append_right _ (List.mem_of_getElem? (i := 869) (by decide +kernel)), rfl⟩
theorem qi_X6_dreamHere : Cond.instanceMethod yX6_dreamHere ∈ z_ws := List.mem_filter.mpr ⟨List.mem_append_right _ (List.mem_of_getElem? (i := 867) (by decide +kernel)), rfl⟩
theorem qs_X6_dreamHere : Cond.selects RX6 yX6_dreamHere yX6_dreamHere ∈ z_ws := List.mem_filter.mpr ⟨List.mem_append_right _ (List.mem_of_getElem? (i := 868) (by decide +kernel)), rfl⟩
theorem md_X6_dreamHere : z_mdV yX6_dreamHere cX6_dreamHere 3 (some .int) 1 := ⟨⟨qn_RX6, qc_X6_dreamHere, ⟨by decide +kernel, by decide +kernel, by decide +kernel⟩⟩, qi_X6_dreamHere, qs_X6_dreamHere⟩
theorem dX3_readIn_0 : decode cX3_readIn 0 = .ok (.aload_n 0, 1) := by decide +kernel
theorem dX3_readIn_1 : decode cX3_readIn 1 = .ok (.getfield 28, 3) := by decide +kernel
theorem dX3_readIn_4 : decode cX3_readIn 4 = .ok (.bipush 40, 2) := by decide +kernel
theorem dX3_readIn_6 : decode cX3_readIn 6 = .ok (.if_icmp .lt 9, 3) := by decide +kernel
theorem dX3_readIn_9 : decode cX3_readIn 9 = .ok (.aload_n 1, 1) := by decide +kernel
theorem dX3_readIn_10 : decode cX3_readIn 10 = .ok (.iconst 4, 1) := by decide +kernel
theorem dX3_readIn_11 : decode cX3_readIn 11 = .ok (.invokevirtual 57, 3) := by decide +kernel
theorem dX3_readIn_14 : decode cX3_readIn 14 = .ok (.ireturn, 1) := by decide +kernel
theorem dX3_readIn_15 : decode cX3_readIn 15 = .ok (.aload_n 1, 1) := by decide +kernel
theorem dX3_readIn_16 : decode cX3_readIn 16 = .ok (.invokevirtual 73, 3) := by decide +kernel
theorem dX3_readIn_19 : decode cX3_readIn 19 = .ok (.iconst 0, 1) := by decide +kernel
theorem dX3_readIn_20 : decode cX3_readIn 20 = .ok (.istore_n 3, 1) := by decide +kernel
theorem dX3_readIn_21 : decode cX3_readIn 21 = .ok (.aload_n 1, 1) := by decide +kernel
theorem dX3_readIn_22 : decode cX3_readIn 22 = .ok (.getstatic 76, 3) := by decide +kernel
theorem dX3_readIn_25 : decode cX3_readIn 25 = .ok (.invokevirtual 50, 3) := by decide +kernel
theorem dX3_readIn_28 : decode cX3_readIn 28 = .ok (.ifCond .ne 23, 3) := by decide +kernel
theorem dX3_readIn_31 : decode cX3_readIn 31 = .ok (.aload_n 1, 1) := by decide +kernel
theorem dX3_readIn_32 : decode cX3_readIn 32 = .ok (.aload_n 2, 1) := by decide +kernel
theorem dX3_readIn_33 : decode cX3_readIn 33 = .ok (.invokevirtual 79, 3) := by decide +kernel
theorem dX3_readIn_36 : decode cX3_readIn 36 = .ok (.istore 4, 2) := by decide +kernel
theorem dX3_readIn_38 : decode cX3_readIn 38 = .ok (.iload 4, 2) := by decide +kernel
theorem dX3_readIn_40 : decode cX3_readIn 40 = .ok (.iconst (-1), 1) := by decide +kernel
theorem dX3_readIn_41 : decode cX3_readIn 41 = .ok (.if_icmp .ne 5, 3) := by decide +kernel
theorem dX3_readIn_44 : decode cX3_readIn 44 = .ok (.iconst 0, 1) := by decide +kernel
theorem dX3_readIn_45 : decode cX3_readIn 45 = .ok (.ireturn, 1) := by decide +kernel
theorem dX3_readIn_46 : decode cX3_readIn 46 = .ok (.iload 4, 2) := by decide +kernel
theorem dX3_readIn_48 : decode cX3_readIn 48 = .ok (.iconst 1, 1) := by decide +kernel
theorem dX3_readIn_49 : decode cX3_readIn 49 = .ok (.iadd, 1) := by decide +kernel
theorem dX3_readIn_50 : decode cX3_readIn 50 = .ok (.istore_n 3, 1) := by decide +kernel
theorem dX3_readIn_51 : decode cX3_readIn 51 = .ok (.aload_n 1, 1) := by decide +kernel
theorem dX3_readIn_52 : decode cX3_readIn 52 = .ok (.invokevirtual 73, 3) := by decide +kernel
theorem dX3_readIn_55 : decode cX3_readIn 55 = .ok (.aload_n 0, 1) := by decide +kernel
theorem dX3_readIn_56 : decode cX3_readIn 56 = .ok (.iconst 0, 1) := by decide +kernel
theorem dX3_readIn_57 : decode cX3_readIn 57 = .ok (.putfield 83, 3) := by decide +kernel
theorem dX3_readIn_60 : decode cX3_readIn 60 = .ok (.aload_n 0, 1) := by decide +kernel
theorem dX3_readIn_61 : decode cX3_readIn 61 = .ok (.iconst 0, 1) := by decide +kernel
theorem dX3_readIn_62 : decode cX3_readIn 62 = .ok (.iload_n 3, 1) := by decide +kernel
theorem dX3_readIn_63 : decode cX3_readIn 63 = .ok (.invokevirtual 86, 3) := by decide +kernel
theorem dX3_readIn_66 : decode cX3_readIn 66 = .ok (.iconst 1, 1) := by decide +kernel
theorem dX3_readIn_67 : decode cX3_readIn 67 = .ok (.ireturn, 1) := by decide +kernel
abbrev rm_X3_readIn : Room := { frames := 3, cells := 0, slots := 0, locals := 69 }
noncomputable def fX3_readIn_b51 (o0 : Nat) (o1 : Nat) (x3 : Int32) (h : z_T) : Option (Int32 × z_T) :=
  y_gd (z_ok h o1 6) <|
  y_bi (fX6_advance o1 h) fun h2 =>
  y_gd (z_ok h2 o0 3) <|
  y_nm (z_sI h2 o0 3 (0 : Int32)) fun h5 =>
  y_bi (fX3_put o0 (0 : Int32) x3 h5) fun h7 =>
  some ((1 : Int32), h7)
noncomputable def fX3_readIn (o0 : Nat) (o1 : Nat) (o2 : Nat) (h : z_T) : Option (Int32 × z_T) :=
  y_gd (z_ok h o0 3) <|
  y_br ((z_I h o0 2) < (40 : Int32))
    (y_gd (z_ok h o1 6) <|
    y_bi (fX6_advance o1 h) fun h11 =>
    y_gd (z_ok h11 o1 6) <|
    y_bi (fX6_isAt o1 3 h11) fun r14 =>
    y_br (r14 = 0)
      (y_bi (fX6_dreamHere o1 o2 h11) fun ⟨r21, h25⟩ =>
      y_br (r21 = (-1 : Int32))
        (some ((0 : Int32), h25))
        (y_nm ((r21 + (1 : Int32))) fun v27 =>
        fX3_readIn_b51 o0 o1 v27 h25))
      (fX3_readIn_b51 o0 o1 (0 : Int32) h11))
    (y_gd (z_ok h o1 6) <|
    y_bi (fX6_fail o1 (4 : Int32) h) fun ⟨r29, h33⟩ =>
    y_gd (y_b r29) <|
    some (r29, h33))
set_option maxHeartbeats 4000000 in
set_option maxRecDepth 100000 in
theorem mm_X3_readIn {G : z_Gt} (hSK : z_SK (z_S G)) (l : Launch) (ad : Nat → Nat) (o0 : Nat) (o1 : Nat) (o2 : Nat) (h : z_T) {r0 : Int32} {h9 : z_T} (hv : fX3_readIn o0 o1 o2 h = some (r0, h9)) : z_Mi G (z_S G) l yX3_readIn cX3_readIn 5 (.boolean) rm_X3_readIn 0 0 [.ref (ad o0), .ref (ad o1), .ref (ad o2)] ad h h9 r0 := by
  refine z_ofW hSK (by decide) (Nat.le_of_ble_eq_true rfl) ?_
  intro p e s m args below meth c ls hc hr hnm hB hl
  have hx := hc.1.1
  have hb := hc.1.2.1
  have hown := hc.1.2.2.2.1
  have hts := hc.1.2.2.2.2
  replace hc : z_C G (z_S G) ad (z_n h) p m c cX3_readIn 5 s args RX3 meth := hc
  replace hown : s.vm.findClass RX3 = some m.cls := hown
  replace hl : lv_has ls 5 [(0, .ref (ad o0)), (1, .ref (ad o1)), (2, .ref (ad o2))] := hl
  show W p l e rm_X3_readIn s m args below meth c s.heap [] 0 0 (MQ below (z_Qi G ad h9 (z_n h) s.heap.size r0) args s 0 0 (z_A ad (z_n h) s.heap.size)) (F0 m 0 ls [])
  obtain ⟨rs, kt⟩ : ∃ rs : Int32 × z_T, rs = (r0, h9) := ⟨_, rfl⟩
  generalize hn0 : z_n h = n0 at hc hB ⊢
  have b51 : ∀ (x3 : Int32) (h : z_T) (H : Heap) (locs : List Loc) (ls : Array Slot), z_B G ad n0 s h H locs → lv_has ls 5 [(0, .ref (ad o0)), (1, .ref (ad o1)), (3, .int x3)] → ∀ w, fX3_readIn_b51 o0 o1 x3 h = some w → w = (r0, h9) → W p l e rm_X3_readIn s m args below meth c H locs 0 0 (MQ below (z_Qi G ad h9 n0 s.heap.size r0) args s 0 0 (z_A ad n0 s.heap.size)) (F0 m 51 ls []) := by
    intro x3 h H locs ls hB hl w hv kb
    refine lv_aload_n hx hb dX3_readIn_51 rfl (lv_at hl 1 rfl) ?_
    obtain ⟨g3, hv⟩ := y_gd_e hv
    obtain ⟨h2, c1, hv⟩ := y_bi_e hv
    refine z_thV hc hB (z_runV hc hB 6 (mm_X6_advance hSK l ad o1 h c1) md_X6_advance qmX3_73 g3 (by decide) rfl rfl rfl ⟨Nat.le_of_ble_eq_true rfl, Nat.le_of_ble_eq_true rfl⟩ rfl hl.1 rfl (Nat.le_of_ble_eq_true rfl) dX3_readIn_52 ⟨Nat.le_of_ble_eq_true rfl, Nat.le_of_ble_eq_true rfl⟩) (fun H locs hB => ?_)
    refine lv_aload_n hx hb dX3_readIn_55 rfl (lv_at hl 0 rfl) ?_
    refine lv_iconst (v := (0 : Int32)) hx hb dX3_readIn_56 (by decide) ?_
    obtain ⟨g4, hv⟩ := y_gd_e hv
    obtain ⟨h5, eh5, hv⟩ := y_nm_e hv
    refine y_putI hc hB 3 3 eh5 g4 (z_l1 hc qfX3_83) dX3_readIn_57 (by decide) (by decide) rfl rfl rfl rfl (fun H locs hB => ?_)
    refine lv_aload_n hx hb dX3_readIn_60 rfl (lv_at hl 0 rfl) ?_
    refine lv_iconst (v := (0 : Int32)) hx hb dX3_readIn_61 (by decide) ?_
    refine lv_iload_n hx hb dX3_readIn_62 rfl (lv_at hl 2 rfl) ?_
    obtain ⟨h7, c6, hv⟩ := y_bi_e hv
    refine z_thV hc hB (z_runV hc hB 3 (mm_X3_put hSK l ad o0 (0 : Int32) x3 h5 c6) md_X3_put qmX3_86 (by rw [eh5]; exact g4) (by decide) rfl rfl rfl ⟨Nat.le_of_ble_eq_true rfl, Nat.le_of_ble_eq_true rfl⟩ rfl hl.1 rfl (Nat.le_of_ble_eq_true rfl) dX3_readIn_63 ⟨Nat.le_of_ble_eq_true rfl, Nat.le_of_ble_eq_true rfl⟩) (fun H locs hB => ?_)
    refine lv_iconst (v := (1 : Int32)) hx hb dX3_readIn_66 (by decide) ?_
    replace hv := Option.some.inj hv
    subst hv
    obtain ⟨e1, e2⟩ := y_pr kb
    rw [← e1, ← e2]
    exact z_zret hc hB hr rfl dX3_readIn_67
  rw [← kt] at hv
  refine lv_aload_n hx hb dX3_readIn_0 rfl (lv_at hl 0 rfl) ?_
  obtain ⟨g8, hv⟩ := y_gd_e hv
  refine z_getI hc hB 3 2 g8 (by decide) (by decide) rfl (z_l1 hc qfX3_28) dX3_readIn_1 ?_
  refine lv_bipush (v := (40 : Int32)) hx hb dX3_readIn_4 (by decide) ?_
  refine lv_icmp_lt (tgt := 15) hx hb dX3_readIn_6 (by decide) (fun c9 => ?_) (fun c9 => ?_)
  · replace hv := y_br_t hv c9
    refine lv_aload_n hx hb dX3_readIn_15 rfl (lv_at hl 1 rfl) ?_
    obtain ⟨g12, hv⟩ := y_gd_e hv
    obtain ⟨h11, c10, hv⟩ := y_bi_e hv
    refine z_thV hc hB (z_runV hc hB 6 (mm_X6_advance hSK l ad o1 h c10) md_X6_advance qmX3_73 g12 (by decide) rfl rfl rfl ⟨Nat.le_of_ble_eq_true rfl, Nat.le_of_ble_eq_true rfl⟩ rfl hl.1 rfl (Nat.le_of_ble_eq_true rfl) dX3_readIn_16 ⟨Nat.le_of_ble_eq_true rfl, Nat.le_of_ble_eq_true rfl⟩) (fun H locs hB => ?_)
    refine lv_iconst (v := (0 : Int32)) hx hb dX3_readIn_19 (by decide) ?_
    refine lv_istore_n (lv' := [(3, .int (0 : Int32)), (0, .ref (ad o0)), (1, .ref (ad o1)), (2, .ref (ad o2))]) hx hb dX3_readIn_20 rfl hl (by decide) rfl (fun ls hl => ?_)
    refine lv_aload_n hx hb dX3_readIn_21 rfl (lv_at hl 2 rfl) ?_
    refine z_gets hc hB (hc.2.1.2.2.2.1.1 3 (by decide)) qfX3_76 dX3_readIn_22 ?_
    obtain ⟨g18, hv⟩ := y_gd_e hv
    obtain ⟨r14, c13, hv⟩ := y_bi_e hv
    refine z_thI hc hB (z_runV hc hB 6 (mm_X6_isAt hSK l ad o1 3 h11 c13) md_X6_isAt qmX3_50 g18 (by decide) rfl rfl rfl ⟨Nat.le_of_ble_eq_true rfl, Nat.le_of_ble_eq_true rfl⟩ rfl hl.1 rfl (Nat.le_of_ble_eq_true rfl) dX3_readIn_25 ⟨Nat.le_of_ble_eq_true rfl, Nat.le_of_ble_eq_true rfl⟩) (fun H locs hB => ?_)
    refine lv_if_ne (tgt := 51) hx hb dX3_readIn_28 (by decide) (fun c19 => ?_) (fun c19 => ?_)
    · replace hv := y_br_f hv c19
      exact b51 (0 : Int32) h11 _ _ _ hB (lv_sub hl [1, 2, 0] rfl) _ hv kt
    · replace hv := y_br_t hv c19
      refine lv_aload_n hx hb dX3_readIn_31 rfl (lv_at hl 2 rfl) ?_
      refine lv_aload_n hx hb dX3_readIn_32 rfl (lv_at hl 3 rfl) ?_
      obtain ⟨⟨r21, h25⟩, c20, hv⟩ := y_bi_e hv
      refine z_thI hc hB (z_runV hc hB 6 (mm_X6_dreamHere hSK l ad o1 o2 h11 c20) md_X6_dreamHere qmX3_79 g18 (by decide) rfl rfl rfl ⟨Nat.le_of_ble_eq_true rfl, Nat.le_of_ble_eq_true rfl⟩ rfl hl.1 rfl (Nat.le_of_ble_eq_true rfl) dX3_readIn_33 ⟨Nat.le_of_ble_eq_true rfl, Nat.le_of_ble_eq_true rfl⟩) (fun H locs hB => ?_)
      refine lv_istore (lv' := [(4, .int r21), (3, .int (0 : Int32)), (0, .ref (ad o0)), (1, .ref (ad o1)), (2, .ref (ad o2))]) hx hb dX3_readIn_36 hl (by decide) rfl (fun ls hl => ?_)
      refine lv_iload hx hb dX3_readIn_38 (lv_at hl 0 rfl) ?_
      refine lv_iconst (v := (-1 : Int32)) hx hb dX3_readIn_40 (by decide) ?_
      refine lv_icmp_ne (tgt := 46) hx hb dX3_readIn_41 (by decide) (fun c26 => ?_) (fun c26 => ?_)
      · replace hv := y_br_f hv c26
        refine lv_iload hx hb dX3_readIn_46 (lv_at hl 0 rfl) ?_
        refine lv_iconst (v := (1 : Int32)) hx hb dX3_readIn_48 (by decide) ?_
        refine lv_iadd hx hb dX3_readIn_49 ?_
        obtain ⟨v27, ev27, hv⟩ := y_nm_e hv
        rw [← ev27]
        refine lv_istore_n (lv' := [(3, .int v27), (4, .int r21), (0, .ref (ad o0)), (1, .ref (ad o1)), (2, .ref (ad o2))]) hx hb dX3_readIn_50 rfl hl (by decide) rfl (fun ls hl => ?_)
        exact b51 v27 h25 _ _ _ hB (lv_sub hl [2, 3, 0] rfl) _ hv kt
      · replace hv := y_br_t hv c26
        refine lv_iconst (v := (0 : Int32)) hx hb dX3_readIn_44 (by decide) ?_
        replace hv := Option.some.inj hv
        subst hv
        obtain ⟨e1, e2⟩ := y_pr kt
        rw [← e1, ← e2]
        exact z_zret hc hB hr rfl dX3_readIn_45
  · replace hv := y_br_f hv c9
    refine lv_aload_n hx hb dX3_readIn_9 rfl (lv_at hl 1 rfl) ?_
    refine lv_iconst (v := (4 : Int32)) hx hb dX3_readIn_10 (by decide) ?_
    obtain ⟨g34, hv⟩ := y_gd_e hv
    obtain ⟨⟨r29, h33⟩, c28, hv⟩ := y_bi_e hv
    refine z_thI hc hB (z_runV hc hB 6 (mm_X6_fail hSK l ad o1 (4 : Int32) h c28) md_X6_fail qmX3_57 g34 (by decide) rfl rfl rfl ⟨Nat.le_of_ble_eq_true rfl, Nat.le_of_ble_eq_true rfl⟩ rfl hl.1 rfl (Nat.le_of_ble_eq_true rfl) dX3_readIn_11 ⟨Nat.le_of_ble_eq_true rfl, Nat.le_of_ble_eq_true rfl⟩) (fun H locs hB => ?_)
    obtain ⟨y35, hv⟩ := y_gd_e hv
    replace hv := Option.some.inj hv
    subst hv
    obtain ⟨e1, e2⟩ := y_pr kt
    rw [← e1, ← e2]
    exact z_zret hc hB hr (y_b_n y35) dX3_readIn_14
