/-! the methods that write text -/
theorem qmX1_21 : Cond.methodLink RX1 21 yJ0_length_8abf5 ∈ z_ws := List.mem_filter.mpr ⟨List.mem_append_right _ (List.mem_of_getElem? (i := 712) (by decide +kernel)), rfl⟩
theorem qmX1_27 : Cond.methodLink RX1 27 yJ0_charAt_5068e ∈ z_ws := List.mem_filter.mpr ⟨List.mem_append_right _ (List.mem_of_getElem? (i := 722) (by decide +kernel)), rfl⟩
theorem dX1_putText_0 : decode cX1_putText 0 = .ok (.iconst 0, 1) := by decide +kernel
theorem dX1_putText_1 : decode cX1_putText 1 = .ok (.istore_n 2, 1) := by decide +kernel
theorem dX1_putText_2 : decode cX1_putText 2 = .ok (.iload_n 2, 1) := by decide +kernel
theorem dX1_putText_3 : decode cX1_putText 3 = .ok (.aload_n 1, 1) := by decide +kernel
theorem dX1_putText_4 : decode cX1_putText 4 = .ok (.invokevirtual 21, 3) := by decide +kernel
theorem dX1_putText_7 : decode cX1_putText 7 = .ok (.if_icmp .ge 18, 3) := by decide +kernel
theorem dX1_putText_10 : decode cX1_putText 10 = .ok (.aload_n 0, 1) := by decide +kernel
theorem dX1_putText_11 : decode cX1_putText 11 = .ok (.aload_n 1, 1) := by decide +kernel
theorem dX1_putText_12 : decode cX1_putText 12 = .ok (.iload_n 2, 1) := by decide +kernel
theorem dX1_putText_13 : decode cX1_putText 13 = .ok (.invokevirtual 27, 3) := by decide +kernel
theorem dX1_putText_16 : decode cX1_putText 16 = .ok (.invokevirtual 17, 3) := by decide +kernel
theorem dX1_putText_19 : decode cX1_putText 19 = .ok (.iinc 2 1, 3) := by decide +kernel
theorem dX1_putText_22 : decode cX1_putText 22 = .ok (.goto (-20), 3) := by decide +kernel
theorem dX1_putText_25 : decode cX1_putText 25 = .ok (.return_, 1) := by decide +kernel
abbrev rm_X1_putText : Room := { frames := 4, cells := 0, slots := 0, locals := 85 }
noncomputable def fX1_putText_b2_i (o0 : Nat) (t1 : Nat) (x2 : Int32) (h : z_T) : Option ((Int32 × z_T) ⊕ (z_T)) :=
  y_gd (decide (t1 < 5)) <|
  y_br ((nI (z_sln.getD t1 0)) ≤ x2)
    (y_mp <|
    some h)
    (y_gd (decide (t1 < 5)) <|
    y_gd (z_ix x2 (z_sln.getD t1 0)) <|
    y_gd (z_ok h o0 1) <|
    y_bi (fX1_put o0 ((((((z_sby.getD t1 []).getD x2.toNatClampNeg 0) &&& 255).toUInt32 % 65536).toInt32)) h) fun h7 =>
    y_nm (x2 + 1) fun v9 =>
    some (.inl (v9, h7)))
noncomputable def fX1_putText_b2 (o0 : Nat) (t1 : Nat) (x2 : Int32) (h : z_T) : Option (z_T) := y_lp (fun q : Int32 × z_T => fX1_putText_b2_i o0 t1 q.1 q.2) (x2, h)
noncomputable def fX1_putText (o0 : Nat) (t1 : Nat) (h : z_T) : Option (z_T) :=
  fX1_putText_b2 o0 t1 (0 : Int32) h
set_option maxHeartbeats 4000000 in
set_option maxRecDepth 100000 in
theorem mm_X1_putText {G : z_Gt} (hSK : z_SK (z_S G)) (l : Launch) (ad : Nat → Nat) (o0 : Nat) (t1 : Nat) (h : z_T) {h9 : z_T} (hv : fX1_putText o0 t1 h = some h9) : z_Mv G (z_S G) l yX1_putText cX1_putText 3 rm_X1_putText 0 0 [.ref (ad o0), .ref (G.2.2.2.1 (23 + t1))] ad h h9 := by
  refine z_ofW hSK (by decide) (Nat.le_of_ble_eq_true rfl) ?_
  intro p e s m args below meth c ls hc hr hnm hB hl
  have hx := hc.1.1
  have hb := hc.1.2.1
  have hown := hc.1.2.2.2.1
  have hts := hc.1.2.2.2.2
  replace hc : z_C G (z_S G) ad (z_n h) p m c cX1_putText 3 s args RX1 meth := hc
  replace hown : s.vm.findClass RX1 = some m.cls := hown
  replace hl : lv_has ls 3 [(0, .ref (ad o0)), (1, .ref (G.2.2.2.1 (23 + t1)))] := hl
  show W p l e rm_X1_putText s m args below meth c s.heap [] 0 0 (MQ below (z_Qv G ad h9 (z_n h) s.heap.size) args s 0 0 (z_A ad (z_n h) s.heap.size)) (F0 m 0 ls [])
  obtain ⟨rs, kt⟩ : ∃ rs : z_T, rs = h9 := ⟨_, rfl⟩
  generalize hn0 : z_n h = n0 at hc hB ⊢
  obtain ⟨⟨adV, hV⟩, -⟩ := hc.2.1.2.2.2.2.1
  have L2 : ∀ (nn2 : Nat) (x2 : Int32) (h : z_T) (H : Heap) (locs : List Loc) (ls : Array Slot), z_B G ad n0 s h H locs → lv_has ls 3 [(0, .ref (ad o0)), (1, .ref (G.2.2.2.1 (23 + t1))), (2, .int x2)] → ∀ vv2, y_lpN (fun q : Int32 × z_T => fX1_putText_b2_i o0 t1 q.1 q.2) nn2 (x2, h) = some vv2 → vv2 = h9 → W p l e rm_X1_putText s m args below meth c H locs 0 0 (MQ below (z_Qv G ad h9 n0 s.heap.size) args s 0 0 (z_A ad n0 s.heap.size)) (F0 m 2 ls []) := by
    intro nn2
    induction nn2 with
    | zero => intro x2 h H locs ls hB hl vv2 hv kv2; exact absurd hv (fun q => y_lpN_0 q)
    | succ nn2 ih2 =>
      intro x2 h H locs ls hB hl vv2 hv kv2
      obtain ⟨w, hq, kw2⟩ := y_lpN_e hv
      clear hv
      have hv : fX1_putText_b2_i o0 t1 x2 h = some w := hq
      clear hq
      refine lv_iload_n hx hb dX1_putText_2 rfl (lv_at hl 2 rfl) ?_
      refine lv_aload_n hx hb dX1_putText_3 rfl (lv_at hl 1 rfl) ?_
      obtain ⟨g1, hv⟩ := y_gd_e hv
      refine z_thI hc hB (z_runVO (As := []) (rest := [.int x2]) hc hB (hV.1 t1 (of_decide_eq_true g1)).1 (mm_J0_length l ad t1 (of_decide_eq_true g1) h) md_J0_length_8abf5 qmX1_21 rfl rfl ⟨Nat.le_of_ble_eq_true rfl, Nat.le_of_ble_eq_true rfl⟩ rfl hl.1 rfl (Nat.le_of_ble_eq_true rfl) dX1_putText_4 ⟨Nat.le_of_ble_eq_true rfl, Nat.le_of_ble_eq_true rfl⟩) (fun H locs hB => ?_)
      refine lv_icmp_ge (tgt := 25) hx hb dX1_putText_7 (by decide) (fun c2 => ?_) (fun c2 => ?_)
      · replace hv := y_br_t hv c2
        obtain ⟨t3, hq, ew⟩ := y_mp_e hv
        clear hv; subst ew
        replace kw2 : t3 = _ := kw2
        subst kw2
        have hv := hq
        clear hq
        replace hv := Option.some.inj hv
        subst hv
        rw [← kv2]
        exact z_vret hc hB hr dX1_putText_25
      · replace hv := y_br_f hv c2
        refine lv_aload_n hx hb dX1_putText_10 rfl (lv_at hl 0 rfl) ?_
        refine lv_aload_n hx hb dX1_putText_11 rfl (lv_at hl 1 rfl) ?_
        refine lv_iload_n hx hb dX1_putText_12 rfl (lv_at hl 2 rfl) ?_
        obtain ⟨g4, hv⟩ := y_gd_e hv
        obtain ⟨i5, hv⟩ := y_gd_e hv
        refine z_thI hc hB (z_runVO (As := [.int x2]) (rest := [.ref (ad o0)]) hc hB (hV.1 t1 (of_decide_eq_true g4)).1 (mm_J0_charAt l ad t1 (of_decide_eq_true g4) x2 i5 h) md_J0_charAt_5068e qmX1_27 rfl rfl ⟨Nat.le_of_ble_eq_true rfl, Nat.le_of_ble_eq_true rfl⟩ rfl hl.1 rfl (Nat.le_of_ble_eq_true rfl) dX1_putText_13 ⟨Nat.le_of_ble_eq_true rfl, Nat.le_of_ble_eq_true rfl⟩) (fun H locs hB => ?_)
        obtain ⟨g8, hv⟩ := y_gd_e hv
        obtain ⟨h7, c6, hv⟩ := y_bi_e hv
        refine z_thV hc hB (z_runV hc hB 1 (mm_X1_put hSK l ad o0 ((((((z_sby.getD t1 []).getD x2.toNatClampNeg 0) &&& 255).toUInt32 % 65536).toInt32)) h c6) md_X1_put qmX1_17 g8 (by decide) rfl rfl rfl ⟨Nat.le_of_ble_eq_true rfl, Nat.le_of_ble_eq_true rfl⟩ rfl hl.1 rfl (Nat.le_of_ble_eq_true rfl) dX1_putText_16 ⟨Nat.le_of_ble_eq_true rfl, Nat.le_of_ble_eq_true rfl⟩) (fun H locs hB => ?_)
        obtain ⟨v9, ev9, hv⟩ := y_nm_e hv
        refine lv_iinc (v := v9) (lv' := [(2, .int v9), (0, .ref (ad o0)), (1, .ref (G.2.2.2.1 (23 + t1)))]) hx hb dX1_putText_19 hl (k := 2) rfl (by rw [ev9]; rfl) (by decide) rfl (fun ls hl => ?_)
        refine lv_goto (tgt := 2) hx hb dX1_putText_22 (by decide) ?_
        replace hv := Option.some.inj hv
        subst hv
        exact ih2 v9 h7 _ _ _ hB (lv_sub hl [1, 2, 0] rfl) _ kw2 kv2
  rw [← kt] at hv
  refine lv_iconst (v := (0 : Int32)) hx hb dX1_putText_0 (by decide) ?_
  refine lv_istore_n (lv' := [(2, .int (0 : Int32)), (0, .ref (ad o0)), (1, .ref (G.2.2.2.1 (23 + t1)))]) hx hb dX1_putText_1 rfl hl (by decide) rfl (fun ls hl => ?_)
  obtain ⟨n, hv⟩ := y_lp_e hv
  exact L2 n (0 : Int32) h _ _ _ hB (lv_sub hl [1, 2, 0] rfl) _ hv kt
theorem qmX5_102 : Cond.methodLink RX5 102 yX0_nameOf ∈ z_ws := List.mem_filter.mpr ⟨List.mem_append_right _ (List.mem_of_getElem? (i := 760) (by decide +kernel)), rfl⟩
theorem qc_X0_nameOf : Cond.code yX0_nameOf cX0_nameOf 2 (some .long) ∈ z_ws := List.mem_filter.mpr ⟨List.mem_append_right _ (List.mem_of_getElem? (i := 763) (by decide +kernel)), rfl⟩
theorem qi_X0_nameOf : Cond.instanceMethod yX0_nameOf ∈ z_ws := List.mem_filter.mpr ⟨List.mem_append_right _ (List.mem_of_getElem? (i := 761) (by decide +kernel)), rfl⟩
theorem qs_X0_nameOf : Cond.selects RX0 yX0_nameOf yX0_nameOf ∈ z_ws := List.mem_filter.mpr ⟨List.mem_append_right _ (List.mem_of_getElem? (i := 762) (by decide +kernel)), rfl⟩
theorem md_X0_nameOf : z_mdV yX0_nameOf cX0_nameOf 2 (some .long) 1 := ⟨⟨qn_RX0, qc_X0_nameOf, ⟨by decide +kernel, by decide +kernel, by decide +kernel⟩⟩, qi_X0_nameOf, qs_X0_nameOf⟩
theorem qmX5_105 : Cond.methodLink RX5 105 yX1_putName ∈ z_ws := List.mem_filter.mpr ⟨List.mem_append_right _ (List.mem_of_getElem? (i := 764) (by decide +kernel)), rfl⟩
theorem qc_X1_putName : Cond.code yX1_putName cX1_putName 5 none ∈ z_ws := List.mem_filter.mpr ⟨List.mem_append_right _ (List.mem_of_getElem? (i := 767) (by decide +kernel)), rfl⟩
theorem qi_X1_putName : Cond.instanceMethod yX1_putName ∈ z_ws := List.mem_filter.mpr ⟨List.mem_append_right _ (List.mem_of_getElem? (i := 765) (by decide +kernel)), rfl⟩
theorem qs_X1_putName : Cond.selects RX1 yX1_putName yX1_putName ∈ z_ws := List.mem_filter.mpr ⟨List.mem_append_right _ (List.mem_of_getElem? (i := 766) (by decide +kernel)), rfl⟩
theorem md_X1_putName : z_mdV yX1_putName cX1_putName 5 none 1 := ⟨⟨qn_RX1, qc_X1_putName, ⟨by decide +kernel, by decide +kernel, by decide +kernel⟩⟩, qi_X1_putName, qs_X1_putName⟩
theorem qmX5_96 : Cond.methodLink RX5 96 yX1_putText ∈ z_ws := List.mem_filter.mpr ⟨List.mem_append_right _ (List.mem_of_getElem? (i := 708) (by decide +kernel)), rfl⟩
theorem qc_X1_putText : Cond.code yX1_putText cX1_putText 3 none ∈ z_ws := List.mem_filter.mpr ⟨List.mem_append_right _ (List.mem_of_getElem? (i := 711) (by decide +kernel)), rfl⟩
theorem qi_X1_putText : Cond.instanceMethod yX1_putText ∈ z_ws := List.mem_filter.mpr ⟨List.mem_append_right _ (List.mem_of_getElem? (i := 709) (by decide +kernel)), rfl⟩
theorem qs_X1_putText : Cond.selects RX1 yX1_putText yX1_putText ∈ z_ws := List.mem_filter.mpr ⟨List.mem_append_right _ (List.mem_of_getElem? (i := 710) (by decide +kernel)), rfl⟩
theorem md_X1_putText : z_mdV yX1_putText cX1_putText 3 none 1 := ⟨⟨qn_RX1, qc_X1_putText, ⟨by decide +kernel, by decide +kernel, by decide +kernel⟩⟩, qi_X1_putText, qs_X1_putText⟩
theorem qmX5_49 : Cond.methodLink RX5 49 yX5_writeWay ∈ z_ws := List.mem_filter.mpr ⟨List.mem_append_right _ (List.mem_of_getElem? (i := 702) (by decide +kernel)), rfl⟩
theorem qc_X5_writeWay : Cond.code yX5_writeWay cX5_writeWay 5 none ∈ z_ws := List.mem_filter.mpr ⟨List.mem_append_right _ (List.mem_of_getElem? (i := 705) (by decide +kernel)), rfl⟩
theorem qi_X5_writeWay : Cond.instanceMethod yX5_writeWay ∈ z_ws := List.mem_filter.mpr ⟨List.mem_append_right _ (List.mem_of_getElem? (i := 704) (by decide +kernel)), rfl⟩
theorem qs_X5_writeWay : Cond.selects RX5 yX5_writeWay yX5_writeWay ∈ z_ws := List.mem_filter.mpr ⟨List.mem_append_left _ (List.mem_of_getElem? (i := 12) (by decide +kernel)), rfl⟩
theorem md_X5_writeWay : z_mdV yX5_writeWay cX5_writeWay 5 none 3 := ⟨⟨qn_RX5, qc_X5_writeWay, ⟨by decide +kernel, by decide +kernel, by decide +kernel⟩⟩, qi_X5_writeWay, qs_X5_writeWay⟩
abbrev rm_X5_writeWay (d : Nat) : Room := { frames := 1 * d + 6, cells := 0, slots := 0, locals := 24 * d + 131 }
theorem dX5_writeWay_0 : decode cX5_writeWay 0 = .ok (.iload_n 2, 1) := by decide +kernel
theorem dX5_writeWay_1 : decode cX5_writeWay 1 = .ok (.invokestatic 61, 3) := by decide +kernel
theorem dX5_writeWay_4 : decode cX5_writeWay 4 = .ok (.ifCond .eq 8, 3) := by decide +kernel
theorem dX5_writeWay_7 : decode cX5_writeWay 7 = .ok (.iload_n 3, 1) := by decide +kernel
theorem dX5_writeWay_8 : decode cX5_writeWay 8 = .ok (.iconst 4, 1) := by decide +kernel
theorem dX5_writeWay_9 : decode cX5_writeWay 9 = .ok (.if_icmp .le 4, 3) := by decide +kernel
theorem dX5_writeWay_12 : decode cX5_writeWay 12 = .ok (.return_, 1) := by decide +kernel
theorem dX5_writeWay_13 : decode cX5_writeWay 13 = .ok (.aload_n 0, 1) := by decide +kernel
theorem dX5_writeWay_14 : decode cX5_writeWay 14 = .ok (.getfield 20, 3) := by decide +kernel
theorem dX5_writeWay_17 : decode cX5_writeWay 17 = .ok (.iload_n 2, 1) := by decide +kernel
theorem dX5_writeWay_18 : decode cX5_writeWay 18 = .ok (.iaload, 1) := by decide +kernel
theorem dX5_writeWay_19 : decode cX5_writeWay 19 = .ok (.istore 4, 2) := by decide +kernel
theorem dX5_writeWay_21 : decode cX5_writeWay 21 = .ok (.iload 4, 2) := by decide +kernel
theorem dX5_writeWay_23 : decode cX5_writeWay 23 = .ok (.iconst (-1), 1) := by decide +kernel
theorem dX5_writeWay_24 : decode cX5_writeWay 24 = .ok (.if_icmp .ne 24, 3) := by decide +kernel
theorem dX5_writeWay_27 : decode cX5_writeWay 27 = .ok (.aload_n 1, 1) := by decide +kernel
theorem dX5_writeWay_28 : decode cX5_writeWay 28 = .ok (.aload_n 0, 1) := by decide +kernel
theorem dX5_writeWay_29 : decode cX5_writeWay 29 = .ok (.getfield 24, 3) := by decide +kernel
theorem dX5_writeWay_32 : decode cX5_writeWay 32 = .ok (.iload_n 2, 1) := by decide +kernel
theorem dX5_writeWay_33 : decode cX5_writeWay 33 = .ok (.baload, 1) := by decide +kernel
theorem dX5_writeWay_34 : decode cX5_writeWay 34 = .ok (.ifCond .eq 8, 3) := by decide +kernel
theorem dX5_writeWay_37 : decode cX5_writeWay 37 = .ok (.ldc 92, 2) := by decide +kernel
theorem dX5_writeWay_39 : decode cX5_writeWay 39 = .ok (.goto 5, 3) := by decide +kernel
theorem dX5_writeWay_42 : decode cX5_writeWay 42 = .ok (.ldc 94, 2) := by decide +kernel
theorem dX5_writeWay_44 : decode cX5_writeWay 44 = .ok (.invokevirtual 96, 3) := by decide +kernel
theorem dX5_writeWay_47 : decode cX5_writeWay 47 = .ok (.return_, 1) := by decide +kernel
theorem dX5_writeWay_48 : decode cX5_writeWay 48 = .ok (.aload_n 1, 1) := by decide +kernel
theorem dX5_writeWay_49 : decode cX5_writeWay 49 = .ok (.aload_n 0, 1) := by decide +kernel
theorem dX5_writeWay_50 : decode cX5_writeWay 50 = .ok (.getfield 31, 3) := by decide +kernel
theorem dX5_writeWay_53 : decode cX5_writeWay 53 = .ok (.iload 4, 2) := by decide +kernel
theorem dX5_writeWay_55 : decode cX5_writeWay 55 = .ok (.invokevirtual 102, 3) := by decide +kernel
theorem dX5_writeWay_58 : decode cX5_writeWay 58 = .ok (.invokevirtual 105, 3) := by decide +kernel
theorem dX5_writeWay_61 : decode cX5_writeWay 61 = .ok (.aload_n 1, 1) := by decide +kernel
theorem dX5_writeWay_62 : decode cX5_writeWay 62 = .ok (.ldc 109, 2) := by decide +kernel
theorem dX5_writeWay_64 : decode cX5_writeWay 64 = .ok (.invokevirtual 96, 3) := by decide +kernel
theorem dX5_writeWay_67 : decode cX5_writeWay 67 = .ok (.aload_n 0, 1) := by decide +kernel
theorem dX5_writeWay_68 : decode cX5_writeWay 68 = .ok (.aload_n 1, 1) := by decide +kernel
theorem dX5_writeWay_69 : decode cX5_writeWay 69 = .ok (.iload_n 2, 1) := by decide +kernel
theorem dX5_writeWay_70 : decode cX5_writeWay 70 = .ok (.iload 4, 2) := by decide +kernel
theorem dX5_writeWay_72 : decode cX5_writeWay 72 = .ok (.iconst 1, 1) := by decide +kernel
theorem dX5_writeWay_73 : decode cX5_writeWay 73 = .ok (.invokestatic 85, 3) := by decide +kernel
theorem dX5_writeWay_76 : decode cX5_writeWay 76 = .ok (.iload_n 3, 1) := by decide +kernel
theorem dX5_writeWay_77 : decode cX5_writeWay 77 = .ok (.iconst 1, 1) := by decide +kernel
theorem dX5_writeWay_78 : decode cX5_writeWay 78 = .ok (.iadd, 1) := by decide +kernel
theorem dX5_writeWay_79 : decode cX5_writeWay 79 = .ok (.invokevirtual 49, 3) := by decide +kernel
theorem dX5_writeWay_82 : decode cX5_writeWay 82 = .ok (.aload_n 1, 1) := by decide +kernel
theorem dX5_writeWay_83 : decode cX5_writeWay 83 = .ok (.ldc 111, 2) := by decide +kernel
theorem dX5_writeWay_85 : decode cX5_writeWay 85 = .ok (.invokevirtual 96, 3) := by decide +kernel
theorem dX5_writeWay_88 : decode cX5_writeWay 88 = .ok (.aload_n 0, 1) := by decide +kernel
theorem dX5_writeWay_89 : decode cX5_writeWay 89 = .ok (.aload_n 1, 1) := by decide +kernel
theorem dX5_writeWay_90 : decode cX5_writeWay 90 = .ok (.iload_n 2, 1) := by decide +kernel
theorem dX5_writeWay_91 : decode cX5_writeWay 91 = .ok (.iload 4, 2) := by decide +kernel
theorem dX5_writeWay_93 : decode cX5_writeWay 93 = .ok (.iconst 0, 1) := by decide +kernel
theorem dX5_writeWay_94 : decode cX5_writeWay 94 = .ok (.invokestatic 85, 3) := by decide +kernel
theorem dX5_writeWay_97 : decode cX5_writeWay 97 = .ok (.iload_n 3, 1) := by decide +kernel
theorem dX5_writeWay_98 : decode cX5_writeWay 98 = .ok (.iconst 1, 1) := by decide +kernel
theorem dX5_writeWay_99 : decode cX5_writeWay 99 = .ok (.iadd, 1) := by decide +kernel
theorem dX5_writeWay_100 : decode cX5_writeWay 100 = .ok (.invokevirtual 49, 3) := by decide +kernel
theorem dX5_writeWay_103 : decode cX5_writeWay 103 = .ok (.aload_n 1, 1) := by decide +kernel
theorem dX5_writeWay_104 : decode cX5_writeWay 104 = .ok (.ldc 113, 2) := by decide +kernel
theorem dX5_writeWay_106 : decode cX5_writeWay 106 = .ok (.invokevirtual 96, 3) := by decide +kernel
theorem dX5_writeWay_109 : decode cX5_writeWay 109 = .ok (.return_, 1) := by decide +kernel
noncomputable def fX5_writeWay_s (rc : Nat → Nat → Int32 → Int32 → z_T → Option (z_T)) (o0 : Nat) (o1 : Nat) (x2 : Int32) (x3 : Int32) (h : z_T) : Option (z_T) :=
  y_bi (fX5_isState x2) fun r2 =>
  y_br (r2 = 0)
    (some h)
    (y_br (x3 ≤ (4 : Int32))
      (y_gd (z_ok h o0 5) <|
      y_bi (z_R h o0 2) fun ob9 =>
      y_gd (z_ok h ob9 13) <|
      y_gd (z_ix x2 (z_N h ob9)) <|
      y_nm ((z_I h ob9 x2.toNatClampNeg)) fun v12 =>
      y_br (v12 = (-1 : Int32))
        (y_bi (z_R h o0 3) fun ob49 =>
        y_gd (z_ok h ob49 15) <|
        y_gd (z_ix x2 (z_N h ob49)) <|
        y_br ((z_I h ob49 x2.toNatClampNeg) = 0)
          (y_gd (z_ok h o1 1) <|
          y_bi (fX1_putText o1 1 h) fun h54 =>
          some h54)
          (y_gd (z_ok h o1 1) <|
          y_bi (fX1_putText o1 0 h) fun h57 =>
          some h57))
        (y_bi (z_R h o0 5) fun ob14 =>
        y_gd (z_ok h ob14 0) <|
        y_bi (fX0_nameOf ob14 v12 h) fun r17 =>
        y_gd (z_ok h o1 1) <|
        y_bi (fX1_putName o1 r17 h) fun h22 =>
        y_gd (z_ok h22 o1 1) <|
        y_bi (fX1_putText o1 2 h22) fun h25 =>
        y_bi (fX5_behind x2 v12 (1 : Int32) h25) fun r28 =>
        y_gd (z_ok h25 o0 5) <|
        y_bi (rc o0 o1 r28 (x3 + (1 : Int32)) h25) fun h33 =>
        y_gd (z_ok h33 o1 1) <|
        y_bi (fX1_putText o1 3 h33) fun h36 =>
        y_bi (fX5_behind x2 v12 (0 : Int32) h36) fun r39 =>
        y_gd (z_ok h36 o0 5) <|
        y_bi (rc o0 o1 r39 (x3 + (1 : Int32)) h36) fun h44 =>
        y_gd (z_ok h44 o1 1) <|
        y_bi (fX1_putText o1 4 h44) fun h47 =>
        some h47))
      (some h))
set_option maxHeartbeats 4000000 in
set_option maxRecDepth 100000 in
theorem mh_X5_writeWay {G : z_Gt} (hSK : z_SK (z_S G)) (l : Launch) (ad : Nat → Nat) (d : Nat) (rc : Nat → Nat → Int32 → Int32 → z_T → Option (z_T)) (hrc : ∀ (o0 : Nat) (o1 : Nat) (x2 : Int32) (x3 : Int32) (h : z_T) {h9 : z_T}, rc o0 o1 x2 x3 h = some h9 → z_Mv G (z_S G) l yX5_writeWay cX5_writeWay 5 (rm_X5_writeWay d) 0 0 [.ref (ad o0), .ref (ad o1), .int x2, .int x3] ad h h9) (o0 : Nat) (o1 : Nat) (x2 : Int32) (x3 : Int32) (h : z_T) {h9 : z_T} (hv : fX5_writeWay_s rc o0 o1 x2 x3 h = some h9) : z_Mv G (z_S G) l yX5_writeWay cX5_writeWay 5 (rm_X5_writeWay (d + 1)) 0 0 [.ref (ad o0), .ref (ad o1), .int x2, .int x3] ad h h9 := by
  refine z_ofW hSK (by decide) (Nat.le_of_ble_eq_true rfl) ?_
  intro p e s m args below meth c ls hc hr hnm hB hl
  have hx := hc.1.1
  have hb := hc.1.2.1
  have hown := hc.1.2.2.2.1
  have hts := hc.1.2.2.2.2
  replace hc : z_C G (z_S G) ad (z_n h) p m c cX5_writeWay 5 s args RX5 meth := hc
  replace hown : s.vm.findClass RX5 = some m.cls := hown
  replace hl : lv_has ls 5 [(0, .ref (ad o0)), (1, .ref (ad o1)), (2, .int x2), (3, .int x3)] := hl
  show W p l e (rm_X5_writeWay (d + 1)) s m args below meth c s.heap [] 0 0 (MQ below (z_Qv G ad h9 (z_n h) s.heap.size) args s 0 0 (z_A ad (z_n h) s.heap.size)) (F0 m 0 ls [])
  obtain ⟨rs, kt⟩ : ∃ rs : z_T, rs = h9 := ⟨_, rfl⟩
  generalize hn0 : z_n h = n0 at hc hB ⊢
  rw [← kt] at hv
  refine lv_iload_n hx hb dX5_writeWay_0 rfl (lv_at hl 2 rfl) ?_
  obtain ⟨r2, c1, hv⟩ := y_bi_e hv
  refine z_thI hc hB (z_runS hc hB (mm_X5_isState hSK l ad x2 h c1) md_X5_isState qmX5_61 rfl rfl ⟨by simp only [rm_X5_writeWay, rm_X5_isState]; omega, by simp only [rm_X5_writeWay, rm_X5_isState]; omega⟩ rfl hl.1 rfl (Nat.le_of_ble_eq_true rfl) dX5_writeWay_1 ⟨Nat.le_of_ble_eq_true rfl, Nat.le_of_ble_eq_true rfl⟩) (fun H locs hB => ?_)
  refine lv_if_eq (tgt := 12) hx hb dX5_writeWay_4 (by decide) (fun c6 => ?_) (fun c6 => ?_)
  · replace hv := y_br_t hv c6
    replace hv := Option.some.inj hv
    subst hv
    rw [← kt]
    exact z_vret hc hB hr dX5_writeWay_12
  · replace hv := y_br_f hv c6
    refine lv_iload_n hx hb dX5_writeWay_7 rfl (lv_at hl 3 rfl) ?_
    refine lv_iconst (v := (4 : Int32)) hx hb dX5_writeWay_8 (by decide) ?_
    refine lv_icmp_le (tgt := 13) hx hb dX5_writeWay_9 (by decide) (fun c7 => ?_) (fun c7 => ?_)
    · replace hv := y_br_t hv c7
      refine lv_aload_n hx hb dX5_writeWay_13 rfl (lv_at hl 0 rfl) ?_
      obtain ⟨g8, hv⟩ := y_gd_e hv
      obtain ⟨ob9, eob9, hv⟩ := y_bi_e hv
      refine z_getR hc hB 5 2 g8 eob9 (by decide) (by decide) rfl (z_l1 hc qfX5_20) dX5_writeWay_14 ?_
      refine lv_iload_n hx hb dX5_writeWay_17 rfl (lv_at hl 2 rfl) ?_
      obtain ⟨g10, hv⟩ := y_gd_e hv
      obtain ⟨i11, hv⟩ := y_gd_e hv
      refine z_iald hc hB g10 i11 dX5_writeWay_18 ?_
      obtain ⟨v12, ev12, hv⟩ := y_nm_e hv
      rw [← ev12]
      refine lv_istore (lv' := [(4, .int v12), (0, .ref (ad o0)), (1, .ref (ad o1)), (2, .int x2), (3, .int x3)]) hx hb dX5_writeWay_19 hl (by decide) rfl (fun ls hl => ?_)
      refine lv_iload hx hb dX5_writeWay_21 (lv_at hl 0 rfl) ?_
      refine lv_iconst (v := (-1 : Int32)) hx hb dX5_writeWay_23 (by decide) ?_
      refine lv_icmp_ne (tgt := 48) hx hb dX5_writeWay_24 (by decide) (fun c13 => ?_) (fun c13 => ?_)
      · replace hv := y_br_f hv c13
        refine lv_aload_n hx hb dX5_writeWay_48 rfl (lv_at hl 2 rfl) ?_
        refine lv_aload_n hx hb dX5_writeWay_49 rfl (lv_at hl 1 rfl) ?_
        obtain ⟨ob14, eob14, hv⟩ := y_bi_e hv
        refine z_getR hc hB 5 5 g8 eob14 (by decide) (by decide) rfl (z_l1 hc qfX5_31) dX5_writeWay_50 ?_
        refine lv_iload hx hb dX5_writeWay_53 (lv_at hl 0 rfl) ?_
        obtain ⟨g20, hv⟩ := y_gd_e hv
        obtain ⟨r17, c15, hv⟩ := y_bi_e hv
        refine z_thL hc hB (z_runV hc hB 0 (mm_X0_nameOf hSK l ad ob14 v12 h c15) md_X0_nameOf qmX5_102 g20 (by decide) rfl rfl rfl ⟨by simp only [rm_X5_writeWay, rm_X0_nameOf]; omega, by simp only [rm_X5_writeWay, rm_X0_nameOf]; omega⟩ rfl hl.1 rfl (Nat.le_of_ble_eq_true rfl) dX5_writeWay_55 ⟨Nat.le_of_ble_eq_true rfl, Nat.le_of_ble_eq_true rfl⟩) (fun H locs hB => ?_)
        obtain ⟨g23, hv⟩ := y_gd_e hv
        obtain ⟨h22, c21, hv⟩ := y_bi_e hv
        refine z_thV hc hB (z_runV hc hB 1 (mm_X1_putName hSK l ad o1 r17 h c21) md_X1_putName qmX5_105 g23 (by decide) rfl rfl rfl ⟨by simp only [rm_X5_writeWay, rm_X1_putName]; omega, by simp only [rm_X5_writeWay, rm_X1_putName]; omega⟩ rfl hl.1 rfl (Nat.le_of_ble_eq_true rfl) dX5_writeWay_58 ⟨Nat.le_of_ble_eq_true rfl, Nat.le_of_ble_eq_true rfl⟩) (fun H locs hB => ?_)
        refine lv_aload_n hx hb dX5_writeWay_61 rfl (lv_at hl 2 rfl) ?_
        refine z_ldcS hc (hc.2.1.2.2.2.2.1.2.1 2 (by decide)) dX5_writeWay_62 ?_
        obtain ⟨g26, hv⟩ := y_gd_e hv
        obtain ⟨h25, c24, hv⟩ := y_bi_e hv
        refine z_thV hc hB (z_runV hc hB 1 (mm_X1_putText hSK l ad o1 2 h22 c24) md_X1_putText qmX5_96 g26 (by decide) rfl rfl rfl ⟨by simp only [rm_X5_writeWay, rm_X1_putText]; omega, by simp only [rm_X5_writeWay, rm_X1_putText]; omega⟩ rfl hl.1 rfl (Nat.le_of_ble_eq_true rfl) dX5_writeWay_64 ⟨Nat.le_of_ble_eq_true rfl, Nat.le_of_ble_eq_true rfl⟩) (fun H locs hB => ?_)
        refine lv_aload_n hx hb dX5_writeWay_67 rfl (lv_at hl 1 rfl) ?_
        refine lv_aload_n hx hb dX5_writeWay_68 rfl (lv_at hl 2 rfl) ?_
        refine lv_iload_n hx hb dX5_writeWay_69 rfl (lv_at hl 3 rfl) ?_
        refine lv_iload hx hb dX5_writeWay_70 (lv_at hl 0 rfl) ?_
        refine lv_iconst (v := (1 : Int32)) hx hb dX5_writeWay_72 (by decide) ?_
        obtain ⟨r28, c27, hv⟩ := y_bi_e hv
        refine z_thI hc hB (z_runS hc hB (mm_X5_behind hSK l ad x2 v12 (1 : Int32) h25 c27) md_X5_behind qmX5_85 rfl rfl ⟨by simp only [rm_X5_writeWay, rm_X5_behind]; omega, by simp only [rm_X5_writeWay, rm_X5_behind]; omega⟩ rfl hl.1 rfl (Nat.le_of_ble_eq_true rfl) dX5_writeWay_73 ⟨Nat.le_of_ble_eq_true rfl, Nat.le_of_ble_eq_true rfl⟩) (fun H locs hB => ?_)
        refine lv_iload_n hx hb dX5_writeWay_76 rfl (lv_at hl 4 rfl) ?_
        refine lv_iconst (v := (1 : Int32)) hx hb dX5_writeWay_77 (by decide) ?_
        refine lv_iadd hx hb dX5_writeWay_78 ?_
        obtain ⟨g34, hv⟩ := y_gd_e hv
        obtain ⟨h33, c32, hv⟩ := y_bi_e hv
        refine z_thV hc hB (z_runV hc hB 5 (hrc o0 o1 r28 (x3 + (1 : Int32)) h25 c32) md_X5_writeWay qmX5_49 g34 (by decide) rfl rfl rfl ⟨by simp only [rm_X5_writeWay, rm_X5_writeWay]; omega, by simp only [rm_X5_writeWay, rm_X5_writeWay]; omega⟩ rfl hl.1 rfl (Nat.le_of_ble_eq_true rfl) dX5_writeWay_79 ⟨Nat.le_of_ble_eq_true rfl, Nat.le_of_ble_eq_true rfl⟩) (fun H locs hB => ?_)
        refine lv_aload_n hx hb dX5_writeWay_82 rfl (lv_at hl 2 rfl) ?_
        refine z_ldcS hc (hc.2.1.2.2.2.2.1.2.1 3 (by decide)) dX5_writeWay_83 ?_
        obtain ⟨g37, hv⟩ := y_gd_e hv
        obtain ⟨h36, c35, hv⟩ := y_bi_e hv
        refine z_thV hc hB (z_runV hc hB 1 (mm_X1_putText hSK l ad o1 3 h33 c35) md_X1_putText qmX5_96 g37 (by decide) rfl rfl rfl ⟨by simp only [rm_X5_writeWay, rm_X1_putText]; omega, by simp only [rm_X5_writeWay, rm_X1_putText]; omega⟩ rfl hl.1 rfl (Nat.le_of_ble_eq_true rfl) dX5_writeWay_85 ⟨Nat.le_of_ble_eq_true rfl, Nat.le_of_ble_eq_true rfl⟩) (fun H locs hB => ?_)
        refine lv_aload_n hx hb dX5_writeWay_88 rfl (lv_at hl 1 rfl) ?_
        refine lv_aload_n hx hb dX5_writeWay_89 rfl (lv_at hl 2 rfl) ?_
        refine lv_iload_n hx hb dX5_writeWay_90 rfl (lv_at hl 3 rfl) ?_
        refine lv_iload hx hb dX5_writeWay_91 (lv_at hl 0 rfl) ?_
        refine lv_iconst (v := (0 : Int32)) hx hb dX5_writeWay_93 (by decide) ?_
        obtain ⟨r39, c38, hv⟩ := y_bi_e hv
        refine z_thI hc hB (z_runS hc hB (mm_X5_behind hSK l ad x2 v12 (0 : Int32) h36 c38) md_X5_behind qmX5_85 rfl rfl ⟨by simp only [rm_X5_writeWay, rm_X5_behind]; omega, by simp only [rm_X5_writeWay, rm_X5_behind]; omega⟩ rfl hl.1 rfl (Nat.le_of_ble_eq_true rfl) dX5_writeWay_94 ⟨Nat.le_of_ble_eq_true rfl, Nat.le_of_ble_eq_true rfl⟩) (fun H locs hB => ?_)
        refine lv_iload_n hx hb dX5_writeWay_97 rfl (lv_at hl 4 rfl) ?_
        refine lv_iconst (v := (1 : Int32)) hx hb dX5_writeWay_98 (by decide) ?_
        refine lv_iadd hx hb dX5_writeWay_99 ?_
        obtain ⟨g45, hv⟩ := y_gd_e hv
        obtain ⟨h44, c43, hv⟩ := y_bi_e hv
        refine z_thV hc hB (z_runV hc hB 5 (hrc o0 o1 r39 (x3 + (1 : Int32)) h36 c43) md_X5_writeWay qmX5_49 g45 (by decide) rfl rfl rfl ⟨by simp only [rm_X5_writeWay, rm_X5_writeWay]; omega, by simp only [rm_X5_writeWay, rm_X5_writeWay]; omega⟩ rfl hl.1 rfl (Nat.le_of_ble_eq_true rfl) dX5_writeWay_100 ⟨Nat.le_of_ble_eq_true rfl, Nat.le_of_ble_eq_true rfl⟩) (fun H locs hB => ?_)
        refine lv_aload_n hx hb dX5_writeWay_103 rfl (lv_at hl 2 rfl) ?_
        refine z_ldcS hc (hc.2.1.2.2.2.2.1.2.1 4 (by decide)) dX5_writeWay_104 ?_
        obtain ⟨g48, hv⟩ := y_gd_e hv
        obtain ⟨h47, c46, hv⟩ := y_bi_e hv
        refine z_thV hc hB (z_runV hc hB 1 (mm_X1_putText hSK l ad o1 4 h44 c46) md_X1_putText qmX5_96 g48 (by decide) rfl rfl rfl ⟨by simp only [rm_X5_writeWay, rm_X1_putText]; omega, by simp only [rm_X5_writeWay, rm_X1_putText]; omega⟩ rfl hl.1 rfl (Nat.le_of_ble_eq_true rfl) dX5_writeWay_106 ⟨Nat.le_of_ble_eq_true rfl, Nat.le_of_ble_eq_true rfl⟩) (fun H locs hB => ?_)
        replace hv := Option.some.inj hv
        subst hv
        rw [← kt]
        exact z_vret hc hB hr dX5_writeWay_109
      · replace hv := y_br_t hv c13
        refine lv_aload_n hx hb dX5_writeWay_27 rfl (lv_at hl 2 rfl) ?_
        refine lv_aload_n hx hb dX5_writeWay_28 rfl (lv_at hl 1 rfl) ?_
        obtain ⟨ob49, eob49, hv⟩ := y_bi_e hv
        refine z_getR hc hB 5 3 g8 eob49 (by decide) (by decide) rfl (z_l1 hc qfX5_24) dX5_writeWay_29 ?_
        refine lv_iload_n hx hb dX5_writeWay_32 rfl (lv_at hl 3 rfl) ?_
        obtain ⟨g50, hv⟩ := y_gd_e hv
        obtain ⟨i51, hv⟩ := y_gd_e hv
        refine z_zald hc hB g50 i51 dX5_writeWay_33 ?_
        refine lv_if_eq (tgt := 42) hx hb dX5_writeWay_34 (by decide) (fun c52 => ?_) (fun c52 => ?_)
        · replace hv := y_br_t hv c52
          refine z_ldcS hc (hc.2.1.2.2.2.2.1.2.1 1 (by decide)) dX5_writeWay_42 ?_
          obtain ⟨g55, hv⟩ := y_gd_e hv
          obtain ⟨h54, c53, hv⟩ := y_bi_e hv
          refine z_thV hc hB (z_runV hc hB 1 (mm_X1_putText hSK l ad o1 1 h c53) md_X1_putText qmX5_96 g55 (by decide) rfl rfl rfl ⟨by simp only [rm_X5_writeWay, rm_X1_putText]; omega, by simp only [rm_X5_writeWay, rm_X1_putText]; omega⟩ rfl hl.1 rfl (Nat.le_of_ble_eq_true rfl) dX5_writeWay_44 ⟨Nat.le_of_ble_eq_true rfl, Nat.le_of_ble_eq_true rfl⟩) (fun H locs hB => ?_)
          replace hv := Option.some.inj hv
          subst hv
          rw [← kt]
          exact z_vret hc hB hr dX5_writeWay_47
        · replace hv := y_br_f hv c52
          refine z_ldcS hc (hc.2.1.2.2.2.2.1.2.1 0 (by decide)) dX5_writeWay_37 ?_
          refine lv_goto (tgt := 44) hx hb dX5_writeWay_39 (by decide) ?_
          obtain ⟨g58, hv⟩ := y_gd_e hv
          obtain ⟨h57, c56, hv⟩ := y_bi_e hv
          refine z_thV hc hB (z_runV hc hB 1 (mm_X1_putText hSK l ad o1 0 h c56) md_X1_putText qmX5_96 g58 (by decide) rfl rfl rfl ⟨by simp only [rm_X5_writeWay, rm_X1_putText]; omega, by simp only [rm_X5_writeWay, rm_X1_putText]; omega⟩ rfl hl.1 rfl (Nat.le_of_ble_eq_true rfl) dX5_writeWay_44 ⟨Nat.le_of_ble_eq_true rfl, Nat.le_of_ble_eq_true rfl⟩) (fun H locs hB => ?_)
          replace hv := Option.some.inj hv
          subst hv
          rw [← kt]
          exact z_vret hc hB hr dX5_writeWay_47
    · replace hv := y_br_f hv c7
      replace hv := Option.some.inj hv
      subst hv
      rw [← kt]
      exact z_vret hc hB hr dX5_writeWay_12
noncomputable def fX5_writeWay : Nat → Nat → Nat → Int32 → Int32 → z_T → Option (z_T)
  | 0, _, _, _, _, _ => none
  | d + 1, o0, o1, x2, x3, h => fX5_writeWay_s (fX5_writeWay d) o0 o1 x2 x3 h
theorem mm_X5_writeWay {G : z_Gt} (hSK : z_SK (z_S G)) (l : Launch) (ad : Nat → Nat) : ∀ (d : Nat) (o0 : Nat) (o1 : Nat) (x2 : Int32) (x3 : Int32) (h : z_T) {h9 : z_T}, fX5_writeWay d o0 o1 x2 x3 h = some h9 → z_Mv G (z_S G) l yX5_writeWay cX5_writeWay 5 (rm_X5_writeWay d) 0 0 [.ref (ad o0), .ref (ad o1), .int x2, .int x3] ad h h9
  | 0, o0, o1, x2, x3, h, _, hv => by cases hv
  | d + 1, o0, o1, x2, x3, h, _, hv => mh_X5_writeWay hSK l ad d (fX5_writeWay d) (fun o0 o1 x2 x3 h => fun hv => mm_X5_writeWay hSK l ad d o0 o1 x2 x3 h hv) o0 o1 x2 x3 h hv
theorem dX5_writeTo_0 : decode cX5_writeTo 0 = .ok (.aload_n 0, 1) := by decide +kernel
theorem dX5_writeTo_1 : decode cX5_writeTo 1 = .ok (.aload_n 1, 1) := by decide +kernel
theorem dX5_writeTo_2 : decode cX5_writeTo 2 = .ok (.iconst 0, 1) := by decide +kernel
theorem dX5_writeTo_3 : decode cX5_writeTo 3 = .ok (.iconst 0, 1) := by decide +kernel
theorem dX5_writeTo_4 : decode cX5_writeTo 4 = .ok (.invokevirtual 49, 3) := by decide +kernel
theorem dX5_writeTo_7 : decode cX5_writeTo 7 = .ok (.return_, 1) := by decide +kernel
abbrev rm_X5_writeTo : Room := { frames := 13, cells := 0, slots := 0, locals := 299 }
noncomputable def fX5_writeTo (o0 : Nat) (o1 : Nat) (h : z_T) : Option (z_T) :=
  y_gd (z_ok h o0 5) <|
  y_bi (fX5_writeWay 6 o0 o1 (0 : Int32) (0 : Int32) h) fun h2 =>
  some h2
set_option maxHeartbeats 4000000 in
set_option maxRecDepth 100000 in
theorem mm_X5_writeTo {G : z_Gt} (hSK : z_SK (z_S G)) (l : Launch) (ad : Nat → Nat) (o0 : Nat) (o1 : Nat) (h : z_T) {h9 : z_T} (hv : fX5_writeTo o0 o1 h = some h9) : z_Mv G (z_S G) l yX5_writeTo cX5_writeTo 2 rm_X5_writeTo 0 0 [.ref (ad o0), .ref (ad o1)] ad h h9 := by
  refine z_ofW hSK (by decide) (Nat.le_of_ble_eq_true rfl) ?_
  intro p e s m args below meth c ls hc hr hnm hB hl
  have hx := hc.1.1
  have hb := hc.1.2.1
  have hown := hc.1.2.2.2.1
  have hts := hc.1.2.2.2.2
  replace hc : z_C G (z_S G) ad (z_n h) p m c cX5_writeTo 2 s args RX5 meth := hc
  replace hown : s.vm.findClass RX5 = some m.cls := hown
  replace hl : lv_has ls 2 [(0, .ref (ad o0)), (1, .ref (ad o1))] := hl
  show W p l e rm_X5_writeTo s m args below meth c s.heap [] 0 0 (MQ below (z_Qv G ad h9 (z_n h) s.heap.size) args s 0 0 (z_A ad (z_n h) s.heap.size)) (F0 m 0 ls [])
  obtain ⟨rs, kt⟩ : ∃ rs : z_T, rs = h9 := ⟨_, rfl⟩
  generalize hn0 : z_n h = n0 at hc hB ⊢
  rw [← kt] at hv
  refine lv_aload_n hx hb dX5_writeTo_0 rfl (lv_at hl 0 rfl) ?_
  refine lv_aload_n hx hb dX5_writeTo_1 rfl (lv_at hl 1 rfl) ?_
  refine lv_iconst (v := (0 : Int32)) hx hb dX5_writeTo_2 (by decide) ?_
  refine lv_iconst (v := (0 : Int32)) hx hb dX5_writeTo_3 (by decide) ?_
  obtain ⟨g3, hv⟩ := y_gd_e hv
  obtain ⟨h2, c1, hv⟩ := y_bi_e hv
  refine z_thV hc hB (z_runV hc hB 5 (mm_X5_writeWay hSK l ad 6 o0 o1 (0 : Int32) (0 : Int32) h c1) md_X5_writeWay qmX5_49 g3 (by decide) rfl rfl rfl ⟨Nat.le_of_ble_eq_true rfl, Nat.le_of_ble_eq_true rfl⟩ rfl hl.1 rfl (Nat.le_of_ble_eq_true rfl) dX5_writeTo_4 ⟨Nat.le_of_ble_eq_true rfl, Nat.le_of_ble_eq_true rfl⟩) (fun H locs hB => ?_)
  replace hv := Option.some.inj hv
  subst hv
  rw [← kt]
  exact z_vret hc hB hr dX5_writeTo_7
theorem qmX11_233 : Cond.methodLink RX11 233 yX5_writeTo ∈ z_ws := List.mem_filter.mpr ⟨List.mem_append_right _ (List.mem_of_getElem? (i := 698) (by decide +kernel)), rfl⟩
theorem qc_X5_writeTo : Cond.code yX5_writeTo cX5_writeTo 2 none ∈ z_ws := List.mem_filter.mpr ⟨List.mem_append_right _ (List.mem_of_getElem? (i := 701) (by decide +kernel)), rfl⟩
theorem qi_X5_writeTo : Cond.instanceMethod yX5_writeTo ∈ z_ws := List.mem_filter.mpr ⟨List.mem_append_right _ (List.mem_of_getElem? (i := 699) (by decide +kernel)), rfl⟩
theorem qs_X5_writeTo : Cond.selects RX5 yX5_writeTo yX5_writeTo ∈ z_ws := List.mem_filter.mpr ⟨List.mem_append_right _ (List.mem_of_getElem? (i := 700) (by decide +kernel)), rfl⟩
theorem md_X5_writeTo : z_mdV yX5_writeTo cX5_writeTo 2 none 1 := ⟨⟨qn_RX5, qc_X5_writeTo, ⟨by decide +kernel, by decide +kernel, by decide +kernel⟩⟩, qi_X5_writeTo, qs_X5_writeTo⟩
theorem dX11_write_0 : decode cX11_write 0 = .ok (.aload_n 0, 1) := by decide +kernel
theorem dX11_write_1 : decode cX11_write 1 = .ok (.getfield 36, 3) := by decide +kernel
theorem dX11_write_4 : decode cX11_write 4 = .ok (.getfield 106, 3) := by decide +kernel
theorem dX11_write_7 : decode cX11_write 7 = .ok (.getfield 109, 3) := by decide +kernel
theorem dX11_write_10 : decode cX11_write 10 = .ok (.iload_n 1, 1) := by decide +kernel
theorem dX11_write_11 : decode cX11_write 11 = .ok (.invokestatic 220, 3) := by decide +kernel
theorem dX11_write_14 : decode cX11_write 14 = .ok (.ifCond .ne 5, 3) := by decide +kernel
theorem dX11_write_17 : decode cX11_write 17 = .ok (.iconst (-1), 1) := by decide +kernel
theorem dX11_write_18 : decode cX11_write 18 = .ok (.ireturn, 1) := by decide +kernel
theorem dX11_write_19 : decode cX11_write 19 = .ok (.aload_n 0, 1) := by decide +kernel
theorem dX11_write_20 : decode cX11_write 20 = .ok (.getfield 61, 3) := by decide +kernel
theorem dX11_write_23 : decode cX11_write 23 = .ok (.aload_n 0, 1) := by decide +kernel
theorem dX11_write_24 : decode cX11_write 24 = .ok (.getfield 36, 3) := by decide +kernel
theorem dX11_write_27 : decode cX11_write 27 = .ok (.getfield 106, 3) := by decide +kernel
theorem dX11_write_30 : decode cX11_write 30 = .ok (.getfield 109, 3) := by decide +kernel
theorem dX11_write_33 : decode cX11_write 33 = .ok (.iload_n 1, 1) := by decide +kernel
theorem dX11_write_34 : decode cX11_write 34 = .ok (.invokevirtual 224, 3) := by decide +kernel
theorem dX11_write_37 : decode cX11_write 37 = .ok (.aload_n 0, 1) := by decide +kernel
theorem dX11_write_38 : decode cX11_write 38 = .ok (.getfield 19, 3) := by decide +kernel
theorem dX11_write_41 : decode cX11_write 41 = .ok (.iconst 0, 1) := by decide +kernel
theorem dX11_write_42 : decode cX11_write 42 = .ok (.putfield 80, 3) := by decide +kernel
theorem dX11_write_45 : decode cX11_write 45 = .ok (.aload_n 0, 1) := by decide +kernel
theorem dX11_write_46 : decode cX11_write 46 = .ok (.getfield 61, 3) := by decide +kernel
theorem dX11_write_49 : decode cX11_write 49 = .ok (.aload_n 0, 1) := by decide +kernel
theorem dX11_write_50 : decode cX11_write 50 = .ok (.getfield 19, 3) := by decide +kernel
theorem dX11_write_53 : decode cX11_write 53 = .ok (.invokevirtual 233, 3) := by decide +kernel
theorem dX11_write_56 : decode cX11_write 56 = .ok (.aload_n 0, 1) := by decide +kernel
theorem dX11_write_57 : decode cX11_write 57 = .ok (.getfield 19, 3) := by decide +kernel
theorem dX11_write_60 : decode cX11_write 60 = .ok (.getfield 80, 3) := by decide +kernel
theorem dX11_write_63 : decode cX11_write 63 = .ok (.ireturn, 1) := by decide +kernel
abbrev rm_X11_write : Room := { frames := 19, cells := 0, slots := 0, locals := 602 }
noncomputable def fX11_write (o0 : Nat) (x1 : Int32) (h : z_T) : Option (Int32 × z_T) :=
  y_gd (z_ok h o0 10) <|
  y_bi (z_R h o0 3) fun o2 =>
  y_gd (z_ok h o2 8) <|
  y_bi (z_R h o2 0) fun o4 =>
  y_gd (z_ok h o4 2) <|
  y_bi (z_R h o4 0) fun o6 =>
  y_bi (fX5_isFor o6 x1 h) fun r8 =>
  y_br (r8 = 0)
    (some ((-1 : Int32), h))
    (y_bi (z_R h o0 7) fun o13 =>
    y_gd (z_ok h o13 5) <|
    y_bi (fX5_open o13 o6 x1 h) fun h15 =>
    y_gd (z_ok h15 o0 10) <|
    y_bi (z_R h15 o0 1) fun o18 =>
    y_gd (z_ok h15 o18 1) <|
    y_nm (z_sI h15 o18 1 (0 : Int32)) fun h20 =>
    y_bi (z_R h20 o0 7) fun o21 =>
    y_gd (z_ok h20 o21 5) <|
    y_bi (fX5_writeTo o21 o18 h20) fun h23 =>
    y_gd (z_ok h23 o0 10) <|
    y_bi (z_R h23 o0 1) fun o26 =>
    y_gd (z_ok h23 o26 1) <|
    some ((z_I h23 o26 1), h23))
set_option maxHeartbeats 4000000 in
set_option maxRecDepth 100000 in
theorem mm_X11_write {G : z_Gt} (hSK : z_SK (z_S G)) (l : Launch) (ad : Nat → Nat) (o0 : Nat) (x1 : Int32) (h : z_T) {r0 : Int32} {h9 : z_T} (hv : fX11_write o0 x1 h = some (r0, h9)) : z_Mi G (z_S G) l yX11_write cX11_write 2 (.int) rm_X11_write 0 0 [.ref (ad o0), .int x1] ad h h9 r0 := by
  refine z_ofW hSK (by decide) (Nat.le_of_ble_eq_true rfl) ?_
  intro p e s m args below meth c ls hc hr hnm hB hl
  have hx := hc.1.1
  have hb := hc.1.2.1
  have hown := hc.1.2.2.2.1
  have hts := hc.1.2.2.2.2
  replace hc : z_C G (z_S G) ad (z_n h) p m c cX11_write 2 s args RX11 meth := hc
  replace hown : s.vm.findClass RX11 = some m.cls := hown
  replace hl : lv_has ls 2 [(0, .ref (ad o0)), (1, .int x1)] := hl
  show W p l e rm_X11_write s m args below meth c s.heap [] 0 0 (MQ below (z_Qi G ad h9 (z_n h) s.heap.size r0) args s 0 0 (z_A ad (z_n h) s.heap.size)) (F0 m 0 ls [])
  obtain ⟨rs, kt⟩ : ∃ rs : Int32 × z_T, rs = (r0, h9) := ⟨_, rfl⟩
  generalize hn0 : z_n h = n0 at hc hB ⊢
  rw [← kt] at hv
  refine lv_aload_n hx hb dX11_write_0 rfl (lv_at hl 0 rfl) ?_
  obtain ⟨g1, hv⟩ := y_gd_e hv
  obtain ⟨o2, eo2, hv⟩ := y_bi_e hv
  refine z_getR hc hB 10 3 g1 eo2 (by decide) (by decide) rfl (z_l1 hc qfX11_36) dX11_write_1 ?_
  obtain ⟨g3, hv⟩ := y_gd_e hv
  obtain ⟨o4, eo4, hv⟩ := y_bi_e hv
  refine z_getR hc hB 8 0 g3 eo4 (by decide) (by decide) rfl (z_l2 hc qfX11_106) dX11_write_4 ?_
  obtain ⟨g5, hv⟩ := y_gd_e hv
  obtain ⟨o6, eo6, hv⟩ := y_bi_e hv
  refine z_getR hc hB 2 0 g5 eo6 (by decide) (by decide) rfl (z_l2 hc qfX11_109) dX11_write_7 ?_
  refine lv_iload_n hx hb dX11_write_10 rfl (lv_at hl 1 rfl) ?_
  obtain ⟨r8, c7, hv⟩ := y_bi_e hv
  refine z_thI hc hB (z_runS hc hB (mm_X5_isFor hSK l ad o6 x1 h c7) md_X5_isFor qmX11_220 rfl rfl ⟨Nat.le_of_ble_eq_true rfl, Nat.le_of_ble_eq_true rfl⟩ rfl hl.1 rfl (Nat.le_of_ble_eq_true rfl) dX11_write_11 ⟨Nat.le_of_ble_eq_true rfl, Nat.le_of_ble_eq_true rfl⟩) (fun H locs hB => ?_)
  refine lv_if_ne (tgt := 19) hx hb dX11_write_14 (by decide) (fun c12 => ?_) (fun c12 => ?_)
  · replace hv := y_br_f hv c12
    refine lv_aload_n hx hb dX11_write_19 rfl (lv_at hl 0 rfl) ?_
    obtain ⟨o13, eo13, hv⟩ := y_bi_e hv
    refine z_getR hc hB 10 7 g1 eo13 (by decide) (by decide) rfl (z_l1 hc qfX11_61) dX11_write_20 ?_
    refine lv_aload_n hx hb dX11_write_23 rfl (lv_at hl 0 rfl) ?_
    refine z_getR hc hB 10 3 g1 eo2 (by decide) (by decide) rfl (z_l1 hc qfX11_36) dX11_write_24 ?_
    refine z_getR hc hB 8 0 g3 eo4 (by decide) (by decide) rfl (z_l2 hc qfX11_106) dX11_write_27 ?_
    refine z_getR hc hB 2 0 g5 eo6 (by decide) (by decide) rfl (z_l2 hc qfX11_109) dX11_write_30 ?_
    refine lv_iload_n hx hb dX11_write_33 rfl (lv_at hl 1 rfl) ?_
    obtain ⟨g16, hv⟩ := y_gd_e hv
    obtain ⟨h15, c14, hv⟩ := y_bi_e hv
    refine z_thV hc hB (z_runV hc hB 5 (mm_X5_open hSK l ad o13 o6 x1 h c14) md_X5_open qmX11_224 g16 (by decide) rfl rfl rfl ⟨Nat.le_of_ble_eq_true rfl, Nat.le_of_ble_eq_true rfl⟩ rfl hl.1 rfl (Nat.le_of_ble_eq_true rfl) dX11_write_34 ⟨Nat.le_of_ble_eq_true rfl, Nat.le_of_ble_eq_true rfl⟩) (fun H locs hB => ?_)
    refine lv_aload_n hx hb dX11_write_37 rfl (lv_at hl 0 rfl) ?_
    obtain ⟨g17, hv⟩ := y_gd_e hv
    obtain ⟨o18, eo18, hv⟩ := y_bi_e hv
    refine z_getR hc hB 10 1 g17 eo18 (by decide) (by decide) rfl (z_l1 hc qfX11_19) dX11_write_38 ?_
    refine lv_iconst (v := (0 : Int32)) hx hb dX11_write_41 (by decide) ?_
    obtain ⟨g19, hv⟩ := y_gd_e hv
    obtain ⟨h20, eh20, hv⟩ := y_nm_e hv
    refine y_putI hc hB 1 1 eh20 g19 (z_l2 hc qfX11_80) dX11_write_42 (by decide) (by decide) rfl rfl rfl rfl (fun H locs hB => ?_)
    refine lv_aload_n hx hb dX11_write_45 rfl (lv_at hl 0 rfl) ?_
    obtain ⟨o21, eo21, hv⟩ := y_bi_e hv
    refine z_getR hc hB 10 7 (by rw [eh20]; exact g17) eo21 (by decide) (by decide) rfl (z_l1 hc qfX11_61) dX11_write_46 ?_
    refine lv_aload_n hx hb dX11_write_49 rfl (lv_at hl 0 rfl) ?_
    refine z_getR hc hB 10 1 (by rw [eh20]; exact g17) (by rw [eh20]; exact eo18) (by decide) (by decide) rfl (z_l1 hc qfX11_19) dX11_write_50 ?_
    obtain ⟨g24, hv⟩ := y_gd_e hv
    obtain ⟨h23, c22, hv⟩ := y_bi_e hv
    refine z_thV hc hB (z_runV hc hB 5 (mm_X5_writeTo hSK l ad o21 o18 h20 c22) md_X5_writeTo qmX11_233 g24 (by decide) rfl rfl rfl ⟨Nat.le_of_ble_eq_true rfl, Nat.le_of_ble_eq_true rfl⟩ rfl hl.1 rfl (Nat.le_of_ble_eq_true rfl) dX11_write_53 ⟨Nat.le_of_ble_eq_true rfl, Nat.le_of_ble_eq_true rfl⟩) (fun H locs hB => ?_)
    refine lv_aload_n hx hb dX11_write_56 rfl (lv_at hl 0 rfl) ?_
    obtain ⟨g25, hv⟩ := y_gd_e hv
    obtain ⟨o26, eo26, hv⟩ := y_bi_e hv
    refine z_getR hc hB 10 1 g25 eo26 (by decide) (by decide) rfl (z_l1 hc qfX11_19) dX11_write_57 ?_
    obtain ⟨g27, hv⟩ := y_gd_e hv
    refine z_getI hc hB 1 1 g27 (by decide) (by decide) rfl (z_l2 hc qfX11_80) dX11_write_60 ?_
    replace hv := Option.some.inj hv
    subst hv
    obtain ⟨e1, e2⟩ := y_pr kt
    rw [← e1, ← e2]
    exact z_iret hc hB hr dX11_write_63
  · replace hv := y_br_t hv c12
    refine lv_iconst (v := (-1 : Int32)) hx hb dX11_write_17 (by decide) ?_
    replace hv := Option.some.inj hv
    subst hv
    obtain ⟨e1, e2⟩ := y_pr kt
    rw [← e1, ← e2]
    exact z_iret hc hB hr dX11_write_18
