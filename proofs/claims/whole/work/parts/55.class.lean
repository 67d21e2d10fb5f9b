/-! the methods of the class: the rows that decode, a function each, the walk (by gen5.py) -/
theorem qmX9_76 : Cond.methodLinkNest RX9 76 yX11_power "DreamTests" ∈ z_nw := List.mem_filter.mpr ⟨List.mem_of_getElem? (i := 1192) (by decide +kernel), rfl⟩
theorem qmX9_69 : Cond.methodLink RX9 69 yX9_nodeAt ∈ z_ws := List.mem_filter.mpr ⟨List.mem_append_right _ (List.mem_of_getElem? (i := 824) (by decide +kernel)), rfl⟩
theorem qc_X9_nodeAt : Cond.code yX9_nodeAt cX9_nodeAt 2 (some .int) ∈ z_ws := List.mem_filter.mpr ⟨List.mem_append_right _ (List.mem_of_getElem? (i := 827) (by decide +kernel)), rfl⟩
theorem qi_X9_nodeAt : Cond.instanceMethod yX9_nodeAt ∈ z_ws := List.mem_filter.mpr ⟨List.mem_append_right _ (List.mem_of_getElem? (i := 826) (by decide +kernel)), rfl⟩
theorem qs_X9_nodeAt : Cond.selects RX9 yX9_nodeAt yX9_nodeAt ∈ z_ws := List.mem_filter.mpr ⟨List.mem_append_left _ (List.mem_of_getElem? (i := 14) (by decide +kernel)), rfl⟩
theorem md_X9_nodeAt : z_mdV yX9_nodeAt cX9_nodeAt 2 (some .int) 1 := ⟨⟨qn_RX9, qc_X9_nodeAt, ⟨by decide +kernel, by decide +kernel, by decide +kernel⟩⟩, qi_X9_nodeAt, qs_X9_nodeAt⟩
theorem qmX9_72 : Cond.methodLink RX9 72 yX0_plainChance ∈ z_ws := List.mem_filter.mpr ⟨List.mem_append_right _ (List.mem_of_getElem? (i := 1191) (by decide +kernel)), rfl⟩
theorem qmX9_66 : Cond.methodLink RX9 66 yX0_weightOf ∈ z_ws := List.mem_filter.mpr ⟨List.mem_append_right _ (List.mem_of_getElem? (i := 1190) (by decide +kernel)), rfl⟩
theorem dX9_likelyAt_0 : decode cX9_likelyAt 0 = .ok (.aload_n 3, 1) := by decide +kernel
theorem dX9_likelyAt_1 : decode cX9_likelyAt 1 = .ok (.iload_n 2, 1) := by decide +kernel
theorem dX9_likelyAt_2 : decode cX9_likelyAt 2 = .ok (.invokevirtual 66, 3) := by decide +kernel
theorem dX9_likelyAt_5 : decode cX9_likelyAt 5 = .ok (.i2l, 1) := by decide +kernel
theorem dX9_likelyAt_6 : decode cX9_likelyAt 6 = .ok (.lstore 4, 2) := by decide +kernel
theorem dX9_likelyAt_8 : decode cX9_likelyAt 8 = .ok (.iconst 0, 1) := by decide +kernel
theorem dX9_likelyAt_9 : decode cX9_likelyAt 9 = .ok (.istore 6, 2) := by decide +kernel
theorem dX9_likelyAt_11 : decode cX9_likelyAt 11 = .ok (.iload_n 1, 1) := by decide +kernel
theorem dX9_likelyAt_12 : decode cX9_likelyAt 12 = .ok (.istore 7, 2) := by decide +kernel
theorem dX9_likelyAt_14 : decode cX9_likelyAt 14 = .ok (.iload 7, 2) := by decide +kernel
theorem dX9_likelyAt_16 : decode cX9_likelyAt 16 = .ok (.iconst 1, 1) := by decide +kernel
theorem dX9_likelyAt_17 : decode cX9_likelyAt 17 = .ok (.if_icmp .le 54, 3) := by decide +kernel
theorem dX9_likelyAt_20 : decode cX9_likelyAt 20 = .ok (.aload_n 3, 1) := by decide +kernel
theorem dX9_likelyAt_21 : decode cX9_likelyAt 21 = .ok (.aload_n 0, 1) := by decide +kernel
theorem dX9_likelyAt_22 : decode cX9_likelyAt 22 = .ok (.iload 7, 2) := by decide +kernel
theorem dX9_likelyAt_24 : decode cX9_likelyAt 24 = .ok (.iconst 1, 1) := by decide +kernel
theorem dX9_likelyAt_25 : decode cX9_likelyAt 25 = .ok (.ishr, 1) := by decide +kernel
theorem dX9_likelyAt_26 : decode cX9_likelyAt 26 = .ok (.invokevirtual 69, 3) := by decide +kernel
theorem dX9_likelyAt_29 : decode cX9_likelyAt 29 = .ok (.iload_n 2, 1) := by decide +kernel
theorem dX9_likelyAt_30 : decode cX9_likelyAt 30 = .ok (.invokevirtual 72, 3) := by decide +kernel
theorem dX9_likelyAt_33 : decode cX9_likelyAt 33 = .ok (.istore 8, 2) := by decide +kernel
theorem dX9_likelyAt_35 : decode cX9_likelyAt 35 = .ok (.lload 4, 2) := by decide +kernel
theorem dX9_likelyAt_37 : decode cX9_likelyAt 37 = .ok (.iload 7, 2) := by decide +kernel
theorem dX9_likelyAt_39 : decode cX9_likelyAt 39 = .ok (.iconst 1, 1) := by decide +kernel
theorem dX9_likelyAt_40 : decode cX9_likelyAt 40 = .ok (.iand, 1) := by decide +kernel
theorem dX9_likelyAt_41 : decode cX9_likelyAt 41 = .ok (.ifCond .ne 9, 3) := by decide +kernel
theorem dX9_likelyAt_44 : decode cX9_likelyAt 44 = .ok (.iload 8, 2) := by decide +kernel
theorem dX9_likelyAt_46 : decode cX9_likelyAt 46 = .ok (.i2l, 1) := by decide +kernel
theorem dX9_likelyAt_47 : decode cX9_likelyAt 47 = .ok (.goto 9, 3) := by decide +kernel
theorem dX9_likelyAt_50 : decode cX9_likelyAt 50 = .ok (.bipush 9, 2) := by decide +kernel
theorem dX9_likelyAt_52 : decode cX9_likelyAt 52 = .ok (.iload 8, 2) := by decide +kernel
theorem dX9_likelyAt_54 : decode cX9_likelyAt 54 = .ok (.isub, 1) := by decide +kernel
theorem dX9_likelyAt_55 : decode cX9_likelyAt 55 = .ok (.i2l, 1) := by decide +kernel
theorem dX9_likelyAt_56 : decode cX9_likelyAt 56 = .ok (.lmul, 1) := by decide +kernel
theorem dX9_likelyAt_57 : decode cX9_likelyAt 57 = .ok (.lstore 4, 2) := by decide +kernel
theorem dX9_likelyAt_59 : decode cX9_likelyAt 59 = .ok (.iinc 6 1, 3) := by decide +kernel
theorem dX9_likelyAt_62 : decode cX9_likelyAt 62 = .ok (.iload 7, 2) := by decide +kernel
theorem dX9_likelyAt_64 : decode cX9_likelyAt 64 = .ok (.iconst 1, 1) := by decide +kernel
theorem dX9_likelyAt_65 : decode cX9_likelyAt 65 = .ok (.ishr, 1) := by decide +kernel
theorem dX9_likelyAt_66 : decode cX9_likelyAt 66 = .ok (.istore 7, 2) := by decide +kernel
theorem dX9_likelyAt_68 : decode cX9_likelyAt 68 = .ok (.goto (-54), 3) := by decide +kernel
theorem dX9_likelyAt_71 : decode cX9_likelyAt 71 = .ok (.lload 4, 2) := by decide +kernel
theorem dX9_likelyAt_73 : decode cX9_likelyAt 73 = .ok (.iconst 4, 1) := by decide +kernel
theorem dX9_likelyAt_74 : decode cX9_likelyAt 74 = .ok (.iload 6, 2) := by decide +kernel
theorem dX9_likelyAt_76 : decode cX9_likelyAt 76 = .ok (.isub, 1) := by decide +kernel
theorem dX9_likelyAt_77 : decode cX9_likelyAt 77 = .ok (.invokestatic 76, 3) := by decide +kernel
theorem dX9_likelyAt_80 : decode cX9_likelyAt 80 = .ok (.lmul, 1) := by decide +kernel
theorem dX9_likelyAt_81 : decode cX9_likelyAt 81 = .ok (.lreturn, 1) := by decide +kernel
abbrev rm_X9_likelyAt : Room := { frames := 2, cells := 0, slots := 0, locals := 44 }
noncomputable def fX9_likelyAt_b56 (o0 : Nat) (x2 : Int32) (o3 : Nat) (x6 : Int32) (x7 : Int32) (s0 : Int64) (s1 : Int64) (h : z_T) : Option ((Int64 × Int32 × Int32) ⊕ (Int64)) :=
  y_nm ((s0 * s1)) fun v1 =>
  y_nm (x6 + 1) fun v2 =>
  y_nm ((x7 >>> ((1 : Int32) &&& 31))) fun v3 =>
  some (.inl (v1, v2, v3))
noncomputable def fX9_likelyAt_b14_i (o0 : Nat) (x2 : Int32) (o3 : Nat) (h : z_T) (l4 : Int64) (x6 : Int32) (x7 : Int32) : Option ((Int64 × Int32 × Int32) ⊕ (Int64)) :=
  y_br (x7 ≤ (1 : Int32))
    (y_mp <|
    y_bi (fX11_power ((4 : Int32) - x6)) fun r8 =>
    some (l4 * r8))
    (y_gd (z_ok h o0 9) <|
    y_bi (fX9_nodeAt o0 (x7 >>> ((1 : Int32) &&& 31)) h) fun r12 =>
    y_gd (z_ok h o3 0) <|
    y_bi (fX0_plainChance o3 r12 x2 h) fun r18 =>
    y_br ((x7 &&& (1 : Int32)) = 0)
      (fX9_likelyAt_b56 o0 x2 o3 x6 x7 l4 ((r18).toInt64) h)
      (fX9_likelyAt_b56 o0 x2 o3 x6 x7 l4 ((((9 : Int32) - r18)).toInt64) h))
noncomputable def fX9_likelyAt_b14 (o0 : Nat) (x2 : Int32) (o3 : Nat) (l4 : Int64) (x6 : Int32) (x7 : Int32) (h : z_T) : Option (Int64) := y_lp (fun q : Int64 × Int32 × Int32 => fX9_likelyAt_b14_i o0 x2 o3 h q.1 q.2.1 q.2.2) (l4, x6, x7)
noncomputable def fX9_likelyAt (o0 : Nat) (x1 : Int32) (x2 : Int32) (o3 : Nat) (h : z_T) : Option (Int64) :=
  y_gd (z_ok h o3 0) <|
  y_bi (fX0_weightOf o3 x2 h) fun r25 =>
  y_nm ((r25).toInt64) fun v30 =>
  fX9_likelyAt_b14 o0 x2 o3 v30 (0 : Int32) x1 h
set_option maxHeartbeats 4000000 in
set_option maxRecDepth 100000 in
theorem mm_X9_likelyAt {G : z_Gt} (hSK : z_SK (z_S G)) (l : Launch) (ad : Nat → Nat) (o0 : Nat) (x1 : Int32) (x2 : Int32) (o3 : Nat) (h : z_T) {r0 : Int64} (hv : fX9_likelyAt o0 x1 x2 o3 h = some r0) : z_Ml G (z_S G) l yX9_likelyAt cX9_likelyAt 9 (.long) rm_X9_likelyAt 0 0 [.ref (ad o0), .int x1, .int x2, .ref (ad o3)] ad h h r0 := by
  refine z_ofW hSK (by decide) (Nat.le_of_ble_eq_true rfl) ?_
  intro p e s m args below meth c ls hc hr hnm hB hl
  have hx := hc.1.1
  have hb := hc.1.2.1
  have hown := hc.1.2.2.2.1
  have hts := hc.1.2.2.2.2
  replace hc : z_C G (z_S G) ad (z_n h) p m c cX9_likelyAt 9 s args RX9 meth := hc
  replace hown : s.vm.findClass RX9 = some m.cls := hown
  replace hl : lv_has ls 9 [(0, .ref (ad o0)), (1, .int x1), (2, .int x2), (3, .ref (ad o3))] := hl
  show W p l e rm_X9_likelyAt s m args below meth c s.heap [] 0 0 (MQ below (z_Ql G ad h (z_n h) s.heap.size r0) args s 0 0 (z_A ad (z_n h) s.heap.size)) (F0 m 0 ls [])
  obtain ⟨rs, kt⟩ : ∃ rs : Int64, rs = r0 := ⟨_, rfl⟩
  generalize hn0 : z_n h = n0 at hc hB ⊢
  have L14 : ∀ (nn14 : Nat) (l4 : Int64) (x6 : Int32) (x7 : Int32) (H : Heap) (locs : List Loc) (ls : Array Slot), z_B G ad n0 s h H locs → lv_has ls 9 [(0, .ref (ad o0)), (2, .int x2), (3, .ref (ad o3)), (4, .long l4), (6, .int x6), (7, .int x7)] → ∀ vv14, y_lpN (fun q : Int64 × Int32 × Int32 => fX9_likelyAt_b14_i o0 x2 o3 h q.1 q.2.1 q.2.2) nn14 (l4, x6, x7) = some vv14 → vv14 = r0 → W p l e rm_X9_likelyAt s m args below meth c H locs 0 0 (MQ below (z_Ql G ad h n0 s.heap.size r0) args s 0 0 (z_A ad n0 s.heap.size)) (F0 m 14 ls []) := by
    intro nn14
    induction nn14 with
    | zero => intro l4 x6 x7 H locs ls hB hl vv14 hv kv14; exact absurd hv (fun q => y_lpN_0 q)
    | succ nn14 ih14 =>
      intro l4 x6 x7 H locs ls hB hl vv14 hv kv14
      obtain ⟨w, hq, kw14⟩ := y_lpN_e hv
      clear hv
      have hv : fX9_likelyAt_b14_i o0 x2 o3 h l4 x6 x7 = some w := hq
      clear hq
      have b56 : ∀ (x6 : Int32) (x7 : Int32) (s0 : Int64) (s1 : Int64) (H : Heap) (locs : List Loc) (ls : Array Slot), z_B G ad n0 s h H locs → lv_has ls 9 [(0, .ref (ad o0)), (2, .int x2), (3, .ref (ad o3)), (6, .int x6), (7, .int x7)] → ∀ w, fX9_likelyAt_b56 o0 x2 o3 x6 x7 s0 s1 h = some w → y_lq (fun q : Int64 × Int32 × Int32 => fX9_likelyAt_b14_i o0 x2 o3 h q.1 q.2.1 q.2.2) nn14 vv14 w → W p l e rm_X9_likelyAt s m args below meth c H locs 0 0 (MQ below (z_Ql G ad h n0 s.heap.size r0) args s 0 0 (z_A ad n0 s.heap.size)) (F0 m 56 ls [.long s1, .long s0]) := by
        intro x6 x7 s0 s1 H locs ls hB hl w hv kw14
        refine lv_lmul hx hb dX9_likelyAt_56 ?_
        obtain ⟨v1, ev1, hv⟩ := y_nm_e hv
        rw [← ev1]
        refine lv_lstore (lv' := [(4, .long v1), (0, .ref (ad o0)), (2, .int x2), (3, .ref (ad o3)), (6, .int x6), (7, .int x7)]) hx hb dX9_likelyAt_57 hl (by decide) rfl (fun ls hl => ?_)
        obtain ⟨v2, ev2, hv⟩ := y_nm_e hv
        refine lv_iinc (v := v2) (lv' := [(6, .int v2), (4, .long v1), (0, .ref (ad o0)), (2, .int x2), (3, .ref (ad o3)), (7, .int x7)]) hx hb dX9_likelyAt_59 hl (k := 4) rfl (by rw [ev2]; rfl) (by decide) rfl (fun ls hl => ?_)
        refine lv_iload hx hb dX9_likelyAt_62 (lv_at hl 5 rfl) ?_
        refine lv_iconst (v := (1 : Int32)) hx hb dX9_likelyAt_64 (by decide) ?_
        refine lv_ishr hx hb dX9_likelyAt_65 ?_
        obtain ⟨v3, ev3, hv⟩ := y_nm_e hv
        rw [← ev3]
        refine lv_istore (lv' := [(7, .int v3), (6, .int v2), (4, .long v1), (0, .ref (ad o0)), (2, .int x2), (3, .ref (ad o3))]) hx hb dX9_likelyAt_66 hl (by decide) rfl (fun ls hl => ?_)
        refine lv_goto (tgt := 14) hx hb dX9_likelyAt_68 (by decide) ?_
        replace hv := Option.some.inj hv
        subst hv
        exact ih14 v1 v2 v3 _ _ _ hB (lv_sub hl [3, 4, 5, 2, 1, 0] rfl) _ kw14 kv14
      refine lv_iload hx hb dX9_likelyAt_14 (lv_at hl 5 rfl) ?_
      refine lv_iconst (v := (1 : Int32)) hx hb dX9_likelyAt_16 (by decide) ?_
      refine lv_icmp_le (tgt := 71) hx hb dX9_likelyAt_17 (by decide) (fun c4 => ?_) (fun c4 => ?_)
      · replace hv := y_br_t hv c4
        obtain ⟨t5, hq, ew⟩ := y_mp_e hv
        clear hv; subst ew
        replace kw14 : t5 = _ := kw14
        subst kw14
        have hv := hq
        clear hq
        refine lv_lload hx hb dX9_likelyAt_71 (lv_at hl 3 rfl) ?_
        refine lv_iconst (v := (4 : Int32)) hx hb dX9_likelyAt_73 (by decide) ?_
        refine lv_iload hx hb dX9_likelyAt_74 (lv_at hl 4 rfl) ?_
        refine lv_isub hx hb dX9_likelyAt_76 ?_
        obtain ⟨r8, c6, hv⟩ := y_bi_e hv
        refine z_thL hc hB (z_runSN hc hB (mm_X11_power hSK l ad ((4 : Int32) - x6) h c6) md_X11_power qmX9_76 rfl rfl ⟨Nat.le_of_ble_eq_true rfl, Nat.le_of_ble_eq_true rfl⟩ rfl hl.1 rfl (Nat.le_of_ble_eq_true rfl) dX9_likelyAt_77 ⟨Nat.le_of_ble_eq_true rfl, Nat.le_of_ble_eq_true rfl⟩) (fun H locs hB => ?_)
        refine lv_lmul hx hb dX9_likelyAt_80 ?_
        replace hv := Option.some.inj hv
        subst hv
        rw [← kv14]
        exact z_lret hc hB hr dX9_likelyAt_81
      · replace hv := y_br_f hv c4
        refine lv_aload_n hx hb dX9_likelyAt_20 rfl (lv_at hl 2 rfl) ?_
        refine lv_aload_n hx hb dX9_likelyAt_21 rfl (lv_at hl 0 rfl) ?_
        refine lv_iload hx hb dX9_likelyAt_22 (lv_at hl 5 rfl) ?_
        refine lv_iconst (v := (1 : Int32)) hx hb dX9_likelyAt_24 (by decide) ?_
        refine lv_ishr hx hb dX9_likelyAt_25 ?_
        obtain ⟨g16, hv⟩ := y_gd_e hv
        obtain ⟨r12, c11, hv⟩ := y_bi_e hv
        refine z_thI hc hB (z_runV hc hB 9 (mm_X9_nodeAt hSK l ad o0 (x7 >>> ((1 : Int32) &&& 31)) h c11) md_X9_nodeAt qmX9_69 g16 (by decide) rfl rfl rfl ⟨Nat.le_of_ble_eq_true rfl, Nat.le_of_ble_eq_true rfl⟩ rfl hl.1 rfl (Nat.le_of_ble_eq_true rfl) dX9_likelyAt_26 ⟨Nat.le_of_ble_eq_true rfl, Nat.le_of_ble_eq_true rfl⟩) (fun H locs hB => ?_)
        refine lv_iload_n hx hb dX9_likelyAt_29 rfl (lv_at hl 1 rfl) ?_
        obtain ⟨g22, hv⟩ := y_gd_e hv
        obtain ⟨r18, c17, hv⟩ := y_bi_e hv
        refine z_thI hc hB (z_runV hc hB 0 (mm_X0_plainChance hSK l ad o3 r12 x2 h c17) md_X0_plainChance qmX9_72 g22 (by decide) rfl rfl rfl ⟨Nat.le_of_ble_eq_true rfl, Nat.le_of_ble_eq_true rfl⟩ rfl hl.1 rfl (Nat.le_of_ble_eq_true rfl) dX9_likelyAt_30 ⟨Nat.le_of_ble_eq_true rfl, Nat.le_of_ble_eq_true rfl⟩) (fun H locs hB => ?_)
        refine lv_istore (lv' := [(8, .int r18), (0, .ref (ad o0)), (2, .int x2), (3, .ref (ad o3)), (4, .long l4), (6, .int x6), (7, .int x7)]) hx hb dX9_likelyAt_33 hl (by decide) rfl (fun ls hl => ?_)
        refine lv_lload hx hb dX9_likelyAt_35 (lv_at hl 4 rfl) ?_
        refine lv_iload hx hb dX9_likelyAt_37 (lv_at hl 6 rfl) ?_
        refine lv_iconst (v := (1 : Int32)) hx hb dX9_likelyAt_39 (by decide) ?_
        refine lv_iand hx hb dX9_likelyAt_40 ?_
        refine lv_if_ne (tgt := 50) hx hb dX9_likelyAt_41 (by decide) (fun c23 => ?_) (fun c23 => ?_)
        · replace hv := y_br_f hv c23
          refine lv_bipush (v := (9 : Int32)) hx hb dX9_likelyAt_50 (by decide) ?_
          refine lv_iload hx hb dX9_likelyAt_52 (lv_at hl 0 rfl) ?_
          refine lv_isub hx hb dX9_likelyAt_54 ?_
          refine lv_i2l hx hb dX9_likelyAt_55 rfl ?_
          exact b56 x6 x7 l4 ((((9 : Int32) - r18)).toInt64) _ _ _ hB (lv_sub hl [1, 2, 3, 5, 6] rfl) _ hv kw14
        · replace hv := y_br_t hv c23
          refine lv_iload hx hb dX9_likelyAt_44 (lv_at hl 0 rfl) ?_
          refine lv_i2l hx hb dX9_likelyAt_46 rfl ?_
          refine lv_goto (tgt := 56) hx hb dX9_likelyAt_47 (by decide) ?_
          exact b56 x6 x7 l4 ((r18).toInt64) _ _ _ hB (lv_sub hl [1, 2, 3, 5, 6] rfl) _ hv kw14
  rw [← kt] at hv
  refine lv_aload_n hx hb dX9_likelyAt_0 rfl (lv_at hl 3 rfl) ?_
  refine lv_iload_n hx hb dX9_likelyAt_1 rfl (lv_at hl 2 rfl) ?_
  obtain ⟨g29, hv⟩ := y_gd_e hv
  obtain ⟨r25, c24, hv⟩ := y_bi_e hv
  refine z_thI hc hB (z_runV hc hB 0 (mm_X0_weightOf hSK l ad o3 x2 h c24) md_X0_weightOf qmX9_66 g29 (by decide) rfl rfl rfl ⟨Nat.le_of_ble_eq_true rfl, Nat.le_of_ble_eq_true rfl⟩ rfl hl.1 rfl (Nat.le_of_ble_eq_true rfl) dX9_likelyAt_2 ⟨Nat.le_of_ble_eq_true rfl, Nat.le_of_ble_eq_true rfl⟩) (fun H locs hB => ?_)
  refine lv_i2l hx hb dX9_likelyAt_5 rfl ?_
  obtain ⟨v30, ev30, hv⟩ := y_nm_e hv
  rw [← ev30]
  refine lv_lstore (lv' := [(4, .long v30), (0, .ref (ad o0)), (1, .int x1), (2, .int x2), (3, .ref (ad o3))]) hx hb dX9_likelyAt_6 hl (by decide) rfl (fun ls hl => ?_)
  refine lv_iconst (v := (0 : Int32)) hx hb dX9_likelyAt_8 (by decide) ?_
  refine lv_istore (lv' := [(6, .int (0 : Int32)), (4, .long v30), (0, .ref (ad o0)), (1, .int x1), (2, .int x2), (3, .ref (ad o3))]) hx hb dX9_likelyAt_9 hl (by decide) rfl (fun ls hl => ?_)
  refine lv_iload_n hx hb dX9_likelyAt_11 rfl (lv_at hl 3 rfl) ?_
  refine lv_istore (lv' := [(7, .int x1), (6, .int (0 : Int32)), (4, .long v30), (0, .ref (ad o0)), (1, .int x1), (2, .int x2), (3, .ref (ad o3))]) hx hb dX9_likelyAt_12 hl (by decide) rfl (fun ls hl => ?_)
  obtain ⟨n, hv⟩ := y_lp_e hv
  exact L14 n v30 (0 : Int32) x1 _ _ _ hB (lv_sub hl [3, 5, 6, 2, 1, 0] rfl) _ hv kt
theorem qmX9_58 : Cond.methodLink RX9 58 yX0_setting ∈ z_ws := List.mem_filter.mpr ⟨List.mem_append_right _ (List.mem_of_getElem? (i := 1185) (by decide +kernel)), rfl⟩
theorem qmX9_62 : Cond.methodLink RX9 62 yX9_likelyAt ∈ z_ws := List.mem_filter.mpr ⟨List.mem_append_right _ (List.mem_of_getElem? (i := 1186) (by decide +kernel)), rfl⟩
theorem qc_X9_likelyAt : Cond.code yX9_likelyAt cX9_likelyAt 9 (some .long) ∈ z_ws := List.mem_filter.mpr ⟨List.mem_append_right _ (List.mem_of_getElem? (i := 1189) (by decide +kernel)), rfl⟩
theorem qi_X9_likelyAt : Cond.instanceMethod yX9_likelyAt ∈ z_ws := List.mem_filter.mpr ⟨List.mem_append_right _ (List.mem_of_getElem? (i := 1188) (by decide +kernel)), rfl⟩
theorem qs_X9_likelyAt : Cond.selects RX9 yX9_likelyAt yX9_likelyAt ∈ z_ws := List.mem_filter.mpr ⟨List.mem_append_left _ (List.mem_of_getElem? (i := 30) (by decide +kernel)), rfl⟩
theorem md_X9_likelyAt : z_mdV yX9_likelyAt cX9_likelyAt 9 (some .long) 3 := ⟨⟨qn_RX9, qc_X9_likelyAt, ⟨by decide +kernel, by decide +kernel, by decide +kernel⟩⟩, qi_X9_likelyAt, qs_X9_likelyAt⟩
theorem dX9_costBy_0 : decode cX9_costBy 0 = .ok (.lconst 0, 1) := by decide +kernel
theorem dX9_costBy_1 : decode cX9_costBy 1 = .ok (.lstore_n 2, 1) := by decide +kernel
theorem dX9_costBy_2 : decode cX9_costBy 2 = .ok (.iconst 1, 1) := by decide +kernel
theorem dX9_costBy_3 : decode cX9_costBy 3 = .ok (.istore 4, 2) := by decide +kernel
theorem dX9_costBy_5 : decode cX9_costBy 5 = .ok (.iload 4, 2) := by decide +kernel
theorem dX9_costBy_7 : decode cX9_costBy 7 = .ok (.aload_n 0, 1) := by decide +kernel
theorem dX9_costBy_8 : decode cX9_costBy 8 = .ok (.getfield 11, 3) := by decide +kernel
theorem dX9_costBy_11 : decode cX9_costBy 11 = .ok (.arraylength, 1) := by decide +kernel
theorem dX9_costBy_12 : decode cX9_costBy 12 = .ok (.if_icmp .ge 88, 3) := by decide +kernel
theorem dX9_costBy_15 : decode cX9_costBy 15 = .ok (.aload_n 0, 1) := by decide +kernel
theorem dX9_costBy_16 : decode cX9_costBy 16 = .ok (.getfield 11, 3) := by decide +kernel
theorem dX9_costBy_19 : decode cX9_costBy 19 = .ok (.iload 4, 2) := by decide +kernel
theorem dX9_costBy_21 : decode cX9_costBy 21 = .ok (.iaload, 1) := by decide +kernel
theorem dX9_costBy_22 : decode cX9_costBy 22 = .ok (.iconst (-1), 1) := by decide +kernel
theorem dX9_costBy_23 : decode cX9_costBy 23 = .ok (.if_icmp .ne 41, 3) := by decide +kernel
theorem dX9_costBy_26 : decode cX9_costBy 26 = .ok (.iconst 1, 1) := by decide +kernel
theorem dX9_costBy_27 : decode cX9_costBy 27 = .ok (.istore 5, 2) := by decide +kernel
theorem dX9_costBy_29 : decode cX9_costBy 29 = .ok (.iload 5, 2) := by decide +kernel
theorem dX9_costBy_31 : decode cX9_costBy 31 = .ok (.bipush 7, 2) := by decide +kernel
theorem dX9_costBy_33 : decode cX9_costBy 33 = .ok (.if_icmp .ge 28, 3) := by decide +kernel
theorem dX9_costBy_36 : decode cX9_costBy 36 = .ok (.lload_n 2, 1) := by decide +kernel
theorem dX9_costBy_37 : decode cX9_costBy 37 = .ok (.aload_n 1, 1) := by decide +kernel
theorem dX9_costBy_38 : decode cX9_costBy 38 = .ok (.iconst 4, 1) := by decide +kernel
theorem dX9_costBy_39 : decode cX9_costBy 39 = .ok (.invokevirtual 58, 3) := by decide +kernel
theorem dX9_costBy_42 : decode cX9_costBy 42 = .ok (.i2l, 1) := by decide +kernel
theorem dX9_costBy_43 : decode cX9_costBy 43 = .ok (.aload_n 0, 1) := by decide +kernel
theorem dX9_costBy_44 : decode cX9_costBy 44 = .ok (.iload 4, 2) := by decide +kernel
theorem dX9_costBy_46 : decode cX9_costBy 46 = .ok (.iload 5, 2) := by decide +kernel
theorem dX9_costBy_48 : decode cX9_costBy 48 = .ok (.aload_n 1, 1) := by decide +kernel
theorem dX9_costBy_49 : decode cX9_costBy 49 = .ok (.invokevirtual 62, 3) := by decide +kernel
theorem dX9_costBy_52 : decode cX9_costBy 52 = .ok (.lmul, 1) := by decide +kernel
theorem dX9_costBy_53 : decode cX9_costBy 53 = .ok (.ladd, 1) := by decide +kernel
theorem dX9_costBy_54 : decode cX9_costBy 54 = .ok (.lstore_n 2, 1) := by decide +kernel
theorem dX9_costBy_55 : decode cX9_costBy 55 = .ok (.iinc 5 1, 3) := by decide +kernel
theorem dX9_costBy_58 : decode cX9_costBy 58 = .ok (.goto (-29), 3) := by decide +kernel
theorem dX9_costBy_61 : decode cX9_costBy 61 = .ok (.goto 33, 3) := by decide +kernel
theorem dX9_costBy_64 : decode cX9_costBy 64 = .ok (.aload_n 0, 1) := by decide +kernel
theorem dX9_costBy_65 : decode cX9_costBy 65 = .ok (.getfield 11, 3) := by decide +kernel
theorem dX9_costBy_68 : decode cX9_costBy 68 = .ok (.iload 4, 2) := by decide +kernel
theorem dX9_costBy_70 : decode cX9_costBy 70 = .ok (.iaload, 1) := by decide +kernel
theorem dX9_costBy_71 : decode cX9_costBy 71 = .ok (.bipush (-2), 2) := by decide +kernel
theorem dX9_costBy_73 : decode cX9_costBy 73 = .ok (.if_icmp .ne 21, 3) := by decide +kernel
theorem dX9_costBy_76 : decode cX9_costBy 76 = .ok (.lload_n 2, 1) := by decide +kernel
theorem dX9_costBy_77 : decode cX9_costBy 77 = .ok (.aload_n 1, 1) := by decide +kernel
theorem dX9_costBy_78 : decode cX9_costBy 78 = .ok (.iconst 3, 1) := by decide +kernel
theorem dX9_costBy_79 : decode cX9_costBy 79 = .ok (.invokevirtual 58, 3) := by decide +kernel
theorem dX9_costBy_82 : decode cX9_costBy 82 = .ok (.i2l, 1) := by decide +kernel
theorem dX9_costBy_83 : decode cX9_costBy 83 = .ok (.aload_n 0, 1) := by decide +kernel
theorem dX9_costBy_84 : decode cX9_costBy 84 = .ok (.iload 4, 2) := by decide +kernel
theorem dX9_costBy_86 : decode cX9_costBy 86 = .ok (.iconst 0, 1) := by decide +kernel
theorem dX9_costBy_87 : decode cX9_costBy 87 = .ok (.aload_n 1, 1) := by decide +kernel
theorem dX9_costBy_88 : decode cX9_costBy 88 = .ok (.invokevirtual 62, 3) := by decide +kernel
theorem dX9_costBy_91 : decode cX9_costBy 91 = .ok (.lmul, 1) := by decide +kernel
theorem dX9_costBy_92 : decode cX9_costBy 92 = .ok (.ladd, 1) := by decide +kernel
theorem dX9_costBy_93 : decode cX9_costBy 93 = .ok (.lstore_n 2, 1) := by decide +kernel
theorem dX9_costBy_94 : decode cX9_costBy 94 = .ok (.iinc 4 1, 3) := by decide +kernel
theorem dX9_costBy_97 : decode cX9_costBy 97 = .ok (.goto (-92), 3) := by decide +kernel
theorem dX9_costBy_100 : decode cX9_costBy 100 = .ok (.lload_n 2, 1) := by decide +kernel
theorem dX9_costBy_101 : decode cX9_costBy 101 = .ok (.lreturn, 1) := by decide +kernel
abbrev rm_X9_costBy : Room := { frames := 3, cells := 0, slots := 0, locals := 72 }
noncomputable def fX9_costBy_b94 (o0 : Nat) (o1 : Nat) (l2 : Int64) (x4 : Int32) (h : z_T) : Option ((Int64 × Int32) ⊕ (Int64)) :=
  y_nm (x4 + 1) fun v1 =>
  some (.inl (l2, v1))
noncomputable def fX9_costBy_b29_i (o0 : Nat) (o1 : Nat) (x4 : Int32) (h : z_T) (l2 : Int64) (x5 : Int32) : Option ((Int64 × Int32) ⊕ ((Int64 × Int32) ⊕ (Int64))) :=
  y_br ((7 : Int32) ≤ x5)
    (y_mp <|
    fX9_costBy_b94 o0 o1 l2 x4 h)
    (y_gd (z_ok h o1 0) <|
    y_bi (fX0_setting o1 (4 : Int32) h) fun r5 =>
    y_gd (z_ok h o0 9) <|
    y_bi (fX9_likelyAt o0 x4 x5 o1 h) fun r12 =>
    y_nm ((l2 + ((r5).toInt64 * r12))) fun v16 =>
    y_nm (x5 + 1) fun v17 =>
    some (.inl (v16, v17)))
noncomputable def fX9_costBy_b29 (o0 : Nat) (o1 : Nat) (l2 : Int64) (x4 : Int32) (x5 : Int32) (h : z_T) : Option ((Int64 × Int32) ⊕ (Int64)) := y_lp (fun q : Int64 × Int32 => fX9_costBy_b29_i o0 o1 x4 h q.1 q.2) (l2, x5)
noncomputable def fX9_costBy_b5_i (o0 : Nat) (o1 : Nat) (h : z_T) (l2 : Int64) (x4 : Int32) : Option ((Int64 × Int32) ⊕ (Int64)) :=
  y_gd (z_ok h o0 9) <|
  y_bi (z_R h o0 0) fun ob19 =>
  y_gd (z_ok h ob19 13) <|
  y_br ((nI (z_N h ob19)) ≤ x4)
    (y_mp <|
    some l2)
    (y_gd (z_ix x4 (z_N h ob19)) <|
    y_br ((z_I h ob19 x4.toNatClampNeg) = (-1 : Int32))
      (fX9_costBy_b29 o0 o1 l2 x4 (1 : Int32) h)
      (y_gd (z_ix x4 (z_N h ob19)) <|
      y_br ((z_I h ob19 x4.toNatClampNeg) = (-2 : Int32))
        (y_gd (z_ok h o1 0) <|
        y_bi (fX0_setting o1 (3 : Int32) h) fun r28 =>
        y_bi (fX9_likelyAt o0 x4 (0 : Int32) o1 h) fun r35 =>
        y_nm ((l2 + ((r28).toInt64 * r35))) fun v38 =>
        fX9_costBy_b94 o0 o1 v38 x4 h)
        (fX9_costBy_b94 o0 o1 l2 x4 h)))
noncomputable def fX9_costBy_b5 (o0 : Nat) (o1 : Nat) (l2 : Int64) (x4 : Int32) (h : z_T) : Option (Int64) := y_lp (fun q : Int64 × Int32 => fX9_costBy_b5_i o0 o1 h q.1 q.2) (l2, x4)
noncomputable def fX9_costBy (o0 : Nat) (o1 : Nat) (h : z_T) : Option (Int64) :=
  fX9_costBy_b5 o0 o1 (0 : Int64) (1 : Int32) h
set_option maxHeartbeats 4000000 in
set_option maxRecDepth 100000 in
theorem mm_X9_costBy {G : z_Gt} (hSK : z_SK (z_S G)) (l : Launch) (ad : Nat → Nat) (o0 : Nat) (o1 : Nat) (h : z_T) {r0 : Int64} (hv : fX9_costBy o0 o1 h = some r0) : z_Ml G (z_S G) l yX9_costBy cX9_costBy 6 (.long) rm_X9_costBy 0 0 [.ref (ad o0), .ref (ad o1)] ad h h r0 := by
  refine z_ofW hSK (by decide) (Nat.le_of_ble_eq_true rfl) ?_
  intro p e s m args below meth c ls hc hr hnm hB hl
  have hx := hc.1.1
  have hb := hc.1.2.1
  have hown := hc.1.2.2.2.1
  have hts := hc.1.2.2.2.2
  replace hc : z_C G (z_S G) ad (z_n h) p m c cX9_costBy 6 s args RX9 meth := hc
  replace hown : s.vm.findClass RX9 = some m.cls := hown
  replace hl : lv_has ls 6 [(0, .ref (ad o0)), (1, .ref (ad o1))] := hl
  show W p l e rm_X9_costBy s m args below meth c s.heap [] 0 0 (MQ below (z_Ql G ad h (z_n h) s.heap.size r0) args s 0 0 (z_A ad (z_n h) s.heap.size)) (F0 m 0 ls [])
  obtain ⟨rs, kt⟩ : ∃ rs : Int64, rs = r0 := ⟨_, rfl⟩
  generalize hn0 : z_n h = n0 at hc hB ⊢
  have L5 : ∀ (nn5 : Nat) (l2 : Int64) (x4 : Int32) (H : Heap) (locs : List Loc) (ls : Array Slot), z_B G ad n0 s h H locs → lv_has ls 6 [(0, .ref (ad o0)), (1, .ref (ad o1)), (2, .long l2), (4, .int x4)] → ∀ vv5, y_lpN (fun q : Int64 × Int32 => fX9_costBy_b5_i o0 o1 h q.1 q.2) nn5 (l2, x4) = some vv5 → vv5 = r0 → W p l e rm_X9_costBy s m args below meth c H locs 0 0 (MQ below (z_Ql G ad h n0 s.heap.size r0) args s 0 0 (z_A ad n0 s.heap.size)) (F0 m 5 ls []) := by
    intro nn5
    induction nn5 with
    | zero => intro l2 x4 H locs ls hB hl vv5 hv kv5; exact absurd hv (fun q => y_lpN_0 q)
    | succ nn5 ih5 =>
      intro l2 x4 H locs ls hB hl vv5 hv kv5
      obtain ⟨w, hq, kw5⟩ := y_lpN_e hv
      clear hv
      have hv : fX9_costBy_b5_i o0 o1 h l2 x4 = some w := hq
      clear hq
      have b94 : ∀ (l2 : Int64) (x4 : Int32) (H : Heap) (locs : List Loc) (ls : Array Slot), z_B G ad n0 s h H locs → lv_has ls 6 [(0, .ref (ad o0)), (1, .ref (ad o1)), (2, .long l2), (4, .int x4)] → ∀ w, fX9_costBy_b94 o0 o1 l2 x4 h = some w → y_lq (fun q : Int64 × Int32 => fX9_costBy_b5_i o0 o1 h q.1 q.2) nn5 vv5 w → W p l e rm_X9_costBy s m args below meth c H locs 0 0 (MQ below (z_Ql G ad h n0 s.heap.size r0) args s 0 0 (z_A ad n0 s.heap.size)) (F0 m 94 ls []) := by
        intro l2 x4 H locs ls hB hl w hv kw5
        obtain ⟨v1, ev1, hv⟩ := y_nm_e hv
        refine lv_iinc (v := v1) (lv' := [(4, .int v1), (0, .ref (ad o0)), (1, .ref (ad o1)), (2, .long l2)]) hx hb dX9_costBy_94 hl (k := 3) rfl (by rw [ev1]; rfl) (by decide) rfl (fun ls hl => ?_)
        refine lv_goto (tgt := 5) hx hb dX9_costBy_97 (by decide) ?_
        replace hv := Option.some.inj hv
        subst hv
        exact ih5 l2 v1 _ _ _ hB (lv_sub hl [1, 2, 3, 0] rfl) _ kw5 kv5
      have L29 : ∀ (x4 : Int32) (nn29 : Nat) (l2 : Int64) (x5 : Int32) (H : Heap) (locs : List Loc) (ls : Array Slot), z_B G ad n0 s h H locs → lv_has ls 6 [(0, .ref (ad o0)), (1, .ref (ad o1)), (2, .long l2), (4, .int x4), (5, .int x5)] → ∀ vv29, y_lpN (fun q : Int64 × Int32 => fX9_costBy_b29_i o0 o1 x4 h q.1 q.2) nn29 (l2, x5) = some vv29 → y_lq (fun q : Int64 × Int32 => fX9_costBy_b5_i o0 o1 h q.1 q.2) nn5 vv5 vv29 → W p l e rm_X9_costBy s m args below meth c H locs 0 0 (MQ below (z_Ql G ad h n0 s.heap.size r0) args s 0 0 (z_A ad n0 s.heap.size)) (F0 m 29 ls []) := by
        intro x4 nn29
        induction nn29 with
        | zero => intro l2 x5 H locs ls hB hl vv29 hv kv29; exact absurd hv (fun q => y_lpN_0 q)
        | succ nn29 ih29 =>
          intro l2 x5 H locs ls hB hl vv29 hv kv29
          obtain ⟨w, hq, kw29⟩ := y_lpN_e hv
          clear hv
          have hv : fX9_costBy_b29_i o0 o1 x4 h l2 x5 = some w := hq
          clear hq
          refine lv_iload hx hb dX9_costBy_29 (lv_at hl 4 rfl) ?_
          refine lv_bipush (v := (7 : Int32)) hx hb dX9_costBy_31 (by decide) ?_
          refine lv_icmp_ge (tgt := 61) hx hb dX9_costBy_33 (by decide) (fun c2 => ?_) (fun c2 => ?_)
          · replace hv := y_br_t hv c2
            obtain ⟨t3, hq, ew⟩ := y_mp_e hv
            clear hv; subst ew
            replace kw29 : t3 = _ := kw29
            subst kw29
            have hv := hq
            clear hq
            refine lv_goto (tgt := 94) hx hb dX9_costBy_61 (by decide) ?_
            exact b94 l2 x4 _ _ _ hB (lv_sub hl [0, 1, 2, 3] rfl) _ hv kv29
          · replace hv := y_br_f hv c2
            refine lv_lload_n hx hb dX9_costBy_36 rfl (lv_at hl 2 rfl) ?_
            refine lv_aload_n hx hb dX9_costBy_37 rfl (lv_at hl 1 rfl) ?_
            refine lv_iconst (v := (4 : Int32)) hx hb dX9_costBy_38 (by decide) ?_
            obtain ⟨g9, hv⟩ := y_gd_e hv
            obtain ⟨r5, c4, hv⟩ := y_bi_e hv
            refine z_thI hc hB (z_runV hc hB 0 (mm_X0_setting hSK l ad o1 (4 : Int32) h c4) md_X0_setting qmX9_58 g9 (by decide) rfl rfl rfl ⟨Nat.le_of_ble_eq_true rfl, Nat.le_of_ble_eq_true rfl⟩ rfl hl.1 rfl (Nat.le_of_ble_eq_true rfl) dX9_costBy_39 ⟨Nat.le_of_ble_eq_true rfl, Nat.le_of_ble_eq_true rfl⟩) (fun H locs hB => ?_)
            refine lv_i2l hx hb dX9_costBy_42 rfl ?_
            refine lv_aload_n hx hb dX9_costBy_43 rfl (lv_at hl 0 rfl) ?_
            refine lv_iload hx hb dX9_costBy_44 (lv_at hl 3 rfl) ?_
            refine lv_iload hx hb dX9_costBy_46 (lv_at hl 4 rfl) ?_
            refine lv_aload_n hx hb dX9_costBy_48 rfl (lv_at hl 1 rfl) ?_
            obtain ⟨g15, hv⟩ := y_gd_e hv
            obtain ⟨r12, c10, hv⟩ := y_bi_e hv
            refine z_thL hc hB (z_runV hc hB 9 (mm_X9_likelyAt hSK l ad o0 x4 x5 o1 h c10) md_X9_likelyAt qmX9_62 g15 (by decide) rfl rfl rfl ⟨Nat.le_of_ble_eq_true rfl, Nat.le_of_ble_eq_true rfl⟩ rfl hl.1 rfl (Nat.le_of_ble_eq_true rfl) dX9_costBy_49 ⟨Nat.le_of_ble_eq_true rfl, Nat.le_of_ble_eq_true rfl⟩) (fun H locs hB => ?_)
            refine lv_lmul hx hb dX9_costBy_52 ?_
            refine lv_ladd hx hb dX9_costBy_53 ?_
            obtain ⟨v16, ev16, hv⟩ := y_nm_e hv
            rw [← ev16]
            refine lv_lstore_n (lv' := [(2, .long v16), (0, .ref (ad o0)), (1, .ref (ad o1)), (4, .int x4), (5, .int x5)]) hx hb dX9_costBy_54 rfl hl (by decide) rfl (fun ls hl => ?_)
            obtain ⟨v17, ev17, hv⟩ := y_nm_e hv
            refine lv_iinc (v := v17) (lv' := [(5, .int v17), (2, .long v16), (0, .ref (ad o0)), (1, .ref (ad o1)), (4, .int x4)]) hx hb dX9_costBy_55 hl (k := 4) rfl (by rw [ev17]; rfl) (by decide) rfl (fun ls hl => ?_)
            refine lv_goto (tgt := 29) hx hb dX9_costBy_58 (by decide) ?_
            replace hv := Option.some.inj hv
            subst hv
            exact ih29 v16 v17 _ _ _ hB (lv_sub hl [2, 3, 1, 4, 0] rfl) _ kw29 kv29
      refine lv_iload hx hb dX9_costBy_5 (lv_at hl 3 rfl) ?_
      refine lv_aload_n hx hb dX9_costBy_7 rfl (lv_at hl 0 rfl) ?_
      obtain ⟨g18, hv⟩ := y_gd_e hv
      obtain ⟨ob19, eob19, hv⟩ := y_bi_e hv
      refine z_getR hc hB 9 0 g18 eob19 (by decide) (by decide) rfl (z_l1 hc qfX9_11) dX9_costBy_8 ?_
      obtain ⟨g20, hv⟩ := y_gd_e hv
      refine z_alen hc hB 13 (by decide) (by decide) g20 dX9_costBy_11 ?_
      refine lv_icmp_ge (tgt := 100) hx hb dX9_costBy_12 (by decide) (fun c21 => ?_) (fun c21 => ?_)
      · replace hv := y_br_t hv c21
        obtain ⟨t22, hq, ew⟩ := y_mp_e hv
        clear hv; subst ew
        replace kw5 : t22 = _ := kw5
        subst kw5
        have hv := hq
        clear hq
        refine lv_lload_n hx hb dX9_costBy_100 rfl (lv_at hl 2 rfl) ?_
        replace hv := Option.some.inj hv
        subst hv
        rw [← kv5]
        exact z_lret hc hB hr dX9_costBy_101
      · replace hv := y_br_f hv c21
        refine lv_aload_n hx hb dX9_costBy_15 rfl (lv_at hl 0 rfl) ?_
        refine z_getR hc hB 9 0 g18 eob19 (by decide) (by decide) rfl (z_l1 hc qfX9_11) dX9_costBy_16 ?_
        refine lv_iload hx hb dX9_costBy_19 (lv_at hl 3 rfl) ?_
        obtain ⟨i23, hv⟩ := y_gd_e hv
        refine z_iald hc hB g20 i23 dX9_costBy_21 ?_
        refine lv_iconst (v := (-1 : Int32)) hx hb dX9_costBy_22 (by decide) ?_
        refine lv_icmp_ne (tgt := 64) hx hb dX9_costBy_23 (by decide) (fun c24 => ?_) (fun c24 => ?_)
        · replace hv := y_br_f hv c24
          refine lv_aload_n hx hb dX9_costBy_64 rfl (lv_at hl 0 rfl) ?_
          refine z_getR hc hB 9 0 g18 eob19 (by decide) (by decide) rfl (z_l1 hc qfX9_11) dX9_costBy_65 ?_
          refine lv_iload hx hb dX9_costBy_68 (lv_at hl 3 rfl) ?_
          obtain ⟨i25, hv⟩ := y_gd_e hv
          refine z_iald hc hB g20 i25 dX9_costBy_70 ?_
          refine lv_bipush (v := (-2 : Int32)) hx hb dX9_costBy_71 (by decide) ?_
          refine lv_icmp_ne (tgt := 94) hx hb dX9_costBy_73 (by decide) (fun c26 => ?_) (fun c26 => ?_)
          · replace hv := y_br_f hv c26
            exact b94 l2 x4 _ _ _ hB (lv_sub hl [0, 1, 2, 3] rfl) _ hv kw5
          · replace hv := y_br_t hv c26
            refine lv_lload_n hx hb dX9_costBy_76 rfl (lv_at hl 2 rfl) ?_
            refine lv_aload_n hx hb dX9_costBy_77 rfl (lv_at hl 1 rfl) ?_
            refine lv_iconst (v := (3 : Int32)) hx hb dX9_costBy_78 (by decide) ?_
            obtain ⟨g32, hv⟩ := y_gd_e hv
            obtain ⟨r28, c27, hv⟩ := y_bi_e hv
            refine z_thI hc hB (z_runV hc hB 0 (mm_X0_setting hSK l ad o1 (3 : Int32) h c27) md_X0_setting qmX9_58 g32 (by decide) rfl rfl rfl ⟨Nat.le_of_ble_eq_true rfl, Nat.le_of_ble_eq_true rfl⟩ rfl hl.1 rfl (Nat.le_of_ble_eq_true rfl) dX9_costBy_79 ⟨Nat.le_of_ble_eq_true rfl, Nat.le_of_ble_eq_true rfl⟩) (fun H locs hB => ?_)
            refine lv_i2l hx hb dX9_costBy_82 rfl ?_
            refine lv_aload_n hx hb dX9_costBy_83 rfl (lv_at hl 0 rfl) ?_
            refine lv_iload hx hb dX9_costBy_84 (lv_at hl 3 rfl) ?_
            refine lv_iconst (v := (0 : Int32)) hx hb dX9_costBy_86 (by decide) ?_
            refine lv_aload_n hx hb dX9_costBy_87 rfl (lv_at hl 1 rfl) ?_
            obtain ⟨r35, c33, hv⟩ := y_bi_e hv
            refine z_thL hc hB (z_runV hc hB 9 (mm_X9_likelyAt hSK l ad o0 x4 (0 : Int32) o1 h c33) md_X9_likelyAt qmX9_62 g18 (by decide) rfl rfl rfl ⟨Nat.le_of_ble_eq_true rfl, Nat.le_of_ble_eq_true rfl⟩ rfl hl.1 rfl (Nat.le_of_ble_eq_true rfl) dX9_costBy_88 ⟨Nat.le_of_ble_eq_true rfl, Nat.le_of_ble_eq_true rfl⟩) (fun H locs hB => ?_)
            refine lv_lmul hx hb dX9_costBy_91 ?_
            refine lv_ladd hx hb dX9_costBy_92 ?_
            obtain ⟨v38, ev38, hv⟩ := y_nm_e hv
            rw [← ev38]
            refine lv_lstore_n (lv' := [(2, .long v38), (0, .ref (ad o0)), (1, .ref (ad o1)), (4, .int x4)]) hx hb dX9_costBy_93 rfl hl (by decide) rfl (fun ls hl => ?_)
            exact b94 v38 x4 _ _ _ hB (lv_sub hl [1, 2, 0, 3] rfl) _ hv kw5
        · replace hv := y_br_t hv c24
          refine lv_iconst (v := (1 : Int32)) hx hb dX9_costBy_26 (by decide) ?_
          refine lv_istore (lv' := [(5, .int (1 : Int32)), (0, .ref (ad o0)), (1, .ref (ad o1)), (2, .long l2), (4, .int x4)]) hx hb dX9_costBy_27 hl (by decide) rfl (fun ls hl => ?_)
          obtain ⟨n, hv⟩ := y_lp_e hv
          exact L29 x4 n l2 (1 : Int32) _ _ _ hB (lv_sub hl [1, 2, 3, 4, 0] rfl) _ hv kw5
  rw [← kt] at hv
  refine lv_lconst (v := (0 : Int64)) hx hb dX9_costBy_0 (by decide) ?_
  refine lv_lstore_n (lv' := [(2, .long (0 : Int64)), (0, .ref (ad o0)), (1, .ref (ad o1))]) hx hb dX9_costBy_1 rfl hl (by decide) rfl (fun ls hl => ?_)
  refine lv_iconst (v := (1 : Int32)) hx hb dX9_costBy_2 (by decide) ?_
  refine lv_istore (lv' := [(4, .int (1 : Int32)), (2, .long (0 : Int64)), (0, .ref (ad o0)), (1, .ref (ad o1))]) hx hb dX9_costBy_3 hl (by decide) rfl (fun ls hl => ?_)
  obtain ⟨n, hv⟩ := y_lp_e hv
  exact L5 n (0 : Int64) (1 : Int32) _ _ _ hB (lv_sub hl [2, 3, 1, 0] rfl) _ hv kt
theorem qfX9_80 : Cond.fieldLinkNest RX9 80 "DreamTests$Night" "asked" "I" "DreamTests" ∈ z_nw := List.mem_filter.mpr ⟨List.mem_of_getElem? (i := 167) (by decide +kernel), rfl⟩
theorem qmX9_85 : Cond.methodLink RX9 85 yX2_answerAt ∈ z_ws := List.mem_filter.mpr ⟨List.mem_append_right _ (List.mem_of_getElem? (i := 823) (by decide +kernel)), rfl⟩
theorem qc_X2_answerAt : Cond.code yX2_answerAt cX2_answerAt 2 (some .int) ∈ z_ws := List.mem_filter.mpr ⟨List.mem_append_right _ (List.mem_of_getElem? (i := 569) (by decide +kernel)), rfl⟩
theorem qi_X2_answerAt : Cond.instanceMethod yX2_answerAt ∈ z_ws := List.mem_filter.mpr ⟨List.mem_append_right _ (List.mem_of_getElem? (i := 567) (by decide +kernel)), rfl⟩
theorem qs_X2_answerAt : Cond.selects RX2 yX2_answerAt yX2_answerAt ∈ z_ws := List.mem_filter.mpr ⟨List.mem_append_right _ (List.mem_of_getElem? (i := 568) (by decide +kernel)), rfl⟩
theorem md_X2_answerAt : z_mdV yX2_answerAt cX2_answerAt 2 (some .int) 1 := ⟨⟨qn_RX2, qc_X2_answerAt, ⟨by decide +kernel, by decide +kernel, by decide +kernel⟩⟩, qi_X2_answerAt, qs_X2_answerAt⟩
theorem dX9_actBehind_0 : decode cX9_actBehind 0 = .ok (.iconst 1, 1) := by decide +kernel
theorem dX9_actBehind_1 : decode cX9_actBehind 1 = .ok (.istore_n 2, 1) := by decide +kernel
theorem dX9_actBehind_2 : decode cX9_actBehind 2 = .ok (.iconst 0, 1) := by decide +kernel
theorem dX9_actBehind_3 : decode cX9_actBehind 3 = .ok (.istore_n 3, 1) := by decide +kernel
theorem dX9_actBehind_4 : decode cX9_actBehind 4 = .ok (.iload_n 3, 1) := by decide +kernel
theorem dX9_actBehind_5 : decode cX9_actBehind 5 = .ok (.aload_n 1, 1) := by decide +kernel
theorem dX9_actBehind_6 : decode cX9_actBehind 6 = .ok (.getfield 80, 3) := by decide +kernel
theorem dX9_actBehind_9 : decode cX9_actBehind 9 = .ok (.if_icmp .ge 50, 3) := by decide +kernel
theorem dX9_actBehind_12 : decode cX9_actBehind 12 = .ok (.aload_n 1, 1) := by decide +kernel
theorem dX9_actBehind_13 : decode cX9_actBehind 13 = .ok (.iload_n 3, 1) := by decide +kernel
theorem dX9_actBehind_14 : decode cX9_actBehind 14 = .ok (.invokevirtual 85, 3) := by decide +kernel
theorem dX9_actBehind_17 : decode cX9_actBehind 17 = .ok (.istore 4, 2) := by decide +kernel
theorem dX9_actBehind_19 : decode cX9_actBehind 19 = .ok (.aload_n 0, 1) := by decide +kernel
theorem dX9_actBehind_20 : decode cX9_actBehind 20 = .ok (.iload_n 2, 1) := by decide +kernel
theorem dX9_actBehind_21 : decode cX9_actBehind 21 = .ok (.invokevirtual 69, 3) := by decide +kernel
theorem dX9_actBehind_24 : decode cX9_actBehind 24 = .ok (.ifCond .lt 15, 3) := by decide +kernel
theorem dX9_actBehind_27 : decode cX9_actBehind 27 = .ok (.aload_n 0, 1) := by decide +kernel
theorem dX9_actBehind_28 : decode cX9_actBehind 28 = .ok (.iload_n 2, 1) := by decide +kernel
theorem dX9_actBehind_29 : decode cX9_actBehind 29 = .ok (.invokevirtual 69, 3) := by decide +kernel
theorem dX9_actBehind_32 : decode cX9_actBehind 32 = .ok (.iload 4, 2) := by decide +kernel
theorem dX9_actBehind_34 : decode cX9_actBehind 34 = .ok (.iconst 1, 1) := by decide +kernel
theorem dX9_actBehind_35 : decode cX9_actBehind 35 = .ok (.ishr, 1) := by decide +kernel
theorem dX9_actBehind_36 : decode cX9_actBehind 36 = .ok (.if_icmp .eq 6, 3) := by decide +kernel
theorem dX9_actBehind_39 : decode cX9_actBehind 39 = .ok (.bipush (-2), 2) := by decide +kernel
theorem dX9_actBehind_41 : decode cX9_actBehind 41 = .ok (.ireturn, 1) := by decide +kernel
theorem dX9_actBehind_42 : decode cX9_actBehind 42 = .ok (.iconst 2, 1) := by decide +kernel
theorem dX9_actBehind_43 : decode cX9_actBehind 43 = .ok (.iload_n 2, 1) := by decide +kernel
theorem dX9_actBehind_44 : decode cX9_actBehind 44 = .ok (.imul, 1) := by decide +kernel
theorem dX9_actBehind_45 : decode cX9_actBehind 45 = .ok (.iconst 1, 1) := by decide +kernel
theorem dX9_actBehind_46 : decode cX9_actBehind 46 = .ok (.iadd, 1) := by decide +kernel
theorem dX9_actBehind_47 : decode cX9_actBehind 47 = .ok (.iload 4, 2) := by decide +kernel
theorem dX9_actBehind_49 : decode cX9_actBehind 49 = .ok (.iconst 1, 1) := by decide +kernel
theorem dX9_actBehind_50 : decode cX9_actBehind 50 = .ok (.iand, 1) := by decide +kernel
theorem dX9_actBehind_51 : decode cX9_actBehind 51 = .ok (.isub, 1) := by decide +kernel
theorem dX9_actBehind_52 : decode cX9_actBehind 52 = .ok (.istore_n 2, 1) := by decide +kernel
theorem dX9_actBehind_53 : decode cX9_actBehind 53 = .ok (.iinc 3 1, 3) := by decide +kernel
theorem dX9_actBehind_56 : decode cX9_actBehind 56 = .ok (.goto (-52), 3) := by decide +kernel
theorem dX9_actBehind_59 : decode cX9_actBehind 59 = .ok (.aload_n 0, 1) := by decide +kernel
theorem dX9_actBehind_60 : decode cX9_actBehind 60 = .ok (.iload_n 2, 1) := by decide +kernel
theorem dX9_actBehind_61 : decode cX9_actBehind 61 = .ok (.invokevirtual 69, 3) := by decide +kernel
theorem dX9_actBehind_64 : decode cX9_actBehind 64 = .ok (.istore_n 3, 1) := by decide +kernel
theorem dX9_actBehind_65 : decode cX9_actBehind 65 = .ok (.iload_n 3, 1) := by decide +kernel
theorem dX9_actBehind_66 : decode cX9_actBehind 66 = .ok (.ifCond .ge 14, 3) := by decide +kernel
theorem dX9_actBehind_69 : decode cX9_actBehind 69 = .ok (.iload_n 3, 1) := by decide +kernel
theorem dX9_actBehind_70 : decode cX9_actBehind 70 = .ok (.iconst (-1), 1) := by decide +kernel
theorem dX9_actBehind_71 : decode cX9_actBehind 71 = .ok (.if_icmp .ne 7, 3) := by decide +kernel
theorem dX9_actBehind_74 : decode cX9_actBehind 74 = .ok (.iconst 1, 1) := by decide +kernel
theorem dX9_actBehind_75 : decode cX9_actBehind 75 = .ok (.goto 4, 3) := by decide +kernel
theorem dX9_actBehind_78 : decode cX9_actBehind 78 = .ok (.iconst 0, 1) := by decide +kernel
theorem dX9_actBehind_79 : decode cX9_actBehind 79 = .ok (.ireturn, 1) := by decide +kernel
theorem dX9_actBehind_80 : decode cX9_actBehind 80 = .ok (.bipush 10, 2) := by decide +kernel
theorem dX9_actBehind_82 : decode cX9_actBehind 82 = .ok (.iload_n 3, 1) := by decide +kernel
theorem dX9_actBehind_83 : decode cX9_actBehind 83 = .ok (.iadd, 1) := by decide +kernel
theorem dX9_actBehind_84 : decode cX9_actBehind 84 = .ok (.ireturn, 1) := by decide +kernel
abbrev rm_X9_actBehind : Room := { frames := 1, cells := 0, slots := 0, locals := 21 }
noncomputable def fX9_actBehind_b4_i (o0 : Nat) (o1 : Nat) (h : z_T) (x2 : Int32) (x3 : Int32) : Option ((Int32 × Int32) ⊕ (Int32)) :=
  y_gd (z_ok h o1 2) <|
  y_br ((z_I h o1 1) ≤ x3)
    (y_mp <|
    y_gd (z_ok h o0 9) <|
    y_bi (fX9_nodeAt o0 x2 h) fun r5 =>
    y_br (0 ≤ r5)
      (some ((10 : Int32) + r5))
      (y_br (r5 = (-1 : Int32))
        (some (1 : Int32))
        (some (0 : Int32))))
    (y_bi (fX2_answerAt o1 x3 h) fun r13 =>
    y_gd (z_ok h o0 9) <|
    y_bi (fX9_nodeAt o0 x2 h) fun r18 =>
    y_br (r18 < 0)
      (y_mp <|
      some (-2 : Int32))
      (y_bi (fX9_nodeAt o0 x2 h) fun r26 =>
      y_br (r26 = (r13 >>> ((1 : Int32) &&& 31)))
        (y_nm (((((2 : Int32) * x2) + (1 : Int32)) - (r13 &&& (1 : Int32)))) fun v31 =>
        y_nm (x3 + 1) fun v32 =>
        some (.inl (v31, v32)))
        (y_mp <|
        some (-2 : Int32))))
noncomputable def fX9_actBehind_b4 (o0 : Nat) (o1 : Nat) (x2 : Int32) (x3 : Int32) (h : z_T) : Option (Int32) := y_lp (fun q : Int32 × Int32 => fX9_actBehind_b4_i o0 o1 h q.1 q.2) (x2, x3)
noncomputable def fX9_actBehind (o0 : Nat) (o1 : Nat) (h : z_T) : Option (Int32) :=
  fX9_actBehind_b4 o0 o1 (1 : Int32) (0 : Int32) h
set_option maxHeartbeats 4000000 in
set_option maxRecDepth 100000 in
theorem mm_X9_actBehind {G : z_Gt} (hSK : z_SK (z_S G)) (l : Launch) (ad : Nat → Nat) (o0 : Nat) (o1 : Nat) (h : z_T) {r0 : Int32} (hv : fX9_actBehind o0 o1 h = some r0) : z_Mi G (z_S G) l yX9_actBehind cX9_actBehind 5 (.int) rm_X9_actBehind 0 0 [.ref (ad o0), .ref (ad o1)] ad h h r0 := by
  refine z_ofW hSK (by decide) (Nat.le_of_ble_eq_true rfl) ?_
  intro p e s m args below meth c ls hc hr hnm hB hl
  have hx := hc.1.1
  have hb := hc.1.2.1
  have hown := hc.1.2.2.2.1
  have hts := hc.1.2.2.2.2
  replace hc : z_C G (z_S G) ad (z_n h) p m c cX9_actBehind 5 s args RX9 meth := hc
  replace hown : s.vm.findClass RX9 = some m.cls := hown
  replace hl : lv_has ls 5 [(0, .ref (ad o0)), (1, .ref (ad o1))] := hl
  show W p l e rm_X9_actBehind s m args below meth c s.heap [] 0 0 (MQ below (z_Qi G ad h (z_n h) s.heap.size r0) args s 0 0 (z_A ad (z_n h) s.heap.size)) (F0 m 0 ls [])
  obtain ⟨rs, kt⟩ : ∃ rs : Int32, rs = r0 := ⟨_, rfl⟩
  generalize hn0 : z_n h = n0 at hc hB ⊢
  have L4 : ∀ (nn4 : Nat) (x2 : Int32) (x3 : Int32) (H : Heap) (locs : List Loc) (ls : Array Slot), z_B G ad n0 s h H locs → lv_has ls 5 [(0, .ref (ad o0)), (1, .ref (ad o1)), (2, .int x2), (3, .int x3)] → ∀ vv4, y_lpN (fun q : Int32 × Int32 => fX9_actBehind_b4_i o0 o1 h q.1 q.2) nn4 (x2, x3) = some vv4 → vv4 = r0 → W p l e rm_X9_actBehind s m args below meth c H locs 0 0 (MQ below (z_Qi G ad h n0 s.heap.size r0) args s 0 0 (z_A ad n0 s.heap.size)) (F0 m 4 ls []) := by
    intro nn4
    induction nn4 with
    | zero => intro x2 x3 H locs ls hB hl vv4 hv kv4; exact absurd hv (fun q => y_lpN_0 q)
    | succ nn4 ih4 =>
      intro x2 x3 H locs ls hB hl vv4 hv kv4
      obtain ⟨w, hq, kw4⟩ := y_lpN_e hv
      clear hv
      have hv : fX9_actBehind_b4_i o0 o1 h x2 x3 = some w := hq
      clear hq
      refine lv_iload_n hx hb dX9_actBehind_4 rfl (lv_at hl 3 rfl) ?_
      refine lv_aload_n hx hb dX9_actBehind_5 rfl (lv_at hl 1 rfl) ?_
      obtain ⟨g1, hv⟩ := y_gd_e hv
      refine z_getI hc hB 2 1 g1 (by decide) (by decide) rfl (z_l2 hc qfX9_80) dX9_actBehind_6 ?_
      refine lv_icmp_ge (tgt := 59) hx hb dX9_actBehind_9 (by decide) (fun c2 => ?_) (fun c2 => ?_)
      · replace hv := y_br_t hv c2
        obtain ⟨t3, hq, ew⟩ := y_mp_e hv
        clear hv; subst ew
        replace kw4 : t3 = _ := kw4
        subst kw4
        have hv := hq
        clear hq
        refine lv_aload_n hx hb dX9_actBehind_59 rfl (lv_at hl 0 rfl) ?_
        refine lv_iload_n hx hb dX9_actBehind_60 rfl (lv_at hl 2 rfl) ?_
        obtain ⟨g9, hv⟩ := y_gd_e hv
        obtain ⟨r5, c4, hv⟩ := y_bi_e hv
        refine z_thI hc hB (z_runV hc hB 9 (mm_X9_nodeAt hSK l ad o0 x2 h c4) md_X9_nodeAt qmX9_69 g9 (by decide) rfl rfl rfl ⟨Nat.le_of_ble_eq_true rfl, Nat.le_of_ble_eq_true rfl⟩ rfl hl.1 rfl (Nat.le_of_ble_eq_true rfl) dX9_actBehind_61 ⟨Nat.le_of_ble_eq_true rfl, Nat.le_of_ble_eq_true rfl⟩) (fun H locs hB => ?_)
        refine lv_istore_n (lv' := [(3, .int r5), (0, .ref (ad o0)), (1, .ref (ad o1)), (2, .int x2)]) hx hb dX9_actBehind_64 rfl hl (by decide) rfl (fun ls hl => ?_)
        refine lv_iload_n hx hb dX9_actBehind_65 rfl (lv_at hl 0 rfl) ?_
        refine lv_if_ge (tgt := 80) hx hb dX9_actBehind_66 (by decide) (fun c10 => ?_) (fun c10 => ?_)
        · replace hv := y_br_t hv c10
          refine lv_bipush (v := (10 : Int32)) hx hb dX9_actBehind_80 (by decide) ?_
          refine lv_iload_n hx hb dX9_actBehind_82 rfl (lv_at hl 0 rfl) ?_
          refine lv_iadd hx hb dX9_actBehind_83 ?_
          replace hv := Option.some.inj hv
          subst hv
          rw [← kv4]
          exact z_iret hc hB hr dX9_actBehind_84
        · replace hv := y_br_f hv c10
          refine lv_iload_n hx hb dX9_actBehind_69 rfl (lv_at hl 0 rfl) ?_
          refine lv_iconst (v := (-1 : Int32)) hx hb dX9_actBehind_70 (by decide) ?_
          refine lv_icmp_ne (tgt := 78) hx hb dX9_actBehind_71 (by decide) (fun c11 => ?_) (fun c11 => ?_)
          · replace hv := y_br_f hv c11
            refine lv_iconst (v := (0 : Int32)) hx hb dX9_actBehind_78 (by decide) ?_
            replace hv := Option.some.inj hv
            subst hv
            rw [← kv4]
            exact z_iret hc hB hr dX9_actBehind_79
          · replace hv := y_br_t hv c11
            refine lv_iconst (v := (1 : Int32)) hx hb dX9_actBehind_74 (by decide) ?_
            refine lv_goto (tgt := 79) hx hb dX9_actBehind_75 (by decide) ?_
            replace hv := Option.some.inj hv
            subst hv
            rw [← kv4]
            exact z_iret hc hB hr dX9_actBehind_79
      · replace hv := y_br_f hv c2
        refine lv_aload_n hx hb dX9_actBehind_12 rfl (lv_at hl 1 rfl) ?_
        refine lv_iload_n hx hb dX9_actBehind_13 rfl (lv_at hl 3 rfl) ?_
        obtain ⟨r13, c12, hv⟩ := y_bi_e hv
        refine z_thI hc hB (z_runV hc hB 2 (mm_X2_answerAt hSK l ad o1 x3 h c12) md_X2_answerAt qmX9_85 g1 (by decide) rfl rfl rfl ⟨Nat.le_of_ble_eq_true rfl, Nat.le_of_ble_eq_true rfl⟩ rfl hl.1 rfl (Nat.le_of_ble_eq_true rfl) dX9_actBehind_14 ⟨Nat.le_of_ble_eq_true rfl, Nat.le_of_ble_eq_true rfl⟩) (fun H locs hB => ?_)
        refine lv_istore (lv' := [(4, .int r13), (0, .ref (ad o0)), (1, .ref (ad o1)), (2, .int x2), (3, .int x3)]) hx hb dX9_actBehind_17 hl (by decide) rfl (fun ls hl => ?_)
        refine lv_aload_n hx hb dX9_actBehind_19 rfl (lv_at hl 1 rfl) ?_
        refine lv_iload_n hx hb dX9_actBehind_20 rfl (lv_at hl 3 rfl) ?_
        obtain ⟨g22, hv⟩ := y_gd_e hv
        obtain ⟨r18, c17, hv⟩ := y_bi_e hv
        refine z_thI hc hB (z_runV hc hB 9 (mm_X9_nodeAt hSK l ad o0 x2 h c17) md_X9_nodeAt qmX9_69 g22 (by decide) rfl rfl rfl ⟨Nat.le_of_ble_eq_true rfl, Nat.le_of_ble_eq_true rfl⟩ rfl hl.1 rfl (Nat.le_of_ble_eq_true rfl) dX9_actBehind_21 ⟨Nat.le_of_ble_eq_true rfl, Nat.le_of_ble_eq_true rfl⟩) (fun H locs hB => ?_)
        refine lv_if_lt (tgt := 39) hx hb dX9_actBehind_24 (by decide) (fun c23 => ?_) (fun c23 => ?_)
        · replace hv := y_br_t hv c23
          obtain ⟨t24, hq, ew⟩ := y_mp_e hv
          clear hv; subst ew
          replace kw4 : t24 = _ := kw4
          subst kw4
          have hv := hq
          clear hq
          refine lv_bipush (v := (-2 : Int32)) hx hb dX9_actBehind_39 (by decide) ?_
          replace hv := Option.some.inj hv
          subst hv
          rw [← kv4]
          exact z_iret hc hB hr dX9_actBehind_41
        · replace hv := y_br_f hv c23
          refine lv_aload_n hx hb dX9_actBehind_27 rfl (lv_at hl 1 rfl) ?_
          refine lv_iload_n hx hb dX9_actBehind_28 rfl (lv_at hl 3 rfl) ?_
          obtain ⟨r26, c25, hv⟩ := y_bi_e hv
          refine z_thI hc hB (z_runV hc hB 9 (mm_X9_nodeAt hSK l ad o0 x2 h c25) md_X9_nodeAt qmX9_69 g22 (by decide) rfl rfl rfl ⟨Nat.le_of_ble_eq_true rfl, Nat.le_of_ble_eq_true rfl⟩ rfl hl.1 rfl (Nat.le_of_ble_eq_true rfl) dX9_actBehind_29 ⟨Nat.le_of_ble_eq_true rfl, Nat.le_of_ble_eq_true rfl⟩) (fun H locs hB => ?_)
          refine lv_iload hx hb dX9_actBehind_32 (lv_at hl 0 rfl) ?_
          refine lv_iconst (v := (1 : Int32)) hx hb dX9_actBehind_34 (by decide) ?_
          refine lv_ishr hx hb dX9_actBehind_35 ?_
          refine lv_icmp_eq (tgt := 42) hx hb dX9_actBehind_36 (by decide) (fun c30 => ?_) (fun c30 => ?_)
          · replace hv := y_br_t hv c30
            refine lv_iconst (v := (2 : Int32)) hx hb dX9_actBehind_42 (by decide) ?_
            refine lv_iload_n hx hb dX9_actBehind_43 rfl (lv_at hl 3 rfl) ?_
            refine lv_imul hx hb dX9_actBehind_44 ?_
            refine lv_iconst (v := (1 : Int32)) hx hb dX9_actBehind_45 (by decide) ?_
            refine lv_iadd hx hb dX9_actBehind_46 ?_
            refine lv_iload hx hb dX9_actBehind_47 (lv_at hl 0 rfl) ?_
            refine lv_iconst (v := (1 : Int32)) hx hb dX9_actBehind_49 (by decide) ?_
            refine lv_iand hx hb dX9_actBehind_50 ?_
            refine lv_isub hx hb dX9_actBehind_51 ?_
            obtain ⟨v31, ev31, hv⟩ := y_nm_e hv
            rw [← ev31]
            refine lv_istore_n (lv' := [(2, .int v31), (4, .int r13), (0, .ref (ad o0)), (1, .ref (ad o1)), (3, .int x3)]) hx hb dX9_actBehind_52 rfl hl (by decide) rfl (fun ls hl => ?_)
            obtain ⟨v32, ev32, hv⟩ := y_nm_e hv
            refine lv_iinc (v := v32) (lv' := [(3, .int v32), (2, .int v31), (4, .int r13), (0, .ref (ad o0)), (1, .ref (ad o1))]) hx hb dX9_actBehind_53 hl (k := 4) rfl (by rw [ev32]; rfl) (by decide) rfl (fun ls hl => ?_)
            refine lv_goto (tgt := 4) hx hb dX9_actBehind_56 (by decide) ?_
            replace hv := Option.some.inj hv
            subst hv
            exact ih4 v31 v32 _ _ _ hB (lv_sub hl [3, 4, 1, 0] rfl) _ kw4 kv4
          · replace hv := y_br_f hv c30
            obtain ⟨t33, hq, ew⟩ := y_mp_e hv
            clear hv; subst ew
            replace kw4 : t33 = _ := kw4
            subst kw4
            have hv := hq
            clear hq
            refine lv_bipush (v := (-2 : Int32)) hx hb dX9_actBehind_39 (by decide) ?_
            replace hv := Option.some.inj hv
            subst hv
            rw [← kv4]
            exact z_iret hc hB hr dX9_actBehind_41
  rw [← kt] at hv
  refine lv_iconst (v := (1 : Int32)) hx hb dX9_actBehind_0 (by decide) ?_
  refine lv_istore_n (lv' := [(2, .int (1 : Int32)), (0, .ref (ad o0)), (1, .ref (ad o1))]) hx hb dX9_actBehind_1 rfl hl (by decide) rfl (fun ls hl => ?_)
  refine lv_iconst (v := (0 : Int32)) hx hb dX9_actBehind_2 (by decide) ?_
  refine lv_istore_n (lv' := [(3, .int (0 : Int32)), (2, .int (1 : Int32)), (0, .ref (ad o0)), (1, .ref (ad o1))]) hx hb dX9_actBehind_3 rfl hl (by decide) rfl (fun ls hl => ?_)
  obtain ⟨n, hv⟩ := y_lp_e hv
  exact L4 n (1 : Int32) (0 : Int32) _ _ _ hB (lv_sub hl [2, 3, 1, 0] rfl) _ hv kt
theorem qfX11_15 : Cond.fieldLink RX11 15 "DreamTests" "tape" "LDreamTests$Bytes;" ∈ z_ws := List.mem_filter.mpr ⟨List.mem_append_right _ (List.mem_of_getElem? (i := 287) (by decide +kernel)), rfl⟩
theorem qmX11_72 : Cond.methodLink RX11 72 yX1_left ∈ z_ws := List.mem_filter.mpr ⟨List.mem_append_right _ (List.mem_of_getElem? (i := 319) (by decide +kernel)), rfl⟩
theorem qc_X1_left : Cond.code yX1_left cX1_left 1 (some .int) ∈ z_ws := List.mem_filter.mpr ⟨List.mem_append_right _ (List.mem_of_getElem? (i := 322) (by decide +kernel)), rfl⟩
theorem qi_X1_left : Cond.instanceMethod yX1_left ∈ z_ws := List.mem_filter.mpr ⟨List.mem_append_right _ (List.mem_of_getElem? (i := 320) (by decide +kernel)), rfl⟩
theorem qs_X1_left : Cond.selects RX1 yX1_left yX1_left ∈ z_ws := List.mem_filter.mpr ⟨List.mem_append_right _ (List.mem_of_getElem? (i := 321) (by decide +kernel)), rfl⟩
theorem md_X1_left : z_mdV yX1_left cX1_left 1 (some .int) 0 := ⟨⟨qn_RX1, qc_X1_left, ⟨by decide +kernel, by decide +kernel, by decide +kernel⟩⟩, qi_X1_left, qs_X1_left⟩
theorem qmX11_76 : Cond.methodLink RX11 76 yX1_putNumber ∈ z_ws := List.mem_filter.mpr ⟨List.mem_append_right _ (List.mem_of_getElem? (i := 323) (by decide +kernel)), rfl⟩
theorem qc_X1_putNumber : Cond.code yX1_putNumber cX1_putNumber 2 none ∈ z_ws := List.mem_filter.mpr ⟨List.mem_append_right _ (List.mem_of_getElem? (i := 326) (by decide +kernel)), rfl⟩
theorem qi_X1_putNumber : Cond.instanceMethod yX1_putNumber ∈ z_ws := List.mem_filter.mpr ⟨List.mem_append_right _ (List.mem_of_getElem? (i := 324) (by decide +kernel)), rfl⟩
theorem qs_X1_putNumber : Cond.selects RX1 yX1_putNumber yX1_putNumber ∈ z_ws := List.mem_filter.mpr ⟨List.mem_append_right _ (List.mem_of_getElem? (i := 325) (by decide +kernel)), rfl⟩
theorem md_X1_putNumber : z_mdV yX1_putNumber cX1_putNumber 2 none 1 := ⟨⟨qn_RX1, qc_X1_putNumber, ⟨by decide +kernel, by decide +kernel, by decide +kernel⟩⟩, qi_X1_putNumber, qs_X1_putNumber⟩
theorem qfX11_80 : Cond.fieldLinkNest RX11 80 "DreamTests$Bytes" "size" "I" "DreamTests" ∈ z_nw := List.mem_filter.mpr ⟨List.mem_of_getElem? (i := 90) (by decide +kernel), rfl⟩
theorem dX11_feed_0 : decode cX11_feed 0 = .ok (.aload_n 0, 1) := by decide +kernel
theorem dX11_feed_1 : decode cX11_feed 1 = .ok (.getfield 15, 3) := by decide +kernel
theorem dX11_feed_4 : decode cX11_feed 4 = .ok (.invokevirtual 72, 3) := by decide +kernel
theorem dX11_feed_7 : decode cX11_feed 7 = .ok (.bipush 20, 2) := by decide +kernel
theorem dX11_feed_9 : decode cX11_feed 9 = .ok (.if_icmp .ge 5, 3) := by decide +kernel
theorem dX11_feed_12 : decode cX11_feed 12 = .ok (.iconst (-1), 1) := by decide +kernel
theorem dX11_feed_13 : decode cX11_feed 13 = .ok (.ireturn, 1) := by decide +kernel
theorem dX11_feed_14 : decode cX11_feed 14 = .ok (.aload_n 0, 1) := by decide +kernel
theorem dX11_feed_15 : decode cX11_feed 15 = .ok (.getfield 15, 3) := by decide +kernel
theorem dX11_feed_18 : decode cX11_feed 18 = .ok (.iload_n 1, 1) := by decide +kernel
theorem dX11_feed_19 : decode cX11_feed 19 = .ok (.invokevirtual 76, 3) := by decide +kernel
theorem dX11_feed_22 : decode cX11_feed 22 = .ok (.aload_n 0, 1) := by decide +kernel
theorem dX11_feed_23 : decode cX11_feed 23 = .ok (.getfield 15, 3) := by decide +kernel
theorem dX11_feed_26 : decode cX11_feed 26 = .ok (.iload_n 2, 1) := by decide +kernel
theorem dX11_feed_27 : decode cX11_feed 27 = .ok (.invokevirtual 76, 3) := by decide +kernel
theorem dX11_feed_30 : decode cX11_feed 30 = .ok (.aload_n 0, 1) := by decide +kernel
theorem dX11_feed_31 : decode cX11_feed 31 = .ok (.getfield 15, 3) := by decide +kernel
theorem dX11_feed_34 : decode cX11_feed 34 = .ok (.iload_n 3, 1) := by decide +kernel
theorem dX11_feed_35 : decode cX11_feed 35 = .ok (.invokevirtual 76, 3) := by decide +kernel
theorem dX11_feed_38 : decode cX11_feed 38 = .ok (.aload_n 0, 1) := by decide +kernel
theorem dX11_feed_39 : decode cX11_feed 39 = .ok (.getfield 15, 3) := by decide +kernel
theorem dX11_feed_42 : decode cX11_feed 42 = .ok (.iload 4, 2) := by decide +kernel
theorem dX11_feed_44 : decode cX11_feed 44 = .ok (.invokevirtual 76, 3) := by decide +kernel
theorem dX11_feed_47 : decode cX11_feed 47 = .ok (.aload_n 0, 1) := by decide +kernel
theorem dX11_feed_48 : decode cX11_feed 48 = .ok (.getfield 15, 3) := by decide +kernel
theorem dX11_feed_51 : decode cX11_feed 51 = .ok (.iload 5, 2) := by decide +kernel
theorem dX11_feed_53 : decode cX11_feed 53 = .ok (.invokevirtual 76, 3) := by decide +kernel
theorem dX11_feed_56 : decode cX11_feed 56 = .ok (.aload_n 0, 1) := by decide +kernel
theorem dX11_feed_57 : decode cX11_feed 57 = .ok (.getfield 15, 3) := by decide +kernel
theorem dX11_feed_60 : decode cX11_feed 60 = .ok (.getfield 80, 3) := by decide +kernel
theorem dX11_feed_63 : decode cX11_feed 63 = .ok (.ireturn, 1) := by decide +kernel
abbrev rm_X11_feed : Room := { frames := 2, cells := 0, slots := 0, locals := 42 }
noncomputable def fX11_feed (o0 : Nat) (x1 : Int32) (x2 : Int32) (x3 : Int32) (x4 : Int32) (x5 : Int32) (h : z_T) : Option (Int32 × z_T) :=
  y_gd (z_ok h o0 10) <|
  y_bi (z_R h o0 0) fun o2 =>
  y_gd (z_ok h o2 1) <|
  y_bi (fX1_left o2 h) fun r4 =>
  y_br ((20 : Int32) ≤ r4)
    (y_bi (fX1_putNumber o2 x1 h) fun h11 =>
    y_gd (z_ok h11 o0 10) <|
    y_bi (z_R h11 o0 0) fun o13 =>
    y_gd (z_ok h11 o13 1) <|
    y_bi (fX1_putNumber o13 x2 h11) fun h15 =>
    y_gd (z_ok h15 o0 10) <|
    y_bi (z_R h15 o0 0) fun o18 =>
    y_gd (z_ok h15 o18 1) <|
    y_bi (fX1_putNumber o18 x3 h15) fun h20 =>
    y_gd (z_ok h20 o0 10) <|
    y_bi (z_R h20 o0 0) fun o23 =>
    y_gd (z_ok h20 o23 1) <|
    y_bi (fX1_putNumber o23 x4 h20) fun h25 =>
    y_gd (z_ok h25 o0 10) <|
    y_bi (z_R h25 o0 0) fun o28 =>
    y_gd (z_ok h25 o28 1) <|
    y_bi (fX1_putNumber o28 x5 h25) fun h30 =>
    y_gd (z_ok h30 o0 10) <|
    y_bi (z_R h30 o0 0) fun o33 =>
    y_gd (z_ok h30 o33 1) <|
    some ((z_I h30 o33 1), h30))
    (some ((-1 : Int32), h))
set_option maxHeartbeats 4000000 in
set_option maxRecDepth 100000 in
theorem mm_X11_feed {G : z_Gt} (hSK : z_SK (z_S G)) (l : Launch) (ad : Nat → Nat) (o0 : Nat) (x1 : Int32) (x2 : Int32) (x3 : Int32) (x4 : Int32) (x5 : Int32) (h : z_T) {r0 : Int32} {h9 : z_T} (hv : fX11_feed o0 x1 x2 x3 x4 x5 h = some (r0, h9)) : z_Mi G (z_S G) l yX11_feed cX11_feed 6 (.int) rm_X11_feed 0 0 [.ref (ad o0), .int x1, .int x2, .int x3, .int x4, .int x5] ad h h9 r0 := by
  refine z_ofW hSK (by decide) (Nat.le_of_ble_eq_true rfl) ?_
  intro p e s m args below meth c ls hc hr hnm hB hl
  have hx := hc.1.1
  have hb := hc.1.2.1
  have hown := hc.1.2.2.2.1
  have hts := hc.1.2.2.2.2
  replace hc : z_C G (z_S G) ad (z_n h) p m c cX11_feed 6 s args RX11 meth := hc
  replace hown : s.vm.findClass RX11 = some m.cls := hown
  replace hl : lv_has ls 6 [(0, .ref (ad o0)), (1, .int x1), (2, .int x2), (3, .int x3), (4, .int x4), (5, .int x5)] := hl
  show W p l e rm_X11_feed s m args below meth c s.heap [] 0 0 (MQ below (z_Qi G ad h9 (z_n h) s.heap.size r0) args s 0 0 (z_A ad (z_n h) s.heap.size)) (F0 m 0 ls [])
  obtain ⟨rs, kt⟩ : ∃ rs : Int32 × z_T, rs = (r0, h9) := ⟨_, rfl⟩
  generalize hn0 : z_n h = n0 at hc hB ⊢
  rw [← kt] at hv
  refine lv_aload_n hx hb dX11_feed_0 rfl (lv_at hl 0 rfl) ?_
  obtain ⟨g1, hv⟩ := y_gd_e hv
  obtain ⟨o2, eo2, hv⟩ := y_bi_e hv
  refine z_getR hc hB 10 0 g1 eo2 (by decide) (by decide) rfl (z_l1 hc qfX11_15) dX11_feed_1 ?_
  obtain ⟨g8, hv⟩ := y_gd_e hv
  obtain ⟨r4, c3, hv⟩ := y_bi_e hv
  refine z_thI hc hB (z_runV hc hB 1 (mm_X1_left hSK l ad o2 h c3) md_X1_left qmX11_72 g8 (by decide) rfl rfl rfl ⟨Nat.le_of_ble_eq_true rfl, Nat.le_of_ble_eq_true rfl⟩ rfl hl.1 rfl (Nat.le_of_ble_eq_true rfl) dX11_feed_4 ⟨Nat.le_of_ble_eq_true rfl, Nat.le_of_ble_eq_true rfl⟩) (fun H locs hB => ?_)
  refine lv_bipush (v := (20 : Int32)) hx hb dX11_feed_7 (by decide) ?_
  refine lv_icmp_ge (tgt := 14) hx hb dX11_feed_9 (by decide) (fun c9 => ?_) (fun c9 => ?_)
  · replace hv := y_br_t hv c9
    refine lv_aload_n hx hb dX11_feed_14 rfl (lv_at hl 0 rfl) ?_
    refine z_getR hc hB 10 0 g1 eo2 (by decide) (by decide) rfl (z_l1 hc qfX11_15) dX11_feed_15 ?_
    refine lv_iload_n hx hb dX11_feed_18 rfl (lv_at hl 1 rfl) ?_
    obtain ⟨h11, c10, hv⟩ := y_bi_e hv
    refine z_thV hc hB (z_runV hc hB 1 (mm_X1_putNumber hSK l ad o2 x1 h c10) md_X1_putNumber qmX11_76 g8 (by decide) rfl rfl rfl ⟨Nat.le_of_ble_eq_true rfl, Nat.le_of_ble_eq_true rfl⟩ rfl hl.1 rfl (Nat.le_of_ble_eq_true rfl) dX11_feed_19 ⟨Nat.le_of_ble_eq_true rfl, Nat.le_of_ble_eq_true rfl⟩) (fun H locs hB => ?_)
    refine lv_aload_n hx hb dX11_feed_22 rfl (lv_at hl 0 rfl) ?_
    obtain ⟨g12, hv⟩ := y_gd_e hv
    obtain ⟨o13, eo13, hv⟩ := y_bi_e hv
    refine z_getR hc hB 10 0 g12 eo13 (by decide) (by decide) rfl (z_l1 hc qfX11_15) dX11_feed_23 ?_
    refine lv_iload_n hx hb dX11_feed_26 rfl (lv_at hl 2 rfl) ?_
    obtain ⟨g16, hv⟩ := y_gd_e hv
    obtain ⟨h15, c14, hv⟩ := y_bi_e hv
    refine z_thV hc hB (z_runV hc hB 1 (mm_X1_putNumber hSK l ad o13 x2 h11 c14) md_X1_putNumber qmX11_76 g16 (by decide) rfl rfl rfl ⟨Nat.le_of_ble_eq_true rfl, Nat.le_of_ble_eq_true rfl⟩ rfl hl.1 rfl (Nat.le_of_ble_eq_true rfl) dX11_feed_27 ⟨Nat.le_of_ble_eq_true rfl, Nat.le_of_ble_eq_true rfl⟩) (fun H locs hB => ?_)
    refine lv_aload_n hx hb dX11_feed_30 rfl (lv_at hl 0 rfl) ?_
    obtain ⟨g17, hv⟩ := y_gd_e hv
    obtain ⟨o18, eo18, hv⟩ := y_bi_e hv
    refine z_getR hc hB 10 0 g17 eo18 (by decide) (by decide) rfl (z_l1 hc qfX11_15) dX11_feed_31 ?_
    refine lv_iload_n hx hb dX11_feed_34 rfl (lv_at hl 3 rfl) ?_
    obtain ⟨g21, hv⟩ := y_gd_e hv
    obtain ⟨h20, c19, hv⟩ := y_bi_e hv
    refine z_thV hc hB (z_runV hc hB 1 (mm_X1_putNumber hSK l ad o18 x3 h15 c19) md_X1_putNumber qmX11_76 g21 (by decide) rfl rfl rfl ⟨Nat.le_of_ble_eq_true rfl, Nat.le_of_ble_eq_true rfl⟩ rfl hl.1 rfl (Nat.le_of_ble_eq_true rfl) dX11_feed_35 ⟨Nat.le_of_ble_eq_true rfl, Nat.le_of_ble_eq_true rfl⟩) (fun H locs hB => ?_)
    refine lv_aload_n hx hb dX11_feed_38 rfl (lv_at hl 0 rfl) ?_
    obtain ⟨g22, hv⟩ := y_gd_e hv
    obtain ⟨o23, eo23, hv⟩ := y_bi_e hv
    refine z_getR hc hB 10 0 g22 eo23 (by decide) (by decide) rfl (z_l1 hc qfX11_15) dX11_feed_39 ?_
    refine lv_iload hx hb dX11_feed_42 (lv_at hl 4 rfl) ?_
    obtain ⟨g26, hv⟩ := y_gd_e hv
    obtain ⟨h25, c24, hv⟩ := y_bi_e hv
    refine z_thV hc hB (z_runV hc hB 1 (mm_X1_putNumber hSK l ad o23 x4 h20 c24) md_X1_putNumber qmX11_76 g26 (by decide) rfl rfl rfl ⟨Nat.le_of_ble_eq_true rfl, Nat.le_of_ble_eq_true rfl⟩ rfl hl.1 rfl (Nat.le_of_ble_eq_true rfl) dX11_feed_44 ⟨Nat.le_of_ble_eq_true rfl, Nat.le_of_ble_eq_true rfl⟩) (fun H locs hB => ?_)
    refine lv_aload_n hx hb dX11_feed_47 rfl (lv_at hl 0 rfl) ?_
    obtain ⟨g27, hv⟩ := y_gd_e hv
    obtain ⟨o28, eo28, hv⟩ := y_bi_e hv
    refine z_getR hc hB 10 0 g27 eo28 (by decide) (by decide) rfl (z_l1 hc qfX11_15) dX11_feed_48 ?_
    refine lv_iload hx hb dX11_feed_51 (lv_at hl 5 rfl) ?_
    obtain ⟨g31, hv⟩ := y_gd_e hv
    obtain ⟨h30, c29, hv⟩ := y_bi_e hv
    refine z_thV hc hB (z_runV hc hB 1 (mm_X1_putNumber hSK l ad o28 x5 h25 c29) md_X1_putNumber qmX11_76 g31 (by decide) rfl rfl rfl ⟨Nat.le_of_ble_eq_true rfl, Nat.le_of_ble_eq_true rfl⟩ rfl hl.1 rfl (Nat.le_of_ble_eq_true rfl) dX11_feed_53 ⟨Nat.le_of_ble_eq_true rfl, Nat.le_of_ble_eq_true rfl⟩) (fun H locs hB => ?_)
    refine lv_aload_n hx hb dX11_feed_56 rfl (lv_at hl 0 rfl) ?_
    obtain ⟨g32, hv⟩ := y_gd_e hv
    obtain ⟨o33, eo33, hv⟩ := y_bi_e hv
    refine z_getR hc hB 10 0 g32 eo33 (by decide) (by decide) rfl (z_l1 hc qfX11_15) dX11_feed_57 ?_
    obtain ⟨g34, hv⟩ := y_gd_e hv
    refine z_getI hc hB 1 1 g34 (by decide) (by decide) rfl (z_l2 hc qfX11_80) dX11_feed_60 ?_
    replace hv := Option.some.inj hv
    subst hv
    obtain ⟨e1, e2⟩ := y_pr kt
    rw [← e1, ← e2]
    exact z_iret hc hB hr dX11_feed_63
  · replace hv := y_br_f hv c9
    refine lv_iconst (v := (-1 : Int32)) hx hb dX11_feed_12 (by decide) ?_
    replace hv := Option.some.inj hv
    subst hv
    obtain ⟨e1, e2⟩ := y_pr kt
    rw [← e1, ← e2]
    exact z_iret hc hB hr dX11_feed_13
theorem dX11_end_0 : decode cX11_end 0 = .ok (.iload_n 1, 1) := by decide +kernel
theorem dX11_end_1 : decode cX11_end 1 = .ok (.ifCond .lt 14, 3) := by decide +kernel
theorem dX11_end_4 : decode cX11_end 4 = .ok (.iload_n 1, 1) := by decide +kernel
theorem dX11_end_5 : decode cX11_end 5 = .ok (.aload_n 0, 1) := by decide +kernel
theorem dX11_end_6 : decode cX11_end 6 = .ok (.getfield 15, 3) := by decide +kernel
theorem dX11_end_9 : decode cX11_end 9 = .ok (.getfield 80, 3) := by decide +kernel
theorem dX11_end_12 : decode cX11_end 12 = .ok (.if_icmp .le 5, 3) := by decide +kernel
theorem dX11_end_15 : decode cX11_end 15 = .ok (.iconst 0, 1) := by decide +kernel
theorem dX11_end_16 : decode cX11_end 16 = .ok (.ireturn, 1) := by decide +kernel
theorem dX11_end_17 : decode cX11_end 17 = .ok (.aload_n 0, 1) := by decide +kernel
theorem dX11_end_18 : decode cX11_end 18 = .ok (.getfield 15, 3) := by decide +kernel
theorem dX11_end_21 : decode cX11_end 21 = .ok (.iload_n 1, 1) := by decide +kernel
theorem dX11_end_22 : decode cX11_end 22 = .ok (.putfield 80, 3) := by decide +kernel
theorem dX11_end_25 : decode cX11_end 25 = .ok (.iconst 1, 1) := by decide +kernel
theorem dX11_end_26 : decode cX11_end 26 = .ok (.ireturn, 1) := by decide +kernel
abbrev rm_X11_end : Room := { frames := 0, cells := 0, slots := 0, locals := 0 }
noncomputable def fX11_end (o0 : Nat) (x1 : Int32) (h : z_T) : Option (Int32 × z_T) :=
  y_br (x1 < 0)
    (some ((0 : Int32), h))
    (y_gd (z_ok h o0 10) <|
    y_bi (z_R h o0 0) fun o3 =>
    y_gd (z_ok h o3 1) <|
    y_br (x1 ≤ (z_I h o3 1))
      (y_nm (z_sI h o3 1 x1) fun h6 =>
      some ((1 : Int32), h6))
      (some ((0 : Int32), h)))
set_option maxHeartbeats 4000000 in
set_option maxRecDepth 100000 in
theorem mm_X11_end {G : z_Gt} (hSK : z_SK (z_S G)) (l : Launch) (ad : Nat → Nat) (o0 : Nat) (x1 : Int32) (h : z_T) {r0 : Int32} {h9 : z_T} (hv : fX11_end o0 x1 h = some (r0, h9)) : z_Mi G (z_S G) l yX11_end cX11_end 2 (.boolean) rm_X11_end 0 0 [.ref (ad o0), .int x1] ad h h9 r0 := by
  refine z_ofW hSK (by decide) (Nat.le_of_ble_eq_true rfl) ?_
  intro p e s m args below meth c ls hc hr hnm hB hl
  have hx := hc.1.1
  have hb := hc.1.2.1
  have hown := hc.1.2.2.2.1
  have hts := hc.1.2.2.2.2
  replace hc : z_C G (z_S G) ad (z_n h) p m c cX11_end 2 s args RX11 meth := hc
  replace hown : s.vm.findClass RX11 = some m.cls := hown
  replace hl : lv_has ls 2 [(0, .ref (ad o0)), (1, .int x1)] := hl
  show W p l e rm_X11_end s m args below meth c s.heap [] 0 0 (MQ below (z_Qi G ad h9 (z_n h) s.heap.size r0) args s 0 0 (z_A ad (z_n h) s.heap.size)) (F0 m 0 ls [])
  obtain ⟨rs, kt⟩ : ∃ rs : Int32 × z_T, rs = (r0, h9) := ⟨_, rfl⟩
  generalize hn0 : z_n h = n0 at hc hB ⊢
  rw [← kt] at hv
  refine lv_iload_n hx hb dX11_end_0 rfl (lv_at hl 1 rfl) ?_
  refine lv_if_lt (tgt := 15) hx hb dX11_end_1 (by decide) (fun c1 => ?_) (fun c1 => ?_)
  · replace hv := y_br_t hv c1
    refine lv_iconst (v := (0 : Int32)) hx hb dX11_end_15 (by decide) ?_
    replace hv := Option.some.inj hv
    subst hv
    obtain ⟨e1, e2⟩ := y_pr kt
    rw [← e1, ← e2]
    exact z_zret hc hB hr rfl dX11_end_16
  · replace hv := y_br_f hv c1
    refine lv_iload_n hx hb dX11_end_4 rfl (lv_at hl 1 rfl) ?_
    refine lv_aload_n hx hb dX11_end_5 rfl (lv_at hl 0 rfl) ?_
    obtain ⟨g2, hv⟩ := y_gd_e hv
    obtain ⟨o3, eo3, hv⟩ := y_bi_e hv
    refine z_getR hc hB 10 0 g2 eo3 (by decide) (by decide) rfl (z_l1 hc qfX11_15) dX11_end_6 ?_
    obtain ⟨g4, hv⟩ := y_gd_e hv
    refine z_getI hc hB 1 1 g4 (by decide) (by decide) rfl (z_l2 hc qfX11_80) dX11_end_9 ?_
    refine lv_icmp_le (tgt := 17) hx hb dX11_end_12 (by decide) (fun c5 => ?_) (fun c5 => ?_)
    · replace hv := y_br_t hv c5
      refine lv_aload_n hx hb dX11_end_17 rfl (lv_at hl 0 rfl) ?_
      refine z_getR hc hB 10 0 g2 eo3 (by decide) (by decide) rfl (z_l1 hc qfX11_15) dX11_end_18 ?_
      refine lv_iload_n hx hb dX11_end_21 rfl (lv_at hl 1 rfl) ?_
      obtain ⟨h6, eh6, hv⟩ := y_nm_e hv
      refine y_putI hc hB 1 1 eh6 g4 (z_l2 hc qfX11_80) dX11_end_22 (by decide) (by decide) rfl rfl rfl rfl (fun H locs hB => ?_)
      refine lv_iconst (v := (1 : Int32)) hx hb dX11_end_25 (by decide) ?_
      replace hv := Option.some.inj hv
      subst hv
      obtain ⟨e1, e2⟩ := y_pr kt
      rw [← e1, ← e2]
      exact z_zret hc hB hr rfl dX11_end_26
    · replace hv := y_br_f hv c5
      refine lv_iconst (v := (0 : Int32)) hx hb dX11_end_15 (by decide) ?_
      replace hv := Option.some.inj hv
      subst hv
      obtain ⟨e1, e2⟩ := y_pr kt
      rw [← e1, ← e2]
      exact z_zret hc hB hr rfl dX11_end_16
theorem qlX11_9 : Cond.classLink RX11 9 "DreamTests$Book" ∈ z_ws := List.mem_filter.mpr ⟨List.mem_append_right _ (List.mem_of_getElem? (i := 34) (by decide +kernel)), rfl⟩
theorem qi_DreamTests_Book : Cond.instantiable "DreamTests$Book" 11 ∈ z_ws := List.mem_filter.mpr ⟨List.mem_append_right _ (List.mem_of_getElem? (i := 35) (by decide +kernel)), rfl⟩
theorem qmX11_11 : Cond.methodLinkNest RX11 11 yX0_init "DreamTests" ∈ z_nw := List.mem_filter.mpr ⟨List.mem_of_getElem? (i := 36) (by decide +kernel), rfl⟩
theorem qc_X0_init : Cond.code yX0_init cX0_init 1 none ∈ z_ws := List.mem_filter.mpr ⟨List.mem_append_right _ (List.mem_of_getElem? (i := 38) (by decide +kernel)), rfl⟩
theorem qi_X0_init : Cond.instanceMethod yX0_init ∈ z_ws := List.mem_filter.mpr ⟨List.mem_append_right _ (List.mem_of_getElem? (i := 37) (by decide +kernel)), rfl⟩
theorem md_X0_init : z_mdI yX0_init cX0_init 1 0 := ⟨⟨qn_RX0, qc_X0_init, ⟨by decide +kernel, by decide +kernel, by decide +kernel⟩⟩, rfl, qi_X0_init⟩
theorem qfX11_27 : Cond.fieldLink RX11 27 "DreamTests" "reader" "LDreamTests$Reader;" ∈ z_ws := List.mem_filter.mpr ⟨List.mem_append_right _ (List.mem_of_getElem? (i := 289) (by decide +kernel)), rfl⟩
theorem qmX11_84 : Cond.methodLink RX11 84 yX6_open ∈ z_ws := List.mem_filter.mpr ⟨List.mem_append_right _ (List.mem_of_getElem? (i := 339) (by decide +kernel)), rfl⟩
theorem qc_X6_open : Cond.code yX6_open cX6_open 2 none ∈ z_ws := List.mem_filter.mpr ⟨List.mem_append_right _ (List.mem_of_getElem? (i := 342) (by decide +kernel)), rfl⟩
theorem qi_X6_open : Cond.instanceMethod yX6_open ∈ z_ws := List.mem_filter.mpr ⟨List.mem_append_right _ (List.mem_of_getElem? (i := 340) (by decide +kernel)), rfl⟩
theorem qs_X6_open : Cond.selects RX6 yX6_open yX6_open ∈ z_ws := List.mem_filter.mpr ⟨List.mem_append_right _ (List.mem_of_getElem? (i := 341) (by decide +kernel)), rfl⟩
theorem md_X6_open : z_mdV yX6_open cX6_open 2 none 1 := ⟨⟨qn_RX6, qc_X6_open, ⟨by decide +kernel, by decide +kernel, by decide +kernel⟩⟩, qi_X6_open, qs_X6_open⟩
theorem qmX11_87 : Cond.methodLink RX11 87 yX0_readLines ∈ z_ws := List.mem_filter.mpr ⟨List.mem_append_right _ (List.mem_of_getElem? (i := 379) (by decide +kernel)), rfl⟩
theorem qc_X0_readLines : Cond.code yX0_readLines cX0_readLines 3 (some .boolean) ∈ z_ws := List.mem_filter.mpr ⟨List.mem_append_right _ (List.mem_of_getElem? (i := 382) (by decide +kernel)), rfl⟩
theorem qi_X0_readLines : Cond.instanceMethod yX0_readLines ∈ z_ws := List.mem_filter.mpr ⟨List.mem_append_right _ (List.mem_of_getElem? (i := 380) (by decide +kernel)), rfl⟩
theorem qs_X0_readLines : Cond.selects RX0 yX0_readLines yX0_readLines ∈ z_ws := List.mem_filter.mpr ⟨List.mem_append_right _ (List.mem_of_getElem? (i := 381) (by decide +kernel)), rfl⟩
theorem md_X0_readLines : z_mdV yX0_readLines cX0_readLines 3 (some .boolean) 1 := ⟨⟨qn_RX0, qc_X0_readLines, ⟨by decide +kernel, by decide +kernel, by decide +kernel⟩⟩, qi_X0_readLines, qs_X0_readLines⟩
theorem qfX11_36 : Cond.fieldLink RX11 36 "DreamTests" "now" "LDreamTests$State;" ∈ z_ws := List.mem_filter.mpr ⟨List.mem_append_right _ (List.mem_of_getElem? (i := 290) (by decide +kernel)), rfl⟩
theorem qmX11_94 : Cond.methodLink RX11 94 yX8_begin ∈ z_ws := List.mem_filter.mpr ⟨List.mem_append_right _ (List.mem_of_getElem? (i := 448) (by decide +kernel)), rfl⟩
theorem qn_RX8 : Cond.initialized RX8 ∈ z_ws := List.mem_filter.mpr ⟨List.mem_append_right _ (List.mem_of_getElem? (i := 7) (by decide +kernel)), rfl⟩
theorem qc_X8_begin : Cond.code yX8_begin cX8_begin 2 none ∈ z_ws := List.mem_filter.mpr ⟨List.mem_append_right _ (List.mem_of_getElem? (i := 451) (by decide +kernel)), rfl⟩
theorem qi_X8_begin : Cond.instanceMethod yX8_begin ∈ z_ws := List.mem_filter.mpr ⟨List.mem_append_right _ (List.mem_of_getElem? (i := 449) (by decide +kernel)), rfl⟩
theorem qs_X8_begin : Cond.selects RX8 yX8_begin yX8_begin ∈ z_ws := List.mem_filter.mpr ⟨List.mem_append_right _ (List.mem_of_getElem? (i := 450) (by decide +kernel)), rfl⟩
theorem md_X8_begin : z_mdV yX8_begin cX8_begin 2 none 1 := ⟨⟨qn_RX8, qc_X8_begin, ⟨by decide +kernel, by decide +kernel, by decide +kernel⟩⟩, qi_X8_begin, qs_X8_begin⟩
theorem qfX11_47 : Cond.fieldLink RX11 47 "DreamTests" "past" "LDreamTests$Past;" ∈ z_ws := List.mem_filter.mpr ⟨List.mem_append_right _ (List.mem_of_getElem? (i := 292) (by decide +kernel)), rfl⟩
theorem qfX11_97 : Cond.fieldLinkNest RX11 97 "DreamTests$Past" "kept" "I" "DreamTests" ∈ z_nw := List.mem_filter.mpr ⟨List.mem_of_getElem? (i := 215) (by decide +kernel), rfl⟩
theorem qfX11_100 : Cond.fieldLinkNest RX11 100 "DreamTests$Book" "lines" "I" "DreamTests" ∈ z_nw := List.mem_filter.mpr ⟨List.mem_of_getElem? (i := 41) (by decide +kernel), rfl⟩
theorem qfX11_91 : Cond.fieldLinkNest RX11 91 "DreamTests$Reader" "place" "I" "DreamTests" ∈ z_nw := List.mem_filter.mpr ⟨List.mem_of_getElem? (i := 110) (by decide +kernel), rfl⟩
theorem dX11_book_0 : decode cX11_book 0 = .ok (.new 9, 3) := by decide +kernel
theorem dX11_book_3 : decode cX11_book 3 = .ok (.dup, 1) := by decide +kernel
theorem dX11_book_4 : decode cX11_book 4 = .ok (.invokespecial 11, 3) := by decide +kernel
theorem dX11_book_7 : decode cX11_book 7 = .ok (.astore_n 1, 1) := by decide +kernel
theorem dX11_book_8 : decode cX11_book 8 = .ok (.aload_n 0, 1) := by decide +kernel
theorem dX11_book_9 : decode cX11_book 9 = .ok (.getfield 27, 3) := by decide +kernel
theorem dX11_book_12 : decode cX11_book 12 = .ok (.sipush 900, 3) := by decide +kernel
theorem dX11_book_15 : decode cX11_book 15 = .ok (.invokevirtual 84, 3) := by decide +kernel
theorem dX11_book_18 : decode cX11_book 18 = .ok (.aload_n 1, 1) := by decide +kernel
theorem dX11_book_19 : decode cX11_book 19 = .ok (.aload_n 0, 1) := by decide +kernel
theorem dX11_book_20 : decode cX11_book 20 = .ok (.getfield 27, 3) := by decide +kernel
theorem dX11_book_23 : decode cX11_book 23 = .ok (.invokevirtual 87, 3) := by decide +kernel
theorem dX11_book_26 : decode cX11_book 26 = .ok (.istore_n 2, 1) := by decide +kernel
theorem dX11_book_27 : decode cX11_book 27 = .ok (.aload_n 0, 1) := by decide +kernel
theorem dX11_book_28 : decode cX11_book 28 = .ok (.getfield 15, 3) := by decide +kernel
theorem dX11_book_31 : decode cX11_book 31 = .ok (.iconst 0, 1) := by decide +kernel
theorem dX11_book_32 : decode cX11_book 32 = .ok (.putfield 80, 3) := by decide +kernel
theorem dX11_book_35 : decode cX11_book 35 = .ok (.iload_n 2, 1) := by decide +kernel
theorem dX11_book_36 : decode cX11_book 36 = .ok (.ifCond .ne 13, 3) := by decide +kernel
theorem dX11_book_39 : decode cX11_book 39 = .ok (.iconst (-1), 1) := by decide +kernel
theorem dX11_book_40 : decode cX11_book 40 = .ok (.aload_n 0, 1) := by decide +kernel
theorem dX11_book_41 : decode cX11_book 41 = .ok (.getfield 27, 3) := by decide +kernel
theorem dX11_book_44 : decode cX11_book 44 = .ok (.getfield 91, 3) := by decide +kernel
theorem dX11_book_47 : decode cX11_book 47 = .ok (.isub, 1) := by decide +kernel
theorem dX11_book_48 : decode cX11_book 48 = .ok (.ireturn, 1) := by decide +kernel
theorem dX11_book_49 : decode cX11_book 49 = .ok (.aload_n 0, 1) := by decide +kernel
theorem dX11_book_50 : decode cX11_book 50 = .ok (.getfield 36, 3) := by decide +kernel
theorem dX11_book_53 : decode cX11_book 53 = .ok (.aload_n 1, 1) := by decide +kernel
theorem dX11_book_54 : decode cX11_book 54 = .ok (.invokevirtual 94, 3) := by decide +kernel
theorem dX11_book_57 : decode cX11_book 57 = .ok (.aload_n 0, 1) := by decide +kernel
theorem dX11_book_58 : decode cX11_book 58 = .ok (.getfield 47, 3) := by decide +kernel
theorem dX11_book_61 : decode cX11_book 61 = .ok (.iconst 0, 1) := by decide +kernel
theorem dX11_book_62 : decode cX11_book 62 = .ok (.putfield 97, 3) := by decide +kernel
theorem dX11_book_65 : decode cX11_book 65 = .ok (.aload_n 1, 1) := by decide +kernel
theorem dX11_book_66 : decode cX11_book 66 = .ok (.getfield 100, 3) := by decide +kernel
theorem dX11_book_69 : decode cX11_book 69 = .ok (.ireturn, 1) := by decide +kernel
abbrev rm_X11_book : Room := { frames := 7, cells := 8, slots := 61, locals := 162 }
noncomputable def fX11_book (o0 : Nat) (h : z_T) : Option (Int32 × z_T) :=
  y_nm (z_n h) fun ob1 =>
  y_nm (z_al h 0 0) fun h2 =>
  y_bi (fX0_init ob1 h2) fun h5 =>
  y_gd (z_ok h5 o0 10) <|
  y_bi (z_R h5 o0 2) fun ob7 =>
  y_gd (z_ok h5 ob7 6) <|
  y_bi (fX6_open ob7 (900 : Int32) h5) fun h9 =>
  y_gd (z_ok h9 o0 10) <|
  y_bi (z_R h9 o0 2) fun ob12 =>
  y_gd (z_ok h9 ob1 0) <|
  y_bi (fX0_readLines ob1 ob12 h9) fun ⟨r14, h18⟩ =>
  y_gd (z_ok h18 o0 10) <|
  y_bi (z_R h18 o0 0) fun ob21 =>
  y_gd (z_ok h18 ob21 1) <|
  y_nm (z_sI h18 ob21 1 (0 : Int32)) fun h23 =>
  y_br (r14 = 0)
    (y_bi (z_R h23 o0 2) fun ob34 =>
    y_gd (z_ok h23 ob34 6) <|
    some (((-1 : Int32) - (z_I h23 ob34 3)), h23))
    (y_bi (z_R h23 o0 3) fun ob25 =>
    y_gd (z_ok h23 ob25 8) <|
    y_bi (fX8_begin ob25 ob1 h23) fun h27 =>
    y_gd (z_ok h27 o0 10) <|
    y_bi (z_R h27 o0 5) fun ob30 =>
    y_gd (z_ok h27 ob30 4) <|
    y_nm (z_sI h27 ob30 2 (0 : Int32)) fun h32 =>
    y_gd (z_ok h32 ob1 0) <|
    some ((z_I h32 ob1 0), h32))
set_option maxHeartbeats 4000000 in
set_option maxRecDepth 100000 in
theorem mm_X11_book {G : z_Gt} (hSK : z_SK (z_S G)) (l : Launch) (ad : Nat → Nat) (o0 : Nat) (h : z_T) {r0 : Int32} {h9 : z_T} (hv : fX11_book o0 h = some (r0, h9)) : z_Mi G (z_S G) l yX11_book cX11_book 3 (.int) rm_X11_book 8 61 [.ref (ad o0)] ad h h9 r0 := by
  refine z_ofW hSK (by decide) (Nat.le_of_ble_eq_true rfl) ?_
  intro p e s m args below meth c ls hc hr hnm hB hl
  have hx := hc.1.1
  have hb := hc.1.2.1
  have hown := hc.1.2.2.2.1
  have hts := hc.1.2.2.2.2
  replace hc : z_C G (z_S G) ad (z_n h) p m c cX11_book 3 s args RX11 meth := hc
  replace hown : s.vm.findClass RX11 = some m.cls := hown
  replace hl : lv_has ls 3 [(0, .ref (ad o0))] := hl
  show W p l e rm_X11_book s m args below meth c s.heap [] 0 0 (MQ below (z_Qi G ad h9 (z_n h) s.heap.size r0) args s 8 61 (z_A ad (z_n h) s.heap.size)) (F0 m 0 ls [])
  obtain ⟨rs, kt⟩ : ∃ rs : Int32 × z_T, rs = (r0, h9) := ⟨_, rfl⟩
  generalize hn0 : z_n h = n0 at hc hB ⊢
  rw [← kt] at hv
  obtain ⟨ob1, eob1, hv⟩ := y_nm_e hv
  obtain ⟨h2, eh2, hv⟩ := y_nm_e hv
  refine z_new hc hB 0 eh2 (by decide) qlX11_9 qi_DreamTests_Book qn_RX0 (Nat.le_of_ble_eq_true rfl) (Nat.le_of_ble_eq_true rfl) dX11_book_0 (fun H hB => ?_)
  rw [← eob1]
  have g3 : z_ok h2 ob1 0 = true := by rw [eh2, eob1]; exact z_al_ok
  refine lv_dup hx hb dX11_book_3 rfl ?_
  obtain ⟨h5, c4, hv⟩ := y_bi_e hv
  refine z_thV hc hB (z_runIN (rest := [.ref (ad ob1)]) hc hB (mm_X0_init hSK l ad ob1 h2 c4) md_X0_init qmX11_11 rfl rfl ⟨Nat.le_of_ble_eq_true rfl, Nat.le_of_ble_eq_true rfl⟩ rfl hl.1 rfl (Nat.le_of_ble_eq_true rfl) dX11_book_4 ⟨Nat.le_of_ble_eq_true rfl, Nat.le_of_ble_eq_true rfl⟩) (fun H locs hB => ?_)
  refine lv_astore_n (lv' := [(1, .ref (ad ob1)), (0, .ref (ad o0))]) hx hb dX11_book_7 rfl hl (by decide) rfl (fun ls hl => ?_)
  refine lv_aload_n hx hb dX11_book_8 rfl (lv_at hl 1 rfl) ?_
  obtain ⟨g6, hv⟩ := y_gd_e hv
  obtain ⟨ob7, eob7, hv⟩ := y_bi_e hv
  refine z_getR hc hB 10 2 g6 eob7 (by decide) (by decide) rfl (z_l1 hc qfX11_27) dX11_book_9 ?_
  refine lv_sipush (v := (900 : Int32)) hx hb dX11_book_12 (by decide) ?_
  obtain ⟨g10, hv⟩ := y_gd_e hv
  obtain ⟨h9, c8, hv⟩ := y_bi_e hv
  refine z_thV hc hB (z_runV (rest := []) hc hB 6 (mm_X6_open hSK l ad ob7 (900 : Int32) h5 c8) md_X6_open qmX11_84 g10 (by decide) rfl rfl rfl ⟨Nat.le_of_ble_eq_true rfl, Nat.le_of_ble_eq_true rfl⟩ rfl hl.1 rfl (Nat.le_of_ble_eq_true rfl) dX11_book_15 ⟨Nat.le_of_ble_eq_true rfl, Nat.le_of_ble_eq_true rfl⟩) (fun H locs hB => ?_)
  refine lv_aload_n hx hb dX11_book_18 rfl (lv_at hl 0 rfl) ?_
  refine lv_aload_n hx hb dX11_book_19 rfl (lv_at hl 1 rfl) ?_
  obtain ⟨g11, hv⟩ := y_gd_e hv
  obtain ⟨ob12, eob12, hv⟩ := y_bi_e hv
  refine z_getR hc hB 10 2 g11 eob12 (by decide) (by decide) rfl (z_l1 hc qfX11_27) dX11_book_20 ?_
  obtain ⟨g19, hv⟩ := y_gd_e hv
  obtain ⟨⟨r14, h18⟩, c13, hv⟩ := y_bi_e hv
  refine z_thI hc hB (z_runV (rest := []) hc hB 0 (mm_X0_readLines hSK l ad ob1 ob12 h9 c13) md_X0_readLines qmX11_87 g19 (by decide) rfl rfl rfl ⟨Nat.le_of_ble_eq_true rfl, Nat.le_of_ble_eq_true rfl⟩ rfl hl.1 rfl (Nat.le_of_ble_eq_true rfl) dX11_book_23 ⟨Nat.le_of_ble_eq_true rfl, Nat.le_of_ble_eq_true rfl⟩) (fun H locs hB => ?_)
  refine lv_istore_n (lv' := [(2, .int r14), (1, .ref (ad ob1)), (0, .ref (ad o0))]) hx hb dX11_book_26 rfl hl (by decide) rfl (fun ls hl => ?_)
  refine lv_aload_n hx hb dX11_book_27 rfl (lv_at hl 2 rfl) ?_
  obtain ⟨g20, hv⟩ := y_gd_e hv
  obtain ⟨ob21, eob21, hv⟩ := y_bi_e hv
  refine z_getR hc hB 10 0 g20 eob21 (by decide) (by decide) rfl (z_l1 hc qfX11_15) dX11_book_28 ?_
  refine lv_iconst (v := (0 : Int32)) hx hb dX11_book_31 (by decide) ?_
  obtain ⟨g22, hv⟩ := y_gd_e hv
  obtain ⟨h23, eh23, hv⟩ := y_nm_e hv
  refine y_putI hc hB 1 1 eh23 g22 (z_l2 hc qfX11_80) dX11_book_32 (by decide) (by decide) rfl rfl rfl rfl (fun H locs hB => ?_)
  refine lv_iload_n hx hb dX11_book_35 rfl (lv_at hl 0 rfl) ?_
  refine lv_if_ne (tgt := 49) hx hb dX11_book_36 (by decide) (fun c24 => ?_) (fun c24 => ?_)
  · replace hv := y_br_f hv c24
    refine lv_aload_n hx hb dX11_book_49 rfl (lv_at hl 2 rfl) ?_
    obtain ⟨ob25, eob25, hv⟩ := y_bi_e hv
    refine z_getR hc hB 10 3 (by rw [eh23]; exact g20) eob25 (by decide) (by decide) rfl (z_l1 hc qfX11_36) dX11_book_50 ?_
    refine lv_aload_n hx hb dX11_book_53 rfl (lv_at hl 1 rfl) ?_
    obtain ⟨g28, hv⟩ := y_gd_e hv
    obtain ⟨h27, c26, hv⟩ := y_bi_e hv
    refine z_thV hc hB (z_runV (rest := []) hc hB 8 (mm_X8_begin hSK l ad ob25 ob1 h23 c26) md_X8_begin qmX11_94 g28 (by decide) rfl rfl rfl ⟨Nat.le_of_ble_eq_true rfl, Nat.le_of_ble_eq_true rfl⟩ rfl hl.1 rfl (Nat.le_of_ble_eq_true rfl) dX11_book_54 ⟨Nat.le_of_ble_eq_true rfl, Nat.le_of_ble_eq_true rfl⟩) (fun H locs hB => ?_)
    refine lv_aload_n hx hb dX11_book_57 rfl (lv_at hl 2 rfl) ?_
    obtain ⟨g29, hv⟩ := y_gd_e hv
    obtain ⟨ob30, eob30, hv⟩ := y_bi_e hv
    refine z_getR hc hB 10 5 g29 eob30 (by decide) (by decide) rfl (z_l1 hc qfX11_47) dX11_book_58 ?_
    refine lv_iconst (v := (0 : Int32)) hx hb dX11_book_61 (by decide) ?_
    obtain ⟨g31, hv⟩ := y_gd_e hv
    obtain ⟨h32, eh32, hv⟩ := y_nm_e hv
    refine y_putI hc hB 4 2 eh32 g31 (z_l2 hc qfX11_97) dX11_book_62 (by decide) (by decide) rfl rfl rfl rfl (fun H locs hB => ?_)
    refine lv_aload_n hx hb dX11_book_65 rfl (lv_at hl 1 rfl) ?_
    obtain ⟨g33, hv⟩ := y_gd_e hv
    refine z_getI hc hB 0 0 g33 (by decide) (by decide) rfl (z_l2 hc qfX11_100) dX11_book_66 ?_
    replace hv := Option.some.inj hv
    subst hv
    obtain ⟨e1, e2⟩ := y_pr kt
    rw [← e1, ← e2]
    exact z_iret hc hB hr dX11_book_69
  · replace hv := y_br_t hv c24
    refine lv_iconst (v := (-1 : Int32)) hx hb dX11_book_39 (by decide) ?_
    refine lv_aload_n hx hb dX11_book_40 rfl (lv_at hl 2 rfl) ?_
    obtain ⟨ob34, eob34, hv⟩ := y_bi_e hv
    refine z_getR hc hB 10 2 (by rw [eh23]; exact g20) eob34 (by decide) (by decide) rfl (z_l1 hc qfX11_27) dX11_book_41 ?_
    obtain ⟨g35, hv⟩ := y_gd_e hv
    refine z_getI hc hB 6 3 g35 (by decide) (by decide) rfl (z_l2 hc qfX11_91) dX11_book_44 ?_
    refine lv_isub hx hb dX11_book_47 ?_
    replace hv := Option.some.inj hv
    subst hv
    obtain ⟨e1, e2⟩ := y_pr kt
    rw [← e1, ← e2]
    exact z_iret hc hB hr dX11_book_48
theorem qfX11_103 : Cond.fieldLinkNest RX11 103 "DreamTests$Reader" "fault" "I" "DreamTests" ∈ z_nw := List.mem_filter.mpr ⟨List.mem_of_getElem? (i := 122) (by decide +kernel), rfl⟩
theorem dX11_fault_0 : decode cX11_fault 0 = .ok (.aload_n 0, 1) := by decide +kernel
theorem dX11_fault_1 : decode cX11_fault 1 = .ok (.getfield 27, 3) := by decide +kernel
theorem dX11_fault_4 : decode cX11_fault 4 = .ok (.getfield 103, 3) := by decide +kernel
theorem dX11_fault_7 : decode cX11_fault 7 = .ok (.ireturn, 1) := by decide +kernel
abbrev rm_X11_fault : Room := { frames := 0, cells := 0, slots := 0, locals := 0 }
noncomputable def fX11_fault (o0 : Nat) (h : z_T) : Option (Int32) :=
  y_gd (z_ok h o0 10) <|
  y_bi (z_R h o0 2) fun o2 =>
  y_gd (z_ok h o2 6) <|
  some (z_I h o2 8)
set_option maxHeartbeats 4000000 in
set_option maxRecDepth 100000 in
theorem mm_X11_fault {G : z_Gt} (hSK : z_SK (z_S G)) (l : Launch) (ad : Nat → Nat) (o0 : Nat) (h : z_T) {r0 : Int32} (hv : fX11_fault o0 h = some r0) : z_Mi G (z_S G) l yX11_fault cX11_fault 1 (.int) rm_X11_fault 0 0 [.ref (ad o0)] ad h h r0 := by
  refine z_ofW hSK (by decide) (Nat.le_of_ble_eq_true rfl) ?_
  intro p e s m args below meth c ls hc hr hnm hB hl
  have hx := hc.1.1
  have hb := hc.1.2.1
  have hown := hc.1.2.2.2.1
  have hts := hc.1.2.2.2.2
  replace hc : z_C G (z_S G) ad (z_n h) p m c cX11_fault 1 s args RX11 meth := hc
  replace hown : s.vm.findClass RX11 = some m.cls := hown
  replace hl : lv_has ls 1 [(0, .ref (ad o0))] := hl
  show W p l e rm_X11_fault s m args below meth c s.heap [] 0 0 (MQ below (z_Qi G ad h (z_n h) s.heap.size r0) args s 0 0 (z_A ad (z_n h) s.heap.size)) (F0 m 0 ls [])
  obtain ⟨rs, kt⟩ : ∃ rs : Int32, rs = r0 := ⟨_, rfl⟩
  generalize hn0 : z_n h = n0 at hc hB ⊢
  rw [← kt] at hv
  refine lv_aload_n hx hb dX11_fault_0 rfl (lv_at hl 0 rfl) ?_
  obtain ⟨g1, hv⟩ := y_gd_e hv
  obtain ⟨o2, eo2, hv⟩ := y_bi_e hv
  refine z_getR hc hB 10 2 g1 eo2 (by decide) (by decide) rfl (z_l1 hc qfX11_27) dX11_fault_1 ?_
  obtain ⟨g3, hv⟩ := y_gd_e hv
  refine z_getI hc hB 6 8 g3 (by decide) (by decide) rfl (z_l2 hc qfX11_103) dX11_fault_4 ?_
  replace hv := Option.some.inj hv
  subst hv
  rw [← kt]
  exact z_iret hc hB hr dX11_fault_7
theorem qfX11_106 : Cond.fieldLinkNest RX11 106 "DreamTests$State" "night" "LDreamTests$Night;" "DreamTests" ∈ z_nw := List.mem_filter.mpr ⟨List.mem_of_getElem? (i := 187) (by decide +kernel), rfl⟩
theorem qfX11_109 : Cond.fieldLinkNest RX11 109 "DreamTests$Night" "book" "LDreamTests$Book;" "DreamTests" ∈ z_nw := List.mem_filter.mpr ⟨List.mem_of_getElem? (i := 163) (by decide +kernel), rfl⟩
theorem qmX11_113 : Cond.methodLink RX11 113 yX0_hasTest ∈ z_ws := List.mem_filter.mpr ⟨List.mem_append_right _ (List.mem_of_getElem? (i := 461) (by decide +kernel)), rfl⟩
theorem qc_X0_hasTest : Cond.code yX0_hasTest cX0_hasTest 2 (some .boolean) ∈ z_ws := List.mem_filter.mpr ⟨List.mem_append_right _ (List.mem_of_getElem? (i := 464) (by decide +kernel)), rfl⟩
theorem qi_X0_hasTest : Cond.instanceMethod yX0_hasTest ∈ z_ws := List.mem_filter.mpr ⟨List.mem_append_right _ (List.mem_of_getElem? (i := 462) (by decide +kernel)), rfl⟩
theorem qs_X0_hasTest : Cond.selects RX0 yX0_hasTest yX0_hasTest ∈ z_ws := List.mem_filter.mpr ⟨List.mem_append_right _ (List.mem_of_getElem? (i := 463) (by decide +kernel)), rfl⟩
theorem md_X0_hasTest : z_mdV yX0_hasTest cX0_hasTest 2 (some .boolean) 1 := ⟨⟨qn_RX0, qc_X0_hasTest, ⟨by decide +kernel, by decide +kernel, by decide +kernel⟩⟩, qi_X0_hasTest, qs_X0_hasTest⟩
theorem qmX11_117 : Cond.methodLink RX11 117 yX0_inRoom ∈ z_ws := List.mem_filter.mpr ⟨List.mem_append_right _ (List.mem_of_getElem? (i := 465) (by decide +kernel)), rfl⟩
theorem qmX11_121 : Cond.methodLink RX11 121 yX0_inDream ∈ z_ws := List.mem_filter.mpr ⟨List.mem_append_right _ (List.mem_of_getElem? (i := 469) (by decide +kernel)), rfl⟩
theorem qmX11_124 : Cond.methodLink RX11 124 yX2_timesAsked ∈ z_ws := List.mem_filter.mpr ⟨List.mem_append_right _ (List.mem_of_getElem? (i := 473) (by decide +kernel)), rfl⟩
theorem qmX11_127 : Cond.methodLink RX11 127 yX0_keepersOf ∈ z_ws := List.mem_filter.mpr ⟨List.mem_append_right _ (List.mem_of_getElem? (i := 477) (by decide +kernel)), rfl⟩
theorem qc_X0_keepersOf : Cond.code yX0_keepersOf cX0_keepersOf 4 (some .int) ∈ z_ws := List.mem_filter.mpr ⟨List.mem_append_right _ (List.mem_of_getElem? (i := 480) (by decide +kernel)), rfl⟩
theorem qi_X0_keepersOf : Cond.instanceMethod yX0_keepersOf ∈ z_ws := List.mem_filter.mpr ⟨List.mem_append_right _ (List.mem_of_getElem? (i := 478) (by decide +kernel)), rfl⟩
theorem qs_X0_keepersOf : Cond.selects RX0 yX0_keepersOf yX0_keepersOf ∈ z_ws := List.mem_filter.mpr ⟨List.mem_append_right _ (List.mem_of_getElem? (i := 479) (by decide +kernel)), rfl⟩
theorem md_X0_keepersOf : z_mdV yX0_keepersOf cX0_keepersOf 4 (some .int) 1 := ⟨⟨qn_RX0, qc_X0_keepersOf, ⟨by decide +kernel, by decide +kernel, by decide +kernel⟩⟩, qi_X0_keepersOf, qs_X0_keepersOf⟩
theorem dX11_test_0 : decode cX11_test 0 = .ok (.aload_n 0, 1) := by decide +kernel
theorem dX11_test_1 : decode cX11_test 1 = .ok (.getfield 36, 3) := by decide +kernel
theorem dX11_test_4 : decode cX11_test 4 = .ok (.getfield 106, 3) := by decide +kernel
theorem dX11_test_7 : decode cX11_test 7 = .ok (.getfield 109, 3) := by decide +kernel
theorem dX11_test_10 : decode cX11_test 10 = .ok (.astore_n 3, 1) := by decide +kernel
theorem dX11_test_11 : decode cX11_test 11 = .ok (.aload_n 3, 1) := by decide +kernel
theorem dX11_test_12 : decode cX11_test 12 = .ok (.iload_n 1, 1) := by decide +kernel
theorem dX11_test_13 : decode cX11_test 13 = .ok (.invokevirtual 113, 3) := by decide +kernel
theorem dX11_test_16 : decode cX11_test 16 = .ok (.ifCond .ne 5, 3) := by decide +kernel
theorem dX11_test_19 : decode cX11_test 19 = .ok (.iconst (-1), 1) := by decide +kernel
theorem dX11_test_20 : decode cX11_test 20 = .ok (.ireturn, 1) := by decide +kernel
theorem dX11_test_21 : decode cX11_test 21 = .ok (.iload_n 2, 1) := by decide +kernel
theorem dX11_test_22 : decode cX11_test 22 = .ok (.tableswitch 60 0 3 #[30, 36, 42, 54], 30) := by decide +kernel
theorem dX11_test_52 : decode cX11_test 52 = .ok (.aload_n 3, 1) := by decide +kernel
theorem dX11_test_53 : decode cX11_test 53 = .ok (.iload_n 1, 1) := by decide +kernel
theorem dX11_test_54 : decode cX11_test 54 = .ok (.invokevirtual 117, 3) := by decide +kernel
theorem dX11_test_57 : decode cX11_test 57 = .ok (.ireturn, 1) := by decide +kernel
theorem dX11_test_58 : decode cX11_test 58 = .ok (.aload_n 3, 1) := by decide +kernel
theorem dX11_test_59 : decode cX11_test 59 = .ok (.iload_n 1, 1) := by decide +kernel
theorem dX11_test_60 : decode cX11_test 60 = .ok (.invokevirtual 121, 3) := by decide +kernel
theorem dX11_test_63 : decode cX11_test 63 = .ok (.ireturn, 1) := by decide +kernel
theorem dX11_test_64 : decode cX11_test 64 = .ok (.aload_n 0, 1) := by decide +kernel
theorem dX11_test_65 : decode cX11_test 65 = .ok (.getfield 36, 3) := by decide +kernel
theorem dX11_test_68 : decode cX11_test 68 = .ok (.getfield 106, 3) := by decide +kernel
theorem dX11_test_71 : decode cX11_test 71 = .ok (.iload_n 1, 1) := by decide +kernel
theorem dX11_test_72 : decode cX11_test 72 = .ok (.invokevirtual 124, 3) := by decide +kernel
theorem dX11_test_75 : decode cX11_test 75 = .ok (.ireturn, 1) := by decide +kernel
theorem dX11_test_76 : decode cX11_test 76 = .ok (.aload_n 3, 1) := by decide +kernel
theorem dX11_test_77 : decode cX11_test 77 = .ok (.iload_n 1, 1) := by decide +kernel
theorem dX11_test_78 : decode cX11_test 78 = .ok (.invokevirtual 127, 3) := by decide +kernel
theorem dX11_test_81 : decode cX11_test 81 = .ok (.ireturn, 1) := by decide +kernel
theorem dX11_test_82 : decode cX11_test 82 = .ok (.iconst (-1), 1) := by decide +kernel
theorem dX11_test_83 : decode cX11_test 83 = .ok (.ireturn, 1) := by decide +kernel
abbrev rm_X11_test : Room := { frames := 2, cells := 0, slots := 0, locals := 44 }
noncomputable def fX11_test (o0 : Nat) (x1 : Int32) (x2 : Int32) (h : z_T) : Option (Int32) :=
  y_gd (z_ok h o0 10) <|
  y_bi (z_R h o0 3) fun ob2 =>
  y_gd (z_ok h ob2 8) <|
  y_bi (z_R h ob2 0) fun ob4 =>
  y_gd (z_ok h ob4 2) <|
  y_bi (z_R h ob4 0) fun ob6 =>
  y_gd (z_ok h ob6 0) <|
  y_bi (fX0_hasTest ob6 x1 h) fun r8 =>
  y_br (r8 = 0)
    (some (-1 : Int32))
    (y_br (x2 = 0)
      (y_bi (fX0_inRoom ob6 x1 h) fun r16 =>
      some r16)
      (y_br (x2 = 1)
        (y_bi (fX0_inDream ob6 x1 h) fun r22 =>
        some r22)
        (y_br (x2 = 2)
          (y_bi (fX2_timesAsked ob4 x1 h) fun r28 =>
          some r28)
          (y_br (x2 = 3)
            (y_bi (fX0_keepersOf ob6 x1 h) fun r34 =>
            some r34)
            (some (-1 : Int32))))))
set_option maxHeartbeats 4000000 in
set_option maxRecDepth 100000 in
theorem mm_X11_test {G : z_Gt} (hSK : z_SK (z_S G)) (l : Launch) (ad : Nat → Nat) (o0 : Nat) (x1 : Int32) (x2 : Int32) (h : z_T) {r0 : Int32} (hv : fX11_test o0 x1 x2 h = some r0) : z_Mi G (z_S G) l yX11_test cX11_test 4 (.int) rm_X11_test 0 0 [.ref (ad o0), .int x1, .int x2] ad h h r0 := by
  refine z_ofW hSK (by decide) (Nat.le_of_ble_eq_true rfl) ?_
  intro p e s m args below meth c ls hc hr hnm hB hl
  have hx := hc.1.1
  have hb := hc.1.2.1
  have hown := hc.1.2.2.2.1
  have hts := hc.1.2.2.2.2
  replace hc : z_C G (z_S G) ad (z_n h) p m c cX11_test 4 s args RX11 meth := hc
  replace hown : s.vm.findClass RX11 = some m.cls := hown
  replace hl : lv_has ls 4 [(0, .ref (ad o0)), (1, .int x1), (2, .int x2)] := hl
  show W p l e rm_X11_test s m args below meth c s.heap [] 0 0 (MQ below (z_Qi G ad h (z_n h) s.heap.size r0) args s 0 0 (z_A ad (z_n h) s.heap.size)) (F0 m 0 ls [])
  obtain ⟨rs, kt⟩ : ∃ rs : Int32, rs = r0 := ⟨_, rfl⟩
  generalize hn0 : z_n h = n0 at hc hB ⊢
  rw [← kt] at hv
  refine lv_aload_n hx hb dX11_test_0 rfl (lv_at hl 0 rfl) ?_
  obtain ⟨g1, hv⟩ := y_gd_e hv
  obtain ⟨ob2, eob2, hv⟩ := y_bi_e hv
  refine z_getR hc hB 10 3 g1 eob2 (by decide) (by decide) rfl (z_l1 hc qfX11_36) dX11_test_1 ?_
  obtain ⟨g3, hv⟩ := y_gd_e hv
  obtain ⟨ob4, eob4, hv⟩ := y_bi_e hv
  refine z_getR hc hB 8 0 g3 eob4 (by decide) (by decide) rfl (z_l2 hc qfX11_106) dX11_test_4 ?_
  obtain ⟨g5, hv⟩ := y_gd_e hv
  obtain ⟨ob6, eob6, hv⟩ := y_bi_e hv
  refine z_getR hc hB 2 0 g5 eob6 (by decide) (by decide) rfl (z_l2 hc qfX11_109) dX11_test_7 ?_
  refine lv_astore_n (lv' := [(3, .ref (ad ob6)), (0, .ref (ad o0)), (1, .int x1), (2, .int x2)]) hx hb dX11_test_10 rfl hl (by decide) rfl (fun ls hl => ?_)
  refine lv_aload_n hx hb dX11_test_11 rfl (lv_at hl 0 rfl) ?_
  refine lv_iload_n hx hb dX11_test_12 rfl (lv_at hl 2 rfl) ?_
  obtain ⟨g12, hv⟩ := y_gd_e hv
  obtain ⟨r8, c7, hv⟩ := y_bi_e hv
  refine z_thI hc hB (z_runV hc hB 0 (mm_X0_hasTest hSK l ad ob6 x1 h c7) md_X0_hasTest qmX11_113 g12 (by decide) rfl rfl rfl ⟨Nat.le_of_ble_eq_true rfl, Nat.le_of_ble_eq_true rfl⟩ rfl hl.1 rfl (Nat.le_of_ble_eq_true rfl) dX11_test_13 ⟨Nat.le_of_ble_eq_true rfl, Nat.le_of_ble_eq_true rfl⟩) (fun H locs hB => ?_)
  refine lv_if_ne (tgt := 21) hx hb dX11_test_16 (by decide) (fun c13 => ?_) (fun c13 => ?_)
  · replace hv := y_br_f hv c13
    refine lv_iload_n hx hb dX11_test_21 rfl (lv_at hl 3 rfl) ?_
    by_cases c14 : x2 = 0
    · replace hv := y_br_t hv c14
      refine lv_tableIn (off := 30) (tgt := 52) hx hb dX11_test_22 (by rw [c14]; decide) (by rw [c14]; decide) (by rw [c14]; rfl) (by decide) ?_
      refine lv_aload_n hx hb dX11_test_52 rfl (lv_at hl 0 rfl) ?_
      refine lv_iload_n hx hb dX11_test_53 rfl (lv_at hl 2 rfl) ?_
      obtain ⟨r16, c15, hv⟩ := y_bi_e hv
      refine z_thI hc hB (z_runV hc hB 0 (mm_X0_inRoom hSK l ad ob6 x1 h c15) md_X0_inRoom qmX11_117 g12 (by decide) rfl rfl rfl ⟨Nat.le_of_ble_eq_true rfl, Nat.le_of_ble_eq_true rfl⟩ rfl hl.1 rfl (Nat.le_of_ble_eq_true rfl) dX11_test_54 ⟨Nat.le_of_ble_eq_true rfl, Nat.le_of_ble_eq_true rfl⟩) (fun H locs hB => ?_)
      replace hv := Option.some.inj hv
      subst hv
      rw [← kt]
      exact z_iret hc hB hr dX11_test_57
    · replace hv := y_br_f hv c14
      by_cases c20 : x2 = 1
      · replace hv := y_br_t hv c20
        refine lv_tableIn (off := 36) (tgt := 58) hx hb dX11_test_22 (by rw [c20]; decide) (by rw [c20]; decide) (by rw [c20]; rfl) (by decide) ?_
        refine lv_aload_n hx hb dX11_test_58 rfl (lv_at hl 0 rfl) ?_
        refine lv_iload_n hx hb dX11_test_59 rfl (lv_at hl 2 rfl) ?_
        obtain ⟨r22, c21, hv⟩ := y_bi_e hv
        refine z_thI hc hB (z_runV hc hB 0 (mm_X0_inDream hSK l ad ob6 x1 h c21) md_X0_inDream qmX11_121 g12 (by decide) rfl rfl rfl ⟨Nat.le_of_ble_eq_true rfl, Nat.le_of_ble_eq_true rfl⟩ rfl hl.1 rfl (Nat.le_of_ble_eq_true rfl) dX11_test_60 ⟨Nat.le_of_ble_eq_true rfl, Nat.le_of_ble_eq_true rfl⟩) (fun H locs hB => ?_)
        replace hv := Option.some.inj hv
        subst hv
        rw [← kt]
        exact z_iret hc hB hr dX11_test_63
      · replace hv := y_br_f hv c20
        by_cases c26 : x2 = 2
        · replace hv := y_br_t hv c26
          refine lv_tableIn (off := 42) (tgt := 64) hx hb dX11_test_22 (by rw [c26]; decide) (by rw [c26]; decide) (by rw [c26]; rfl) (by decide) ?_
          refine lv_aload_n hx hb dX11_test_64 rfl (lv_at hl 1 rfl) ?_
          refine z_getR hc hB 10 3 g1 eob2 (by decide) (by decide) rfl (z_l1 hc qfX11_36) dX11_test_65 ?_
          refine z_getR hc hB 8 0 g3 eob4 (by decide) (by decide) rfl (z_l2 hc qfX11_106) dX11_test_68 ?_
          refine lv_iload_n hx hb dX11_test_71 rfl (lv_at hl 2 rfl) ?_
          obtain ⟨r28, c27, hv⟩ := y_bi_e hv
          refine z_thI hc hB (z_runV hc hB 2 (mm_X2_timesAsked hSK l ad ob4 x1 h c27) md_X2_timesAsked qmX11_124 g5 (by decide) rfl rfl rfl ⟨Nat.le_of_ble_eq_true rfl, Nat.le_of_ble_eq_true rfl⟩ rfl hl.1 rfl (Nat.le_of_ble_eq_true rfl) dX11_test_72 ⟨Nat.le_of_ble_eq_true rfl, Nat.le_of_ble_eq_true rfl⟩) (fun H locs hB => ?_)
          replace hv := Option.some.inj hv
          subst hv
          rw [← kt]
          exact z_iret hc hB hr dX11_test_75
        · replace hv := y_br_f hv c26
          by_cases c32 : x2 = 3
          · replace hv := y_br_t hv c32
            refine lv_tableIn (off := 54) (tgt := 76) hx hb dX11_test_22 (by rw [c32]; decide) (by rw [c32]; decide) (by rw [c32]; rfl) (by decide) ?_
            refine lv_aload_n hx hb dX11_test_76 rfl (lv_at hl 0 rfl) ?_
            refine lv_iload_n hx hb dX11_test_77 rfl (lv_at hl 2 rfl) ?_
            obtain ⟨r34, c33, hv⟩ := y_bi_e hv
            refine z_thI hc hB (z_runV hc hB 0 (mm_X0_keepersOf hSK l ad ob6 x1 h c33) md_X0_keepersOf qmX11_127 g12 (by decide) rfl rfl rfl ⟨Nat.le_of_ble_eq_true rfl, Nat.le_of_ble_eq_true rfl⟩ rfl hl.1 rfl (Nat.le_of_ble_eq_true rfl) dX11_test_78 ⟨Nat.le_of_ble_eq_true rfl, Nat.le_of_ble_eq_true rfl⟩) (fun H locs hB => ?_)
            replace hv := Option.some.inj hv
            subst hv
            rw [← kt]
            exact z_iret hc hB hr dX11_test_81
          · replace hv := y_br_f hv c32
            refine lv_tableOut (tgt := 82) hx hb dX11_test_22 (by have := y_nt (z := 0) (by decide) c14; have := y_nt (z := 1) (by decide) c20; have := y_nt (z := 2) (by decide) c26; have := y_nt (z := 3) (by decide) c32; omega) (by decide) ?_
            refine lv_iconst (v := (-1 : Int32)) hx hb dX11_test_82 (by decide) ?_
            replace hv := Option.some.inj hv
            subst hv
            rw [← kt]
            exact z_iret hc hB hr dX11_test_83
  · replace hv := y_br_t hv c13
    refine lv_iconst (v := (-1 : Int32)) hx hb dX11_test_19 (by decide) ?_
    replace hv := Option.some.inj hv
    subst hv
    rw [← kt]
    exact z_iret hc hB hr dX11_test_20
theorem dX11_isSide_0 : decode cX11_isSide 0 = .ok (.iload_n 0, 1) := by decide +kernel
theorem dX11_isSide_1 : decode cX11_isSide 1 = .ok (.ifCond .eq 8, 3) := by decide +kernel
theorem dX11_isSide_4 : decode cX11_isSide 4 = .ok (.iload_n 0, 1) := by decide +kernel
theorem dX11_isSide_5 : decode cX11_isSide 5 = .ok (.iconst 1, 1) := by decide +kernel
theorem dX11_isSide_6 : decode cX11_isSide 6 = .ok (.if_icmp .ne 7, 3) := by decide +kernel
theorem dX11_isSide_9 : decode cX11_isSide 9 = .ok (.iconst 1, 1) := by decide +kernel
theorem dX11_isSide_10 : decode cX11_isSide 10 = .ok (.goto 4, 3) := by decide +kernel
theorem dX11_isSide_13 : decode cX11_isSide 13 = .ok (.iconst 0, 1) := by decide +kernel
theorem dX11_isSide_14 : decode cX11_isSide 14 = .ok (.ireturn, 1) := by decide +kernel
abbrev rm_X11_isSide : Room := { frames := 0, cells := 0, slots := 0, locals := 0 }
noncomputable def fX11_isSide_b9  : Option (Int32) :=
  some (1 : Int32)
noncomputable def fX11_isSide (x0 : Int32) : Option (Int32) :=
  y_br (x0 = 0)
    (fX11_isSide_b9)
    (y_br (x0 = (1 : Int32))
      (fX11_isSide_b9)
      (some (0 : Int32)))
set_option maxHeartbeats 4000000 in
set_option maxRecDepth 100000 in
theorem mm_X11_isSide {G : z_Gt} (hSK : z_SK (z_S G)) (l : Launch) (ad : Nat → Nat) (x0 : Int32) (h : z_T) {r0 : Int32} (hv : fX11_isSide x0 = some r0) : z_Mi G (z_S G) l yX11_isSide cX11_isSide 1 (.boolean) rm_X11_isSide 0 0 [.int x0] ad h h r0 := by
  refine z_ofW hSK (by decide) (Nat.le_of_ble_eq_true rfl) ?_
  intro p e s m args below meth c ls hc hr hnm hB hl
  have hx := hc.1.1
  have hb := hc.1.2.1
  have hown := hc.1.2.2.2.1
  have hts := hc.1.2.2.2.2
  replace hc : z_C G (z_S G) ad (z_n h) p m c cX11_isSide 1 s args RX11 meth := hc
  replace hown : s.vm.findClass RX11 = some m.cls := hown
  replace hl : lv_has ls 1 [(0, .int x0)] := hl
  show W p l e rm_X11_isSide s m args below meth c s.heap [] 0 0 (MQ below (z_Qi G ad h (z_n h) s.heap.size r0) args s 0 0 (z_A ad (z_n h) s.heap.size)) (F0 m 0 ls [])
  obtain ⟨rs, kt⟩ : ∃ rs : Int32, rs = r0 := ⟨_, rfl⟩
  generalize hn0 : z_n h = n0 at hc hB ⊢
  have b9 : ∀ (H : Heap) (locs : List Loc) (ls : Array Slot), z_B G ad n0 s h H locs → lv_has ls 1 [] → ∀ w, fX11_isSide_b9 = some w → w = r0 → W p l e rm_X11_isSide s m args below meth c H locs 0 0 (MQ below (z_Qi G ad h n0 s.heap.size r0) args s 0 0 (z_A ad n0 s.heap.size)) (F0 m 9 ls []) := by
    intro H locs ls hB hl w hv kb
    refine lv_iconst (v := (1 : Int32)) hx hb dX11_isSide_9 (by decide) ?_
    refine lv_goto (tgt := 14) hx hb dX11_isSide_10 (by decide) ?_
    replace hv := Option.some.inj hv
    subst hv
    rw [← kb]
    exact z_zret hc hB hr rfl dX11_isSide_14
  rw [← kt] at hv
  refine lv_iload_n hx hb dX11_isSide_0 rfl (lv_at hl 0 rfl) ?_
  refine lv_if_eq (tgt := 9) hx hb dX11_isSide_1 (by decide) (fun c1 => ?_) (fun c1 => ?_)
  · replace hv := y_br_t hv c1
    exact b9 _ _ _ hB (lv_sub hl [] rfl) _ hv kt
  · replace hv := y_br_f hv c1
    refine lv_iload_n hx hb dX11_isSide_4 rfl (lv_at hl 0 rfl) ?_
    refine lv_iconst (v := (1 : Int32)) hx hb dX11_isSide_5 (by decide) ?_
    refine lv_icmp_ne (tgt := 13) hx hb dX11_isSide_6 (by decide) (fun c2 => ?_) (fun c2 => ?_)
    · replace hv := y_br_f hv c2
      refine lv_iconst (v := (0 : Int32)) hx hb dX11_isSide_13 (by decide) ?_
      replace hv := Option.some.inj hv
      subst hv
      rw [← kt]
      exact z_zret hc hB hr rfl dX11_isSide_14
    · replace hv := y_br_t hv c2
      exact b9 _ _ _ hB (lv_sub hl [] rfl) _ hv kt
theorem qmX11_130 : Cond.methodLink RX11 130 yX0_hasDream ∈ z_ws := List.mem_filter.mpr ⟨List.mem_append_right _ (List.mem_of_getElem? (i := 489) (by decide +kernel)), rfl⟩
theorem qc_X0_hasDream : Cond.code yX0_hasDream cX0_hasDream 2 (some .boolean) ∈ z_ws := List.mem_filter.mpr ⟨List.mem_append_right _ (List.mem_of_getElem? (i := 492) (by decide +kernel)), rfl⟩
theorem qi_X0_hasDream : Cond.instanceMethod yX0_hasDream ∈ z_ws := List.mem_filter.mpr ⟨List.mem_append_right _ (List.mem_of_getElem? (i := 490) (by decide +kernel)), rfl⟩
theorem qs_X0_hasDream : Cond.selects RX0 yX0_hasDream yX0_hasDream ∈ z_ws := List.mem_filter.mpr ⟨List.mem_append_right _ (List.mem_of_getElem? (i := 491) (by decide +kernel)), rfl⟩
theorem md_X0_hasDream : z_mdV yX0_hasDream cX0_hasDream 2 (some .boolean) 1 := ⟨⟨qn_RX0, qc_X0_hasDream, ⟨by decide +kernel, by decide +kernel, by decide +kernel⟩⟩, qi_X0_hasDream, qs_X0_hasDream⟩
theorem qmX11_133 : Cond.methodLink RX11 133 yX11_isSide ∈ z_ws := List.mem_filter.mpr ⟨List.mem_append_right _ (List.mem_of_getElem? (i := 493) (by decide +kernel)), rfl⟩
theorem qc_X11_isSide : Cond.code yX11_isSide cX11_isSide 1 (some .boolean) ∈ z_ws := List.mem_filter.mpr ⟨List.mem_append_right _ (List.mem_of_getElem? (i := 495) (by decide +kernel)), rfl⟩
theorem qs_X11_isSide : Cond.static yX11_isSide ∈ z_ws := List.mem_filter.mpr ⟨List.mem_append_right _ (List.mem_of_getElem? (i := 494) (by decide +kernel)), rfl⟩
theorem md_X11_isSide : z_mdS yX11_isSide cX11_isSide 1 (some .boolean) 1 := ⟨⟨qn_RX11, qc_X11_isSide, ⟨by decide +kernel, by decide +kernel, by decide +kernel⟩⟩, qs_X11_isSide⟩
theorem qmX11_139 : Cond.methodLink RX11 139 yX0_keptIn ∈ z_ws := List.mem_filter.mpr ⟨List.mem_append_right _ (List.mem_of_getElem? (i := 497) (by decide +kernel)), rfl⟩
theorem qmX11_136 : Cond.methodLink RX11 136 yX0_weightOf ∈ z_ws := List.mem_filter.mpr ⟨List.mem_append_right _ (List.mem_of_getElem? (i := 496) (by decide +kernel)), rfl⟩
theorem dX11_dream_0 : decode cX11_dream 0 = .ok (.aload_n 0, 1) := by decide +kernel
theorem dX11_dream_1 : decode cX11_dream 1 = .ok (.getfield 36, 3) := by decide +kernel
theorem dX11_dream_4 : decode cX11_dream 4 = .ok (.getfield 106, 3) := by decide +kernel
theorem dX11_dream_7 : decode cX11_dream 7 = .ok (.getfield 109, 3) := by decide +kernel
theorem dX11_dream_10 : decode cX11_dream 10 = .ok (.astore_n 3, 1) := by decide +kernel
theorem dX11_dream_11 : decode cX11_dream 11 = .ok (.aload_n 3, 1) := by decide +kernel
theorem dX11_dream_12 : decode cX11_dream 12 = .ok (.iload_n 1, 1) := by decide +kernel
theorem dX11_dream_13 : decode cX11_dream 13 = .ok (.invokevirtual 130, 3) := by decide +kernel
theorem dX11_dream_16 : decode cX11_dream 16 = .ok (.ifCond .eq 10, 3) := by decide +kernel
theorem dX11_dream_19 : decode cX11_dream 19 = .ok (.iload_n 2, 1) := by decide +kernel
theorem dX11_dream_20 : decode cX11_dream 20 = .ok (.invokestatic 133, 3) := by decide +kernel
theorem dX11_dream_23 : decode cX11_dream 23 = .ok (.ifCond .ne 5, 3) := by decide +kernel
theorem dX11_dream_26 : decode cX11_dream 26 = .ok (.iconst (-1), 1) := by decide +kernel
theorem dX11_dream_27 : decode cX11_dream 27 = .ok (.ireturn, 1) := by decide +kernel
theorem dX11_dream_28 : decode cX11_dream 28 = .ok (.iload_n 2, 1) := by decide +kernel
theorem dX11_dream_29 : decode cX11_dream 29 = .ok (.ifCond .ne 13, 3) := by decide +kernel
theorem dX11_dream_32 : decode cX11_dream 32 = .ok (.aload_n 3, 1) := by decide +kernel
theorem dX11_dream_33 : decode cX11_dream 33 = .ok (.iload_n 1, 1) := by decide +kernel
theorem dX11_dream_34 : decode cX11_dream 34 = .ok (.iconst 1, 1) := by decide +kernel
theorem dX11_dream_35 : decode cX11_dream 35 = .ok (.iadd, 1) := by decide +kernel
theorem dX11_dream_36 : decode cX11_dream 36 = .ok (.invokevirtual 136, 3) := by decide +kernel
theorem dX11_dream_39 : decode cX11_dream 39 = .ok (.goto 10, 3) := by decide +kernel
theorem dX11_dream_42 : decode cX11_dream 42 = .ok (.aload_n 3, 1) := by decide +kernel
theorem dX11_dream_43 : decode cX11_dream 43 = .ok (.iload_n 1, 1) := by decide +kernel
theorem dX11_dream_44 : decode cX11_dream 44 = .ok (.iconst 1, 1) := by decide +kernel
theorem dX11_dream_45 : decode cX11_dream 45 = .ok (.iadd, 1) := by decide +kernel
theorem dX11_dream_46 : decode cX11_dream 46 = .ok (.invokevirtual 139, 3) := by decide +kernel
theorem dX11_dream_49 : decode cX11_dream 49 = .ok (.ireturn, 1) := by decide +kernel
abbrev rm_X11_dream : Room := { frames := 1, cells := 0, slots := 0, locals := 21 }
noncomputable def fX11_dream (o0 : Nat) (x1 : Int32) (x2 : Int32) (h : z_T) : Option (Int32) :=
  y_gd (z_ok h o0 10) <|
  y_bi (z_R h o0 3) fun ob2 =>
  y_gd (z_ok h ob2 8) <|
  y_bi (z_R h ob2 0) fun ob4 =>
  y_gd (z_ok h ob4 2) <|
  y_bi (z_R h ob4 0) fun ob6 =>
  y_gd (z_ok h ob6 0) <|
  y_bi (fX0_hasDream ob6 x1 h) fun r8 =>
  y_br (r8 = 0)
    (some (-1 : Int32))
    (y_bi (fX11_isSide x2) fun r15 =>
    y_br (r15 = 0)
      (some (-1 : Int32))
      (y_br (x2 = 0)
        (y_bi (fX0_weightOf ob6 (x1 + (1 : Int32)) h) fun r27 =>
        some r27)
        (y_bi (fX0_keptIn ob6 (x1 + (1 : Int32)) h) fun r22 =>
        some r22)))
set_option maxHeartbeats 4000000 in
set_option maxRecDepth 100000 in
theorem mm_X11_dream {G : z_Gt} (hSK : z_SK (z_S G)) (l : Launch) (ad : Nat → Nat) (o0 : Nat) (x1 : Int32) (x2 : Int32) (h : z_T) {r0 : Int32} (hv : fX11_dream o0 x1 x2 h = some r0) : z_Mi G (z_S G) l yX11_dream cX11_dream 4 (.int) rm_X11_dream 0 0 [.ref (ad o0), .int x1, .int x2] ad h h r0 := by
  refine z_ofW hSK (by decide) (Nat.le_of_ble_eq_true rfl) ?_
  intro p e s m args below meth c ls hc hr hnm hB hl
  have hx := hc.1.1
  have hb := hc.1.2.1
  have hown := hc.1.2.2.2.1
  have hts := hc.1.2.2.2.2
  replace hc : z_C G (z_S G) ad (z_n h) p m c cX11_dream 4 s args RX11 meth := hc
  replace hown : s.vm.findClass RX11 = some m.cls := hown
  replace hl : lv_has ls 4 [(0, .ref (ad o0)), (1, .int x1), (2, .int x2)] := hl
  show W p l e rm_X11_dream s m args below meth c s.heap [] 0 0 (MQ below (z_Qi G ad h (z_n h) s.heap.size r0) args s 0 0 (z_A ad (z_n h) s.heap.size)) (F0 m 0 ls [])
  obtain ⟨rs, kt⟩ : ∃ rs : Int32, rs = r0 := ⟨_, rfl⟩
  generalize hn0 : z_n h = n0 at hc hB ⊢
  rw [← kt] at hv
  refine lv_aload_n hx hb dX11_dream_0 rfl (lv_at hl 0 rfl) ?_
  obtain ⟨g1, hv⟩ := y_gd_e hv
  obtain ⟨ob2, eob2, hv⟩ := y_bi_e hv
  refine z_getR hc hB 10 3 g1 eob2 (by decide) (by decide) rfl (z_l1 hc qfX11_36) dX11_dream_1 ?_
  obtain ⟨g3, hv⟩ := y_gd_e hv
  obtain ⟨ob4, eob4, hv⟩ := y_bi_e hv
  refine z_getR hc hB 8 0 g3 eob4 (by decide) (by decide) rfl (z_l2 hc qfX11_106) dX11_dream_4 ?_
  obtain ⟨g5, hv⟩ := y_gd_e hv
  obtain ⟨ob6, eob6, hv⟩ := y_bi_e hv
  refine z_getR hc hB 2 0 g5 eob6 (by decide) (by decide) rfl (z_l2 hc qfX11_109) dX11_dream_7 ?_
  refine lv_astore_n (lv' := [(3, .ref (ad ob6)), (0, .ref (ad o0)), (1, .int x1), (2, .int x2)]) hx hb dX11_dream_10 rfl hl (by decide) rfl (fun ls hl => ?_)
  refine lv_aload_n hx hb dX11_dream_11 rfl (lv_at hl 0 rfl) ?_
  refine lv_iload_n hx hb dX11_dream_12 rfl (lv_at hl 2 rfl) ?_
  obtain ⟨g12, hv⟩ := y_gd_e hv
  obtain ⟨r8, c7, hv⟩ := y_bi_e hv
  refine z_thI hc hB (z_runV hc hB 0 (mm_X0_hasDream hSK l ad ob6 x1 h c7) md_X0_hasDream qmX11_130 g12 (by decide) rfl rfl rfl ⟨Nat.le_of_ble_eq_true rfl, Nat.le_of_ble_eq_true rfl⟩ rfl hl.1 rfl (Nat.le_of_ble_eq_true rfl) dX11_dream_13 ⟨Nat.le_of_ble_eq_true rfl, Nat.le_of_ble_eq_true rfl⟩) (fun H locs hB => ?_)
  refine lv_if_eq (tgt := 26) hx hb dX11_dream_16 (by decide) (fun c13 => ?_) (fun c13 => ?_)
  · replace hv := y_br_t hv c13
    refine lv_iconst (v := (-1 : Int32)) hx hb dX11_dream_26 (by decide) ?_
    replace hv := Option.some.inj hv
    subst hv
    rw [← kt]
    exact z_iret hc hB hr dX11_dream_27
  · replace hv := y_br_f hv c13
    refine lv_iload_n hx hb dX11_dream_19 rfl (lv_at hl 3 rfl) ?_
    obtain ⟨r15, c14, hv⟩ := y_bi_e hv
    refine z_thI hc hB (z_runS hc hB (mm_X11_isSide hSK l ad x2 h c14) md_X11_isSide qmX11_133 rfl rfl ⟨Nat.le_of_ble_eq_true rfl, Nat.le_of_ble_eq_true rfl⟩ rfl hl.1 rfl (Nat.le_of_ble_eq_true rfl) dX11_dream_20 ⟨Nat.le_of_ble_eq_true rfl, Nat.le_of_ble_eq_true rfl⟩) (fun H locs hB => ?_)
    refine lv_if_ne (tgt := 28) hx hb dX11_dream_23 (by decide) (fun c19 => ?_) (fun c19 => ?_)
    · replace hv := y_br_f hv c19
      refine lv_iload_n hx hb dX11_dream_28 rfl (lv_at hl 3 rfl) ?_
      refine lv_if_ne (tgt := 42) hx hb dX11_dream_29 (by decide) (fun c20 => ?_) (fun c20 => ?_)
      · replace hv := y_br_f hv c20
        refine lv_aload_n hx hb dX11_dream_42 rfl (lv_at hl 0 rfl) ?_
        refine lv_iload_n hx hb dX11_dream_43 rfl (lv_at hl 2 rfl) ?_
        refine lv_iconst (v := (1 : Int32)) hx hb dX11_dream_44 (by decide) ?_
        refine lv_iadd hx hb dX11_dream_45 ?_
        obtain ⟨r22, c21, hv⟩ := y_bi_e hv
        refine z_thI hc hB (z_runV hc hB 0 (mm_X0_keptIn hSK l ad ob6 (x1 + (1 : Int32)) h c21) md_X0_keptIn qmX11_139 g12 (by decide) rfl rfl rfl ⟨Nat.le_of_ble_eq_true rfl, Nat.le_of_ble_eq_true rfl⟩ rfl hl.1 rfl (Nat.le_of_ble_eq_true rfl) dX11_dream_46 ⟨Nat.le_of_ble_eq_true rfl, Nat.le_of_ble_eq_true rfl⟩) (fun H locs hB => ?_)
        replace hv := Option.some.inj hv
        subst hv
        rw [← kt]
        exact z_iret hc hB hr dX11_dream_49
      · replace hv := y_br_t hv c20
        refine lv_aload_n hx hb dX11_dream_32 rfl (lv_at hl 0 rfl) ?_
        refine lv_iload_n hx hb dX11_dream_33 rfl (lv_at hl 2 rfl) ?_
        refine lv_iconst (v := (1 : Int32)) hx hb dX11_dream_34 (by decide) ?_
        refine lv_iadd hx hb dX11_dream_35 ?_
        obtain ⟨r27, c26, hv⟩ := y_bi_e hv
        refine z_thI hc hB (z_runV hc hB 0 (mm_X0_weightOf hSK l ad ob6 (x1 + (1 : Int32)) h c26) md_X0_weightOf qmX11_136 g12 (by decide) rfl rfl rfl ⟨Nat.le_of_ble_eq_true rfl, Nat.le_of_ble_eq_true rfl⟩ rfl hl.1 rfl (Nat.le_of_ble_eq_true rfl) dX11_dream_36 ⟨Nat.le_of_ble_eq_true rfl, Nat.le_of_ble_eq_true rfl⟩) (fun H locs hB => ?_)
        refine lv_goto (tgt := 49) hx hb dX11_dream_39 (by decide) ?_
        replace hv := Option.some.inj hv
        subst hv
        rw [← kt]
        exact z_iret hc hB hr dX11_dream_49
    · replace hv := y_br_t hv c19
      refine lv_iconst (v := (-1 : Int32)) hx hb dX11_dream_26 (by decide) ?_
      replace hv := Option.some.inj hv
      subst hv
      rw [← kt]
      exact z_iret hc hB hr dX11_dream_27
theorem qmX11_142 : Cond.methodLink RX11 142 yX2_chance ∈ z_ws := List.mem_filter.mpr ⟨List.mem_append_right _ (List.mem_of_getElem? (i := 502) (by decide +kernel)), rfl⟩
theorem dX11_stays_0 : decode cX11_stays 0 = .ok (.aload_n 0, 1) := by decide +kernel
theorem dX11_stays_1 : decode cX11_stays 1 = .ok (.getfield 36, 3) := by decide +kernel
theorem dX11_stays_4 : decode cX11_stays 4 = .ok (.getfield 106, 3) := by decide +kernel
theorem dX11_stays_7 : decode cX11_stays 7 = .ok (.getfield 109, 3) := by decide +kernel
theorem dX11_stays_10 : decode cX11_stays 10 = .ok (.astore_n 3, 1) := by decide +kernel
theorem dX11_stays_11 : decode cX11_stays 11 = .ok (.aload_n 3, 1) := by decide +kernel
theorem dX11_stays_12 : decode cX11_stays 12 = .ok (.iload_n 1, 1) := by decide +kernel
theorem dX11_stays_13 : decode cX11_stays 13 = .ok (.invokevirtual 113, 3) := by decide +kernel
theorem dX11_stays_16 : decode cX11_stays 16 = .ok (.ifCond .eq 16, 3) := by decide +kernel
theorem dX11_stays_19 : decode cX11_stays 19 = .ok (.iload_n 2, 1) := by decide +kernel
theorem dX11_stays_20 : decode cX11_stays 20 = .ok (.iconst (-1), 1) := by decide +kernel
theorem dX11_stays_21 : decode cX11_stays 21 = .ok (.if_icmp .eq 13, 3) := by decide +kernel
theorem dX11_stays_24 : decode cX11_stays 24 = .ok (.aload_n 3, 1) := by decide +kernel
theorem dX11_stays_25 : decode cX11_stays 25 = .ok (.iload_n 2, 1) := by decide +kernel
theorem dX11_stays_26 : decode cX11_stays 26 = .ok (.invokevirtual 130, 3) := by decide +kernel
theorem dX11_stays_29 : decode cX11_stays 29 = .ok (.ifCond .ne 5, 3) := by decide +kernel
theorem dX11_stays_32 : decode cX11_stays 32 = .ok (.iconst (-1), 1) := by decide +kernel
theorem dX11_stays_33 : decode cX11_stays 33 = .ok (.ireturn, 1) := by decide +kernel
theorem dX11_stays_34 : decode cX11_stays 34 = .ok (.aload_n 0, 1) := by decide +kernel
theorem dX11_stays_35 : decode cX11_stays 35 = .ok (.getfield 36, 3) := by decide +kernel
theorem dX11_stays_38 : decode cX11_stays 38 = .ok (.getfield 106, 3) := by decide +kernel
theorem dX11_stays_41 : decode cX11_stays 41 = .ok (.iload_n 1, 1) := by decide +kernel
theorem dX11_stays_42 : decode cX11_stays 42 = .ok (.iload_n 2, 1) := by decide +kernel
theorem dX11_stays_43 : decode cX11_stays 43 = .ok (.iconst 1, 1) := by decide +kernel
theorem dX11_stays_44 : decode cX11_stays 44 = .ok (.iadd, 1) := by decide +kernel
theorem dX11_stays_45 : decode cX11_stays 45 = .ok (.invokevirtual 142, 3) := by decide +kernel
theorem dX11_stays_48 : decode cX11_stays 48 = .ok (.ireturn, 1) := by decide +kernel
abbrev rm_X11_stays : Room := { frames := 3, cells := 0, slots := 0, locals := 68 }
noncomputable def fX11_stays_b34 (o0 : Nat) (x1 : Int32) (x2 : Int32) (h : z_T) : Option (Int32) :=
  y_gd (z_ok h o0 10) <|
  y_bi (z_R h o0 3) fun ob2 =>
  y_gd (z_ok h ob2 8) <|
  y_bi (z_R h ob2 0) fun ob4 =>
  y_gd (z_ok h ob4 2) <|
  y_bi (fX2_chance ob4 x1 (x2 + (1 : Int32)) h) fun r6 =>
  some r6
noncomputable def fX11_stays (o0 : Nat) (x1 : Int32) (x2 : Int32) (h : z_T) : Option (Int32) :=
  y_gd (z_ok h o0 10) <|
  y_bi (z_R h o0 3) fun ob12 =>
  y_gd (z_ok h ob12 8) <|
  y_bi (z_R h ob12 0) fun ob14 =>
  y_gd (z_ok h ob14 2) <|
  y_bi (z_R h ob14 0) fun ob16 =>
  y_gd (z_ok h ob16 0) <|
  y_bi (fX0_hasTest ob16 x1 h) fun r18 =>
  y_br (r18 = 0)
    (some (-1 : Int32))
    (y_br (x2 = (-1 : Int32))
      (fX11_stays_b34 o0 x1 x2 h)
      (y_bi (fX0_hasDream ob16 x2 h) fun r26 =>
      y_br (r26 = 0)
        (some (-1 : Int32))
        (fX11_stays_b34 o0 x1 x2 h)))
set_option maxHeartbeats 4000000 in
set_option maxRecDepth 100000 in
theorem mm_X11_stays {G : z_Gt} (hSK : z_SK (z_S G)) (l : Launch) (ad : Nat → Nat) (o0 : Nat) (x1 : Int32) (x2 : Int32) (h : z_T) {r0 : Int32} (hv : fX11_stays o0 x1 x2 h = some r0) : z_Mi G (z_S G) l yX11_stays cX11_stays 4 (.int) rm_X11_stays 0 0 [.ref (ad o0), .int x1, .int x2] ad h h r0 := by
  refine z_ofW hSK (by decide) (Nat.le_of_ble_eq_true rfl) ?_
  intro p e s m args below meth c ls hc hr hnm hB hl
  have hx := hc.1.1
  have hb := hc.1.2.1
  have hown := hc.1.2.2.2.1
  have hts := hc.1.2.2.2.2
  replace hc : z_C G (z_S G) ad (z_n h) p m c cX11_stays 4 s args RX11 meth := hc
  replace hown : s.vm.findClass RX11 = some m.cls := hown
  replace hl : lv_has ls 4 [(0, .ref (ad o0)), (1, .int x1), (2, .int x2)] := hl
  show W p l e rm_X11_stays s m args below meth c s.heap [] 0 0 (MQ below (z_Qi G ad h (z_n h) s.heap.size r0) args s 0 0 (z_A ad (z_n h) s.heap.size)) (F0 m 0 ls [])
  obtain ⟨rs, kt⟩ : ∃ rs : Int32, rs = r0 := ⟨_, rfl⟩
  generalize hn0 : z_n h = n0 at hc hB ⊢
  have b34 : ∀ (H : Heap) (locs : List Loc) (ls : Array Slot), z_B G ad n0 s h H locs → lv_has ls 4 [(0, .ref (ad o0)), (1, .int x1), (2, .int x2)] → ∀ w, fX11_stays_b34 o0 x1 x2 h = some w → w = r0 → W p l e rm_X11_stays s m args below meth c H locs 0 0 (MQ below (z_Qi G ad h n0 s.heap.size r0) args s 0 0 (z_A ad n0 s.heap.size)) (F0 m 34 ls []) := by
    intro H locs ls hB hl w hv kb
    refine lv_aload_n hx hb dX11_stays_34 rfl (lv_at hl 0 rfl) ?_
    obtain ⟨g1, hv⟩ := y_gd_e hv
    obtain ⟨ob2, eob2, hv⟩ := y_bi_e hv
    refine z_getR hc hB 10 3 g1 eob2 (by decide) (by decide) rfl (z_l1 hc qfX11_36) dX11_stays_35 ?_
    obtain ⟨g3, hv⟩ := y_gd_e hv
    obtain ⟨ob4, eob4, hv⟩ := y_bi_e hv
    refine z_getR hc hB 8 0 g3 eob4 (by decide) (by decide) rfl (z_l2 hc qfX11_106) dX11_stays_38 ?_
    refine lv_iload_n hx hb dX11_stays_41 rfl (lv_at hl 1 rfl) ?_
    refine lv_iload_n hx hb dX11_stays_42 rfl (lv_at hl 2 rfl) ?_
    refine lv_iconst (v := (1 : Int32)) hx hb dX11_stays_43 (by decide) ?_
    refine lv_iadd hx hb dX11_stays_44 ?_
    obtain ⟨g10, hv⟩ := y_gd_e hv
    obtain ⟨r6, c5, hv⟩ := y_bi_e hv
    refine z_thI hc hB (z_runV hc hB 2 (mm_X2_chance hSK l ad ob4 x1 (x2 + (1 : Int32)) h c5) md_X2_chance qmX11_142 g10 (by decide) rfl rfl rfl ⟨Nat.le_of_ble_eq_true rfl, Nat.le_of_ble_eq_true rfl⟩ rfl hl.1 rfl (Nat.le_of_ble_eq_true rfl) dX11_stays_45 ⟨Nat.le_of_ble_eq_true rfl, Nat.le_of_ble_eq_true rfl⟩) (fun H locs hB => ?_)
    replace hv := Option.some.inj hv
    subst hv
    rw [← kb]
    exact z_iret hc hB hr dX11_stays_48
  rw [← kt] at hv
  refine lv_aload_n hx hb dX11_stays_0 rfl (lv_at hl 0 rfl) ?_
  obtain ⟨g11, hv⟩ := y_gd_e hv
  obtain ⟨ob12, eob12, hv⟩ := y_bi_e hv
  refine z_getR hc hB 10 3 g11 eob12 (by decide) (by decide) rfl (z_l1 hc qfX11_36) dX11_stays_1 ?_
  obtain ⟨g13, hv⟩ := y_gd_e hv
  obtain ⟨ob14, eob14, hv⟩ := y_bi_e hv
  refine z_getR hc hB 8 0 g13 eob14 (by decide) (by decide) rfl (z_l2 hc qfX11_106) dX11_stays_4 ?_
  obtain ⟨g15, hv⟩ := y_gd_e hv
  obtain ⟨ob16, eob16, hv⟩ := y_bi_e hv
  refine z_getR hc hB 2 0 g15 eob16 (by decide) (by decide) rfl (z_l2 hc qfX11_109) dX11_stays_7 ?_
  refine lv_astore_n (lv' := [(3, .ref (ad ob16)), (0, .ref (ad o0)), (1, .int x1), (2, .int x2)]) hx hb dX11_stays_10 rfl hl (by decide) rfl (fun ls hl => ?_)
  refine lv_aload_n hx hb dX11_stays_11 rfl (lv_at hl 0 rfl) ?_
  refine lv_iload_n hx hb dX11_stays_12 rfl (lv_at hl 2 rfl) ?_
  obtain ⟨g22, hv⟩ := y_gd_e hv
  obtain ⟨r18, c17, hv⟩ := y_bi_e hv
  refine z_thI hc hB (z_runV hc hB 0 (mm_X0_hasTest hSK l ad ob16 x1 h c17) md_X0_hasTest qmX11_113 g22 (by decide) rfl rfl rfl ⟨Nat.le_of_ble_eq_true rfl, Nat.le_of_ble_eq_true rfl⟩ rfl hl.1 rfl (Nat.le_of_ble_eq_true rfl) dX11_stays_13 ⟨Nat.le_of_ble_eq_true rfl, Nat.le_of_ble_eq_true rfl⟩) (fun H locs hB => ?_)
  refine lv_if_eq (tgt := 32) hx hb dX11_stays_16 (by decide) (fun c23 => ?_) (fun c23 => ?_)
  · replace hv := y_br_t hv c23
    refine lv_iconst (v := (-1 : Int32)) hx hb dX11_stays_32 (by decide) ?_
    replace hv := Option.some.inj hv
    subst hv
    rw [← kt]
    exact z_iret hc hB hr dX11_stays_33
  · replace hv := y_br_f hv c23
    refine lv_iload_n hx hb dX11_stays_19 rfl (lv_at hl 3 rfl) ?_
    refine lv_iconst (v := (-1 : Int32)) hx hb dX11_stays_20 (by decide) ?_
    refine lv_icmp_eq (tgt := 34) hx hb dX11_stays_21 (by decide) (fun c24 => ?_) (fun c24 => ?_)
    · replace hv := y_br_t hv c24
      exact b34 _ _ _ hB (lv_sub hl [1, 2, 3] rfl) _ hv kt
    · replace hv := y_br_f hv c24
      refine lv_aload_n hx hb dX11_stays_24 rfl (lv_at hl 0 rfl) ?_
      refine lv_iload_n hx hb dX11_stays_25 rfl (lv_at hl 3 rfl) ?_
      obtain ⟨r26, c25, hv⟩ := y_bi_e hv
      refine z_thI hc hB (z_runV hc hB 0 (mm_X0_hasDream hSK l ad ob16 x2 h c25) md_X0_hasDream qmX11_130 g22 (by decide) rfl rfl rfl ⟨Nat.le_of_ble_eq_true rfl, Nat.le_of_ble_eq_true rfl⟩ rfl hl.1 rfl (Nat.le_of_ble_eq_true rfl) dX11_stays_26 ⟨Nat.le_of_ble_eq_true rfl, Nat.le_of_ble_eq_true rfl⟩) (fun H locs hB => ?_)
      refine lv_if_ne (tgt := 34) hx hb dX11_stays_29 (by decide) (fun c30 => ?_) (fun c30 => ?_)
      · replace hv := y_br_f hv c30
        exact b34 _ _ _ hB (lv_sub hl [1, 2, 3] rfl) _ hv kt
      · replace hv := y_br_t hv c30
        refine lv_iconst (v := (-1 : Int32)) hx hb dX11_stays_32 (by decide) ?_
        replace hv := Option.some.inj hv
        subst hv
        rw [← kt]
        exact z_iret hc hB hr dX11_stays_33
theorem qmX11_146 : Cond.methodLink RX11 146 yX2_isFull ∈ z_ws := List.mem_filter.mpr ⟨List.mem_append_right _ (List.mem_of_getElem? (i := 522) (by decide +kernel)), rfl⟩
theorem qc_X2_isFull : Cond.code yX2_isFull cX2_isFull 1 (some .boolean) ∈ z_ws := List.mem_filter.mpr ⟨List.mem_append_right _ (List.mem_of_getElem? (i := 525) (by decide +kernel)), rfl⟩
theorem qi_X2_isFull : Cond.instanceMethod yX2_isFull ∈ z_ws := List.mem_filter.mpr ⟨List.mem_append_right _ (List.mem_of_getElem? (i := 523) (by decide +kernel)), rfl⟩
theorem qs_X2_isFull : Cond.selects RX2 yX2_isFull yX2_isFull ∈ z_ws := List.mem_filter.mpr ⟨List.mem_append_right _ (List.mem_of_getElem? (i := 524) (by decide +kernel)), rfl⟩
theorem md_X2_isFull : z_mdV yX2_isFull cX2_isFull 1 (some .boolean) 0 := ⟨⟨qn_RX2, qc_X2_isFull, ⟨by decide +kernel, by decide +kernel, by decide +kernel⟩⟩, qi_X2_isFull, qs_X2_isFull⟩
theorem qmX11_150 : Cond.methodLink RX11 150 yX2_canBe ∈ z_ws := List.mem_filter.mpr ⟨List.mem_append_right _ (List.mem_of_getElem? (i := 526) (by decide +kernel)), rfl⟩
theorem qc_X2_canBe : Cond.code yX2_canBe cX2_canBe 4 (some .boolean) ∈ z_ws := List.mem_filter.mpr ⟨List.mem_append_right _ (List.mem_of_getElem? (i := 529) (by decide +kernel)), rfl⟩
theorem qi_X2_canBe : Cond.instanceMethod yX2_canBe ∈ z_ws := List.mem_filter.mpr ⟨List.mem_append_right _ (List.mem_of_getElem? (i := 527) (by decide +kernel)), rfl⟩
theorem qs_X2_canBe : Cond.selects RX2 yX2_canBe yX2_canBe ∈ z_ws := List.mem_filter.mpr ⟨List.mem_append_right _ (List.mem_of_getElem? (i := 528) (by decide +kernel)), rfl⟩
theorem md_X2_canBe : z_mdV yX2_canBe cX2_canBe 4 (some .boolean) 2 := ⟨⟨qn_RX2, qc_X2_canBe, ⟨by decide +kernel, by decide +kernel, by decide +kernel⟩⟩, qi_X2_canBe, qs_X2_canBe⟩
theorem qmX11_154 : Cond.methodLink RX11 154 yX4_keep ∈ z_ws := List.mem_filter.mpr ⟨List.mem_append_right _ (List.mem_of_getElem? (i := 539) (by decide +kernel)), rfl⟩
theorem qn_RX4 : Cond.initialized RX4 ∈ z_ws := List.mem_filter.mpr ⟨List.mem_append_right _ (List.mem_of_getElem? (i := 9) (by decide +kernel)), rfl⟩
theorem qc_X4_keep : Cond.code yX4_keep cX4_keep 2 none ∈ z_ws := List.mem_filter.mpr ⟨List.mem_append_right _ (List.mem_of_getElem? (i := 542) (by decide +kernel)), rfl⟩
theorem qi_X4_keep : Cond.instanceMethod yX4_keep ∈ z_ws := List.mem_filter.mpr ⟨List.mem_append_right _ (List.mem_of_getElem? (i := 540) (by decide +kernel)), rfl⟩
theorem qs_X4_keep : Cond.selects RX4 yX4_keep yX4_keep ∈ z_ws := List.mem_filter.mpr ⟨List.mem_append_right _ (List.mem_of_getElem? (i := 541) (by decide +kernel)), rfl⟩
theorem md_X4_keep : z_mdV yX4_keep cX4_keep 2 none 1 := ⟨⟨qn_RX4, qc_X4_keep, ⟨by decide +kernel, by decide +kernel, by decide +kernel⟩⟩, qi_X4_keep, qs_X4_keep⟩
theorem qmX11_158 : Cond.methodLink RX11 158 yX2_add ∈ z_ws := List.mem_filter.mpr ⟨List.mem_append_right _ (List.mem_of_getElem? (i := 553) (by decide +kernel)), rfl⟩
theorem qfX11_162 : Cond.fieldLinkNest RX11 162 "DreamTests$Night" "asked" "I" "DreamTests" ∈ z_nw := List.mem_filter.mpr ⟨List.mem_of_getElem? (i := 168) (by decide +kernel), rfl⟩
theorem dX11_ask_0 : decode cX11_ask 0 = .ok (.aload_n 0, 1) := by decide +kernel
theorem dX11_ask_1 : decode cX11_ask 1 = .ok (.getfield 36, 3) := by decide +kernel
theorem dX11_ask_4 : decode cX11_ask 4 = .ok (.getfield 106, 3) := by decide +kernel
theorem dX11_ask_7 : decode cX11_ask 7 = .ok (.astore_n 3, 1) := by decide +kernel
theorem dX11_ask_8 : decode cX11_ask 8 = .ok (.aload_n 3, 1) := by decide +kernel
theorem dX11_ask_9 : decode cX11_ask 9 = .ok (.getfield 109, 3) := by decide +kernel
theorem dX11_ask_12 : decode cX11_ask 12 = .ok (.iload_n 1, 1) := by decide +kernel
theorem dX11_ask_13 : decode cX11_ask 13 = .ok (.invokevirtual 113, 3) := by decide +kernel
theorem dX11_ask_16 : decode cX11_ask 16 = .ok (.ifCond .eq 26, 3) := by decide +kernel
theorem dX11_ask_19 : decode cX11_ask 19 = .ok (.iload_n 2, 1) := by decide +kernel
theorem dX11_ask_20 : decode cX11_ask 20 = .ok (.invokestatic 133, 3) := by decide +kernel
theorem dX11_ask_23 : decode cX11_ask 23 = .ok (.ifCond .eq 19, 3) := by decide +kernel
theorem dX11_ask_26 : decode cX11_ask 26 = .ok (.aload_n 3, 1) := by decide +kernel
theorem dX11_ask_27 : decode cX11_ask 27 = .ok (.invokevirtual 146, 3) := by decide +kernel
theorem dX11_ask_30 : decode cX11_ask 30 = .ok (.ifCond .ne 12, 3) := by decide +kernel
theorem dX11_ask_33 : decode cX11_ask 33 = .ok (.aload_n 3, 1) := by decide +kernel
theorem dX11_ask_34 : decode cX11_ask 34 = .ok (.iload_n 1, 1) := by decide +kernel
theorem dX11_ask_35 : decode cX11_ask 35 = .ok (.iload_n 2, 1) := by decide +kernel
theorem dX11_ask_36 : decode cX11_ask 36 = .ok (.invokevirtual 150, 3) := by decide +kernel
theorem dX11_ask_39 : decode cX11_ask 39 = .ok (.ifCond .ne 5, 3) := by decide +kernel
theorem dX11_ask_42 : decode cX11_ask 42 = .ok (.iconst (-1), 1) := by decide +kernel
theorem dX11_ask_43 : decode cX11_ask 43 = .ok (.ireturn, 1) := by decide +kernel
theorem dX11_ask_44 : decode cX11_ask 44 = .ok (.aload_n 0, 1) := by decide +kernel
theorem dX11_ask_45 : decode cX11_ask 45 = .ok (.getfield 47, 3) := by decide +kernel
theorem dX11_ask_48 : decode cX11_ask 48 = .ok (.aload_n 3, 1) := by decide +kernel
theorem dX11_ask_49 : decode cX11_ask 49 = .ok (.invokevirtual 154, 3) := by decide +kernel
theorem dX11_ask_52 : decode cX11_ask 52 = .ok (.aload_n 3, 1) := by decide +kernel
theorem dX11_ask_53 : decode cX11_ask 53 = .ok (.iload_n 1, 1) := by decide +kernel
theorem dX11_ask_54 : decode cX11_ask 54 = .ok (.iload_n 2, 1) := by decide +kernel
theorem dX11_ask_55 : decode cX11_ask 55 = .ok (.invokevirtual 158, 3) := by decide +kernel
theorem dX11_ask_58 : decode cX11_ask 58 = .ok (.aload_n 3, 1) := by decide +kernel
theorem dX11_ask_59 : decode cX11_ask 59 = .ok (.getfield 162, 3) := by decide +kernel
theorem dX11_ask_62 : decode cX11_ask 62 = .ok (.ireturn, 1) := by decide +kernel
abbrev rm_X11_ask : Room := { frames := 5, cells := 0, slots := 0, locals := 115 }
noncomputable def fX11_ask (o0 : Nat) (x1 : Int32) (x2 : Int32) (h : z_T) : Option (Int32 × z_T) :=
  y_gd (z_ok h o0 10) <|
  y_bi (z_R h o0 3) fun ob2 =>
  y_gd (z_ok h ob2 8) <|
  y_bi (z_R h ob2 0) fun ob4 =>
  y_gd (z_ok h ob4 2) <|
  y_bi (z_R h ob4 0) fun ob6 =>
  y_gd (z_ok h ob6 0) <|
  y_bi (fX0_hasTest ob6 x1 h) fun r8 =>
  y_br (r8 = 0)
    (some ((-1 : Int32), h))
    (y_bi (fX11_isSide x2) fun r15 =>
    y_br (r15 = 0)
      (some ((-1 : Int32), h))
      (y_bi (fX2_isFull ob4 h) fun r21 =>
      y_br (r21 = 0)
        (y_bi (fX2_canBe ob4 x1 x2 h) fun r27 =>
        y_br (r27 = 0)
          (some ((-1 : Int32), h))
          (y_bi (z_R h o0 5) fun ob32 =>
          y_gd (z_ok h ob32 4) <|
          y_bi (fX4_keep ob32 ob4 h) fun h34 =>
          y_gd (z_ok h34 ob4 2) <|
          y_bi (fX2_add ob4 x1 x2 h34) fun h37 =>
          y_gd (z_ok h37 ob4 2) <|
          some ((z_I h37 ob4 1), h37)))
        (some ((-1 : Int32), h))))
set_option maxHeartbeats 4000000 in
set_option maxRecDepth 100000 in
theorem mm_X11_ask {G : z_Gt} (hSK : z_SK (z_S G)) (l : Launch) (ad : Nat → Nat) (o0 : Nat) (x1 : Int32) (x2 : Int32) (h : z_T) {r0 : Int32} {h9 : z_T} (hv : fX11_ask o0 x1 x2 h = some (r0, h9)) : z_Mi G (z_S G) l yX11_ask cX11_ask 4 (.int) rm_X11_ask 0 0 [.ref (ad o0), .int x1, .int x2] ad h h9 r0 := by
  refine z_ofW hSK (by decide) (Nat.le_of_ble_eq_true rfl) ?_
  intro p e s m args below meth c ls hc hr hnm hB hl
  have hx := hc.1.1
  have hb := hc.1.2.1
  have hown := hc.1.2.2.2.1
  have hts := hc.1.2.2.2.2
  replace hc : z_C G (z_S G) ad (z_n h) p m c cX11_ask 4 s args RX11 meth := hc
  replace hown : s.vm.findClass RX11 = some m.cls := hown
  replace hl : lv_has ls 4 [(0, .ref (ad o0)), (1, .int x1), (2, .int x2)] := hl
  show W p l e rm_X11_ask s m args below meth c s.heap [] 0 0 (MQ below (z_Qi G ad h9 (z_n h) s.heap.size r0) args s 0 0 (z_A ad (z_n h) s.heap.size)) (F0 m 0 ls [])
  obtain ⟨rs, kt⟩ : ∃ rs : Int32 × z_T, rs = (r0, h9) := ⟨_, rfl⟩
  generalize hn0 : z_n h = n0 at hc hB ⊢
  rw [← kt] at hv
  refine lv_aload_n hx hb dX11_ask_0 rfl (lv_at hl 0 rfl) ?_
  obtain ⟨g1, hv⟩ := y_gd_e hv
  obtain ⟨ob2, eob2, hv⟩ := y_bi_e hv
  refine z_getR hc hB 10 3 g1 eob2 (by decide) (by decide) rfl (z_l1 hc qfX11_36) dX11_ask_1 ?_
  obtain ⟨g3, hv⟩ := y_gd_e hv
  obtain ⟨ob4, eob4, hv⟩ := y_bi_e hv
  refine z_getR hc hB 8 0 g3 eob4 (by decide) (by decide) rfl (z_l2 hc qfX11_106) dX11_ask_4 ?_
  refine lv_astore_n (lv' := [(3, .ref (ad ob4)), (0, .ref (ad o0)), (1, .int x1), (2, .int x2)]) hx hb dX11_ask_7 rfl hl (by decide) rfl (fun ls hl => ?_)
  refine lv_aload_n hx hb dX11_ask_8 rfl (lv_at hl 0 rfl) ?_
  obtain ⟨g5, hv⟩ := y_gd_e hv
  obtain ⟨ob6, eob6, hv⟩ := y_bi_e hv
  refine z_getR hc hB 2 0 g5 eob6 (by decide) (by decide) rfl (z_l2 hc qfX11_109) dX11_ask_9 ?_
  refine lv_iload_n hx hb dX11_ask_12 rfl (lv_at hl 2 rfl) ?_
  obtain ⟨g12, hv⟩ := y_gd_e hv
  obtain ⟨r8, c7, hv⟩ := y_bi_e hv
  refine z_thI hc hB (z_runV hc hB 0 (mm_X0_hasTest hSK l ad ob6 x1 h c7) md_X0_hasTest qmX11_113 g12 (by decide) rfl rfl rfl ⟨Nat.le_of_ble_eq_true rfl, Nat.le_of_ble_eq_true rfl⟩ rfl hl.1 rfl (Nat.le_of_ble_eq_true rfl) dX11_ask_13 ⟨Nat.le_of_ble_eq_true rfl, Nat.le_of_ble_eq_true rfl⟩) (fun H locs hB => ?_)
  refine lv_if_eq (tgt := 42) hx hb dX11_ask_16 (by decide) (fun c13 => ?_) (fun c13 => ?_)
  · replace hv := y_br_t hv c13
    refine lv_iconst (v := (-1 : Int32)) hx hb dX11_ask_42 (by decide) ?_
    replace hv := Option.some.inj hv
    subst hv
    obtain ⟨e1, e2⟩ := y_pr kt
    rw [← e1, ← e2]
    exact z_iret hc hB hr dX11_ask_43
  · replace hv := y_br_f hv c13
    refine lv_iload_n hx hb dX11_ask_19 rfl (lv_at hl 3 rfl) ?_
    obtain ⟨r15, c14, hv⟩ := y_bi_e hv
    refine z_thI hc hB (z_runS hc hB (mm_X11_isSide hSK l ad x2 h c14) md_X11_isSide qmX11_133 rfl rfl ⟨Nat.le_of_ble_eq_true rfl, Nat.le_of_ble_eq_true rfl⟩ rfl hl.1 rfl (Nat.le_of_ble_eq_true rfl) dX11_ask_20 ⟨Nat.le_of_ble_eq_true rfl, Nat.le_of_ble_eq_true rfl⟩) (fun H locs hB => ?_)
    refine lv_if_eq (tgt := 42) hx hb dX11_ask_23 (by decide) (fun c19 => ?_) (fun c19 => ?_)
    · replace hv := y_br_t hv c19
      refine lv_iconst (v := (-1 : Int32)) hx hb dX11_ask_42 (by decide) ?_
      replace hv := Option.some.inj hv
      subst hv
      obtain ⟨e1, e2⟩ := y_pr kt
      rw [← e1, ← e2]
      exact z_iret hc hB hr dX11_ask_43
    · replace hv := y_br_f hv c19
      refine lv_aload_n hx hb dX11_ask_26 rfl (lv_at hl 0 rfl) ?_
      obtain ⟨r21, c20, hv⟩ := y_bi_e hv
      refine z_thI hc hB (z_runV hc hB 2 (mm_X2_isFull hSK l ad ob4 h c20) md_X2_isFull qmX11_146 g5 (by decide) rfl rfl rfl ⟨Nat.le_of_ble_eq_true rfl, Nat.le_of_ble_eq_true rfl⟩ rfl hl.1 rfl (Nat.le_of_ble_eq_true rfl) dX11_ask_27 ⟨Nat.le_of_ble_eq_true rfl, Nat.le_of_ble_eq_true rfl⟩) (fun H locs hB => ?_)
      refine lv_if_ne (tgt := 42) hx hb dX11_ask_30 (by decide) (fun c25 => ?_) (fun c25 => ?_)
      · replace hv := y_br_f hv c25
        refine lv_iconst (v := (-1 : Int32)) hx hb dX11_ask_42 (by decide) ?_
        replace hv := Option.some.inj hv
        subst hv
        obtain ⟨e1, e2⟩ := y_pr kt
        rw [← e1, ← e2]
        exact z_iret hc hB hr dX11_ask_43
      · replace hv := y_br_t hv c25
        refine lv_aload_n hx hb dX11_ask_33 rfl (lv_at hl 0 rfl) ?_
        refine lv_iload_n hx hb dX11_ask_34 rfl (lv_at hl 2 rfl) ?_
        refine lv_iload_n hx hb dX11_ask_35 rfl (lv_at hl 3 rfl) ?_
        obtain ⟨r27, c26, hv⟩ := y_bi_e hv
        refine z_thI hc hB (z_runV hc hB 2 (mm_X2_canBe hSK l ad ob4 x1 x2 h c26) md_X2_canBe qmX11_150 g5 (by decide) rfl rfl rfl ⟨Nat.le_of_ble_eq_true rfl, Nat.le_of_ble_eq_true rfl⟩ rfl hl.1 rfl (Nat.le_of_ble_eq_true rfl) dX11_ask_36 ⟨Nat.le_of_ble_eq_true rfl, Nat.le_of_ble_eq_true rfl⟩) (fun H locs hB => ?_)
        refine lv_if_ne (tgt := 44) hx hb dX11_ask_39 (by decide) (fun c31 => ?_) (fun c31 => ?_)
        · replace hv := y_br_f hv c31
          refine lv_aload_n hx hb dX11_ask_44 rfl (lv_at hl 1 rfl) ?_
          obtain ⟨ob32, eob32, hv⟩ := y_bi_e hv
          refine z_getR hc hB 10 5 g1 eob32 (by decide) (by decide) rfl (z_l1 hc qfX11_47) dX11_ask_45 ?_
          refine lv_aload_n hx hb dX11_ask_48 rfl (lv_at hl 0 rfl) ?_
          obtain ⟨g35, hv⟩ := y_gd_e hv
          obtain ⟨h34, c33, hv⟩ := y_bi_e hv
          refine z_thV hc hB (z_runV hc hB 4 (mm_X4_keep hSK l ad ob32 ob4 h c33) md_X4_keep qmX11_154 g35 (by decide) rfl rfl rfl ⟨Nat.le_of_ble_eq_true rfl, Nat.le_of_ble_eq_true rfl⟩ rfl hl.1 rfl (Nat.le_of_ble_eq_true rfl) dX11_ask_49 ⟨Nat.le_of_ble_eq_true rfl, Nat.le_of_ble_eq_true rfl⟩) (fun H locs hB => ?_)
          refine lv_aload_n hx hb dX11_ask_52 rfl (lv_at hl 0 rfl) ?_
          refine lv_iload_n hx hb dX11_ask_53 rfl (lv_at hl 2 rfl) ?_
          refine lv_iload_n hx hb dX11_ask_54 rfl (lv_at hl 3 rfl) ?_
          obtain ⟨g38, hv⟩ := y_gd_e hv
          obtain ⟨h37, c36, hv⟩ := y_bi_e hv
          refine z_thV hc hB (z_runV hc hB 2 (mm_X2_add hSK l ad ob4 x1 x2 h34 c36) md_X2_add qmX11_158 g38 (by decide) rfl rfl rfl ⟨Nat.le_of_ble_eq_true rfl, Nat.le_of_ble_eq_true rfl⟩ rfl hl.1 rfl (Nat.le_of_ble_eq_true rfl) dX11_ask_55 ⟨Nat.le_of_ble_eq_true rfl, Nat.le_of_ble_eq_true rfl⟩) (fun H locs hB => ?_)
          refine lv_aload_n hx hb dX11_ask_58 rfl (lv_at hl 0 rfl) ?_
          obtain ⟨g39, hv⟩ := y_gd_e hv
          refine z_getI hc hB 2 1 g39 (by decide) (by decide) rfl (z_l2 hc qfX11_162) dX11_ask_59 ?_
          replace hv := Option.some.inj hv
          subst hv
          obtain ⟨e1, e2⟩ := y_pr kt
          rw [← e1, ← e2]
          exact z_iret hc hB hr dX11_ask_62
        · replace hv := y_br_t hv c31
          refine lv_iconst (v := (-1 : Int32)) hx hb dX11_ask_42 (by decide) ?_
          replace hv := Option.some.inj hv
          subst hv
          obtain ⟨e1, e2⟩ := y_pr kt
          rw [← e1, ← e2]
          exact z_iret hc hB hr dX11_ask_43
theorem qmX11_165 : Cond.methodLink RX11 165 yX2_begin ∈ z_ws := List.mem_filter.mpr ⟨List.mem_append_right _ (List.mem_of_getElem? (i := 561) (by decide +kernel)), rfl⟩
theorem dX11_sleep_0 : decode cX11_sleep 0 = .ok (.aload_n 0, 1) := by decide +kernel
theorem dX11_sleep_1 : decode cX11_sleep 1 = .ok (.getfield 36, 3) := by decide +kernel
theorem dX11_sleep_4 : decode cX11_sleep 4 = .ok (.getfield 106, 3) := by decide +kernel
theorem dX11_sleep_7 : decode cX11_sleep 7 = .ok (.getfield 162, 3) := by decide +kernel
theorem dX11_sleep_10 : decode cX11_sleep 10 = .ok (.istore_n 1, 1) := by decide +kernel
theorem dX11_sleep_11 : decode cX11_sleep 11 = .ok (.aload_n 0, 1) := by decide +kernel
theorem dX11_sleep_12 : decode cX11_sleep 12 = .ok (.getfield 47, 3) := by decide +kernel
theorem dX11_sleep_15 : decode cX11_sleep 15 = .ok (.aload_n 0, 1) := by decide +kernel
theorem dX11_sleep_16 : decode cX11_sleep 16 = .ok (.getfield 36, 3) := by decide +kernel
theorem dX11_sleep_19 : decode cX11_sleep 19 = .ok (.getfield 106, 3) := by decide +kernel
theorem dX11_sleep_22 : decode cX11_sleep 22 = .ok (.invokevirtual 154, 3) := by decide +kernel
theorem dX11_sleep_25 : decode cX11_sleep 25 = .ok (.aload_n 0, 1) := by decide +kernel
theorem dX11_sleep_26 : decode cX11_sleep 26 = .ok (.getfield 36, 3) := by decide +kernel
theorem dX11_sleep_29 : decode cX11_sleep 29 = .ok (.getfield 106, 3) := by decide +kernel
theorem dX11_sleep_32 : decode cX11_sleep 32 = .ok (.aload_n 0, 1) := by decide +kernel
theorem dX11_sleep_33 : decode cX11_sleep 33 = .ok (.getfield 36, 3) := by decide +kernel
theorem dX11_sleep_36 : decode cX11_sleep 36 = .ok (.getfield 106, 3) := by decide +kernel
theorem dX11_sleep_39 : decode cX11_sleep 39 = .ok (.getfield 109, 3) := by decide +kernel
theorem dX11_sleep_42 : decode cX11_sleep 42 = .ok (.invokevirtual 165, 3) := by decide +kernel
theorem dX11_sleep_45 : decode cX11_sleep 45 = .ok (.iload_n 1, 1) := by decide +kernel
theorem dX11_sleep_46 : decode cX11_sleep 46 = .ok (.ireturn, 1) := by decide +kernel
abbrev rm_X11_sleep : Room := { frames := 3, cells := 0, slots := 0, locals := 102 }
noncomputable def fX11_sleep (o0 : Nat) (h : z_T) : Option (Int32 × z_T) :=
  y_gd (z_ok h o0 10) <|
  y_bi (z_R h o0 3) fun o2 =>
  y_gd (z_ok h o2 8) <|
  y_bi (z_R h o2 0) fun o4 =>
  y_gd (z_ok h o4 2) <|
  y_nm ((z_I h o4 1)) fun v6 =>
  y_bi (z_R h o0 5) fun o7 =>
  y_gd (z_ok h o7 4) <|
  y_bi (fX4_keep o7 o4 h) fun h9 =>
  y_gd (z_ok h9 o0 10) <|
  y_bi (z_R h9 o0 3) fun o12 =>
  y_gd (z_ok h9 o12 8) <|
  y_bi (z_R h9 o12 0) fun o14 =>
  y_gd (z_ok h9 o14 2) <|
  y_bi (z_R h9 o14 0) fun o16 =>
  y_bi (fX2_begin o14 o16 h9) fun h18 =>
  some (v6, h18)
set_option maxHeartbeats 4000000 in
set_option maxRecDepth 100000 in
theorem mm_X11_sleep {G : z_Gt} (hSK : z_SK (z_S G)) (l : Launch) (ad : Nat → Nat) (o0 : Nat) (h : z_T) {r0 : Int32} {h9 : z_T} (hv : fX11_sleep o0 h = some (r0, h9)) : z_Mi G (z_S G) l yX11_sleep cX11_sleep 2 (.int) rm_X11_sleep 0 0 [.ref (ad o0)] ad h h9 r0 := by
  refine z_ofW hSK (by decide) (Nat.le_of_ble_eq_true rfl) ?_
  intro p e s m args below meth c ls hc hr hnm hB hl
  have hx := hc.1.1
  have hb := hc.1.2.1
  have hown := hc.1.2.2.2.1
  have hts := hc.1.2.2.2.2
  replace hc : z_C G (z_S G) ad (z_n h) p m c cX11_sleep 2 s args RX11 meth := hc
  replace hown : s.vm.findClass RX11 = some m.cls := hown
  replace hl : lv_has ls 2 [(0, .ref (ad o0))] := hl
  show W p l e rm_X11_sleep s m args below meth c s.heap [] 0 0 (MQ below (z_Qi G ad h9 (z_n h) s.heap.size r0) args s 0 0 (z_A ad (z_n h) s.heap.size)) (F0 m 0 ls [])
  obtain ⟨rs, kt⟩ : ∃ rs : Int32 × z_T, rs = (r0, h9) := ⟨_, rfl⟩
  generalize hn0 : z_n h = n0 at hc hB ⊢
  rw [← kt] at hv
  refine lv_aload_n hx hb dX11_sleep_0 rfl (lv_at hl 0 rfl) ?_
  obtain ⟨g1, hv⟩ := y_gd_e hv
  obtain ⟨o2, eo2, hv⟩ := y_bi_e hv
  refine z_getR hc hB 10 3 g1 eo2 (by decide) (by decide) rfl (z_l1 hc qfX11_36) dX11_sleep_1 ?_
  obtain ⟨g3, hv⟩ := y_gd_e hv
  obtain ⟨o4, eo4, hv⟩ := y_bi_e hv
  refine z_getR hc hB 8 0 g3 eo4 (by decide) (by decide) rfl (z_l2 hc qfX11_106) dX11_sleep_4 ?_
  obtain ⟨g5, hv⟩ := y_gd_e hv
  refine z_getI hc hB 2 1 g5 (by decide) (by decide) rfl (z_l2 hc qfX11_162) dX11_sleep_7 ?_
  obtain ⟨v6, ev6, hv⟩ := y_nm_e hv
  rw [← ev6]
  refine lv_istore_n (lv' := [(1, .int v6), (0, .ref (ad o0))]) hx hb dX11_sleep_10 rfl hl (by decide) rfl (fun ls hl => ?_)
  refine lv_aload_n hx hb dX11_sleep_11 rfl (lv_at hl 1 rfl) ?_
  obtain ⟨o7, eo7, hv⟩ := y_bi_e hv
  refine z_getR hc hB 10 5 g1 eo7 (by decide) (by decide) rfl (z_l1 hc qfX11_47) dX11_sleep_12 ?_
  refine lv_aload_n hx hb dX11_sleep_15 rfl (lv_at hl 1 rfl) ?_
  refine z_getR hc hB 10 3 g1 eo2 (by decide) (by decide) rfl (z_l1 hc qfX11_36) dX11_sleep_16 ?_
  refine z_getR hc hB 8 0 g3 eo4 (by decide) (by decide) rfl (z_l2 hc qfX11_106) dX11_sleep_19 ?_
  obtain ⟨g10, hv⟩ := y_gd_e hv
  obtain ⟨h9, c8, hv⟩ := y_bi_e hv
  refine z_thV hc hB (z_runV hc hB 4 (mm_X4_keep hSK l ad o7 o4 h c8) md_X4_keep qmX11_154 g10 (by decide) rfl rfl rfl ⟨Nat.le_of_ble_eq_true rfl, Nat.le_of_ble_eq_true rfl⟩ rfl hl.1 rfl (Nat.le_of_ble_eq_true rfl) dX11_sleep_22 ⟨Nat.le_of_ble_eq_true rfl, Nat.le_of_ble_eq_true rfl⟩) (fun H locs hB => ?_)
  refine lv_aload_n hx hb dX11_sleep_25 rfl (lv_at hl 1 rfl) ?_
  obtain ⟨g11, hv⟩ := y_gd_e hv
  obtain ⟨o12, eo12, hv⟩ := y_bi_e hv
  refine z_getR hc hB 10 3 g11 eo12 (by decide) (by decide) rfl (z_l1 hc qfX11_36) dX11_sleep_26 ?_
  obtain ⟨g13, hv⟩ := y_gd_e hv
  obtain ⟨o14, eo14, hv⟩ := y_bi_e hv
  refine z_getR hc hB 8 0 g13 eo14 (by decide) (by decide) rfl (z_l2 hc qfX11_106) dX11_sleep_29 ?_
  refine lv_aload_n hx hb dX11_sleep_32 rfl (lv_at hl 1 rfl) ?_
  refine z_getR hc hB 10 3 g11 eo12 (by decide) (by decide) rfl (z_l1 hc qfX11_36) dX11_sleep_33 ?_
  refine z_getR hc hB 8 0 g13 eo14 (by decide) (by decide) rfl (z_l2 hc qfX11_106) dX11_sleep_36 ?_
  obtain ⟨g15, hv⟩ := y_gd_e hv
  obtain ⟨o16, eo16, hv⟩ := y_bi_e hv
  refine z_getR hc hB 2 0 g15 eo16 (by decide) (by decide) rfl (z_l2 hc qfX11_109) dX11_sleep_39 ?_
  obtain ⟨h18, c17, hv⟩ := y_bi_e hv
  refine z_thV hc hB (z_runV hc hB 2 (mm_X2_begin hSK l ad o14 o16 h9 c17) md_X2_begin qmX11_165 g15 (by decide) rfl rfl rfl ⟨Nat.le_of_ble_eq_true rfl, Nat.le_of_ble_eq_true rfl⟩ rfl hl.1 rfl (Nat.le_of_ble_eq_true rfl) dX11_sleep_42 ⟨Nat.le_of_ble_eq_true rfl, Nat.le_of_ble_eq_true rfl⟩) (fun H locs hB => ?_)
  refine lv_iload_n hx hb dX11_sleep_45 rfl (lv_at hl 0 rfl) ?_
  replace hv := Option.some.inj hv
  subst hv
  obtain ⟨e1, e2⟩ := y_pr kt
  rw [← e1, ← e2]
  exact z_iret hc hB hr dX11_sleep_46
theorem qmX11_166 : Cond.methodLink RX11 166 yX2_answerAt ∈ z_ws := List.mem_filter.mpr ⟨List.mem_append_right _ (List.mem_of_getElem? (i := 566) (by decide +kernel)), rfl⟩
theorem dX11_answer_0 : decode cX11_answer 0 = .ok (.aload_n 0, 1) := by decide +kernel
theorem dX11_answer_1 : decode cX11_answer 1 = .ok (.getfield 36, 3) := by decide +kernel
theorem dX11_answer_4 : decode cX11_answer 4 = .ok (.getfield 106, 3) := by decide +kernel
theorem dX11_answer_7 : decode cX11_answer 7 = .ok (.iload_n 1, 1) := by decide +kernel
theorem dX11_answer_8 : decode cX11_answer 8 = .ok (.invokevirtual 166, 3) := by decide +kernel
theorem dX11_answer_11 : decode cX11_answer 11 = .ok (.ireturn, 1) := by decide +kernel
abbrev rm_X11_answer : Room := { frames := 1, cells := 0, slots := 0, locals := 21 }
noncomputable def fX11_answer (o0 : Nat) (x1 : Int32) (h : z_T) : Option (Int32) :=
  y_gd (z_ok h o0 10) <|
  y_bi (z_R h o0 3) fun o2 =>
  y_gd (z_ok h o2 8) <|
  y_bi (z_R h o2 0) fun o4 =>
  y_gd (z_ok h o4 2) <|
  y_bi (fX2_answerAt o4 x1 h) fun r6 =>
  some r6
set_option maxHeartbeats 4000000 in
set_option maxRecDepth 100000 in
theorem mm_X11_answer {G : z_Gt} (hSK : z_SK (z_S G)) (l : Launch) (ad : Nat → Nat) (o0 : Nat) (x1 : Int32) (h : z_T) {r0 : Int32} (hv : fX11_answer o0 x1 h = some r0) : z_Mi G (z_S G) l yX11_answer cX11_answer 2 (.int) rm_X11_answer 0 0 [.ref (ad o0), .int x1] ad h h r0 := by
  refine z_ofW hSK (by decide) (Nat.le_of_ble_eq_true rfl) ?_
  intro p e s m args below meth c ls hc hr hnm hB hl
  have hx := hc.1.1
  have hb := hc.1.2.1
  have hown := hc.1.2.2.2.1
  have hts := hc.1.2.2.2.2
  replace hc : z_C G (z_S G) ad (z_n h) p m c cX11_answer 2 s args RX11 meth := hc
  replace hown : s.vm.findClass RX11 = some m.cls := hown
  replace hl : lv_has ls 2 [(0, .ref (ad o0)), (1, .int x1)] := hl
  show W p l e rm_X11_answer s m args below meth c s.heap [] 0 0 (MQ below (z_Qi G ad h (z_n h) s.heap.size r0) args s 0 0 (z_A ad (z_n h) s.heap.size)) (F0 m 0 ls [])
  obtain ⟨rs, kt⟩ : ∃ rs : Int32, rs = r0 := ⟨_, rfl⟩
  generalize hn0 : z_n h = n0 at hc hB ⊢
  rw [← kt] at hv
  refine lv_aload_n hx hb dX11_answer_0 rfl (lv_at hl 0 rfl) ?_
  obtain ⟨g1, hv⟩ := y_gd_e hv
  obtain ⟨o2, eo2, hv⟩ := y_bi_e hv
  refine z_getR hc hB 10 3 g1 eo2 (by decide) (by decide) rfl (z_l1 hc qfX11_36) dX11_answer_1 ?_
  obtain ⟨g3, hv⟩ := y_gd_e hv
  obtain ⟨o4, eo4, hv⟩ := y_bi_e hv
  refine z_getR hc hB 8 0 g3 eo4 (by decide) (by decide) rfl (z_l2 hc qfX11_106) dX11_answer_4 ?_
  refine lv_iload_n hx hb dX11_answer_7 rfl (lv_at hl 1 rfl) ?_
  obtain ⟨g10, hv⟩ := y_gd_e hv
  obtain ⟨r6, c5, hv⟩ := y_bi_e hv
  refine z_thI hc hB (z_runV hc hB 2 (mm_X2_answerAt hSK l ad o4 x1 h c5) md_X2_answerAt qmX11_166 g10 (by decide) rfl rfl rfl ⟨Nat.le_of_ble_eq_true rfl, Nat.le_of_ble_eq_true rfl⟩ rfl hl.1 rfl (Nat.le_of_ble_eq_true rfl) dX11_answer_8 ⟨Nat.le_of_ble_eq_true rfl, Nat.le_of_ble_eq_true rfl⟩) (fun H locs hB => ?_)
  replace hv := Option.some.inj hv
  subst hv
  rw [← kt]
  exact z_iret hc hB hr dX11_answer_11
theorem qmX11_169 : Cond.methodLink RX11 169 yX4_giveBack ∈ z_ws := List.mem_filter.mpr ⟨List.mem_append_right _ (List.mem_of_getElem? (i := 574) (by decide +kernel)), rfl⟩
theorem qc_X4_giveBack : Cond.code yX4_giveBack cX4_giveBack 2 (some .boolean) ∈ z_ws := List.mem_filter.mpr ⟨List.mem_append_right _ (List.mem_of_getElem? (i := 577) (by decide +kernel)), rfl⟩
theorem qi_X4_giveBack : Cond.instanceMethod yX4_giveBack ∈ z_ws := List.mem_filter.mpr ⟨List.mem_append_right _ (List.mem_of_getElem? (i := 575) (by decide +kernel)), rfl⟩
theorem qs_X4_giveBack : Cond.selects RX4 yX4_giveBack yX4_giveBack ∈ z_ws := List.mem_filter.mpr ⟨List.mem_append_right _ (List.mem_of_getElem? (i := 576) (by decide +kernel)), rfl⟩
theorem md_X4_giveBack : z_mdV yX4_giveBack cX4_giveBack 2 (some .boolean) 1 := ⟨⟨qn_RX4, qc_X4_giveBack, ⟨by decide +kernel, by decide +kernel, by decide +kernel⟩⟩, qi_X4_giveBack, qs_X4_giveBack⟩
theorem dX11_undo_0 : decode cX11_undo 0 = .ok (.aload_n 0, 1) := by decide +kernel
theorem dX11_undo_1 : decode cX11_undo 1 = .ok (.getfield 47, 3) := by decide +kernel
theorem dX11_undo_4 : decode cX11_undo 4 = .ok (.aload_n 0, 1) := by decide +kernel
theorem dX11_undo_5 : decode cX11_undo 5 = .ok (.getfield 36, 3) := by decide +kernel
theorem dX11_undo_8 : decode cX11_undo 8 = .ok (.getfield 106, 3) := by decide +kernel
theorem dX11_undo_11 : decode cX11_undo 11 = .ok (.invokevirtual 169, 3) := by decide +kernel
theorem dX11_undo_14 : decode cX11_undo 14 = .ok (.ifCond .eq 13, 3) := by decide +kernel
theorem dX11_undo_17 : decode cX11_undo 17 = .ok (.aload_n 0, 1) := by decide +kernel
theorem dX11_undo_18 : decode cX11_undo 18 = .ok (.getfield 47, 3) := by decide +kernel
theorem dX11_undo_21 : decode cX11_undo 21 = .ok (.getfield 97, 3) := by decide +kernel
theorem dX11_undo_24 : decode cX11_undo 24 = .ok (.goto 4, 3) := by decide +kernel
theorem dX11_undo_27 : decode cX11_undo 27 = .ok (.iconst (-1), 1) := by decide +kernel
theorem dX11_undo_28 : decode cX11_undo 28 = .ok (.ireturn, 1) := by decide +kernel
abbrev rm_X11_undo : Room := { frames := 3, cells := 0, slots := 0, locals := 102 }
noncomputable def fX11_undo (o0 : Nat) (h : z_T) : Option (Int32 × z_T) :=
  y_gd (z_ok h o0 10) <|
  y_bi (z_R h o0 5) fun o2 =>
  y_bi (z_R h o0 3) fun o3 =>
  y_gd (z_ok h o3 8) <|
  y_bi (z_R h o3 0) fun o5 =>
  y_gd (z_ok h o2 4) <|
  y_bi (fX4_giveBack o2 o5 h) fun ⟨r7, h11⟩ =>
  y_br (r7 = 0)
    (some ((-1 : Int32), h11))
    (y_gd (z_ok h11 o0 10) <|
    y_bi (z_R h11 o0 5) fun o15 =>
    y_gd (z_ok h11 o15 4) <|
    some ((z_I h11 o15 2), h11))
set_option maxHeartbeats 4000000 in
set_option maxRecDepth 100000 in
theorem mm_X11_undo {G : z_Gt} (hSK : z_SK (z_S G)) (l : Launch) (ad : Nat → Nat) (o0 : Nat) (h : z_T) {r0 : Int32} {h9 : z_T} (hv : fX11_undo o0 h = some (r0, h9)) : z_Mi G (z_S G) l yX11_undo cX11_undo 1 (.int) rm_X11_undo 0 0 [.ref (ad o0)] ad h h9 r0 := by
  refine z_ofW hSK (by decide) (Nat.le_of_ble_eq_true rfl) ?_
  intro p e s m args below meth c ls hc hr hnm hB hl
  have hx := hc.1.1
  have hb := hc.1.2.1
  have hown := hc.1.2.2.2.1
  have hts := hc.1.2.2.2.2
  replace hc : z_C G (z_S G) ad (z_n h) p m c cX11_undo 1 s args RX11 meth := hc
  replace hown : s.vm.findClass RX11 = some m.cls := hown
  replace hl : lv_has ls 1 [(0, .ref (ad o0))] := hl
  show W p l e rm_X11_undo s m args below meth c s.heap [] 0 0 (MQ below (z_Qi G ad h9 (z_n h) s.heap.size r0) args s 0 0 (z_A ad (z_n h) s.heap.size)) (F0 m 0 ls [])
  obtain ⟨rs, kt⟩ : ∃ rs : Int32 × z_T, rs = (r0, h9) := ⟨_, rfl⟩
  generalize hn0 : z_n h = n0 at hc hB ⊢
  rw [← kt] at hv
  refine lv_aload_n hx hb dX11_undo_0 rfl (lv_at hl 0 rfl) ?_
  obtain ⟨g1, hv⟩ := y_gd_e hv
  obtain ⟨o2, eo2, hv⟩ := y_bi_e hv
  refine z_getR hc hB 10 5 g1 eo2 (by decide) (by decide) rfl (z_l1 hc qfX11_47) dX11_undo_1 ?_
  refine lv_aload_n hx hb dX11_undo_4 rfl (lv_at hl 0 rfl) ?_
  obtain ⟨o3, eo3, hv⟩ := y_bi_e hv
  refine z_getR hc hB 10 3 g1 eo3 (by decide) (by decide) rfl (z_l1 hc qfX11_36) dX11_undo_5 ?_
  obtain ⟨g4, hv⟩ := y_gd_e hv
  obtain ⟨o5, eo5, hv⟩ := y_bi_e hv
  refine z_getR hc hB 8 0 g4 eo5 (by decide) (by decide) rfl (z_l2 hc qfX11_106) dX11_undo_8 ?_
  obtain ⟨g12, hv⟩ := y_gd_e hv
  obtain ⟨⟨r7, h11⟩, c6, hv⟩ := y_bi_e hv
  refine z_thI hc hB (z_runV hc hB 4 (mm_X4_giveBack hSK l ad o2 o5 h c6) md_X4_giveBack qmX11_169 g12 (by decide) rfl rfl rfl ⟨Nat.le_of_ble_eq_true rfl, Nat.le_of_ble_eq_true rfl⟩ rfl hl.1 rfl (Nat.le_of_ble_eq_true rfl) dX11_undo_11 ⟨Nat.le_of_ble_eq_true rfl, Nat.le_of_ble_eq_true rfl⟩) (fun H locs hB => ?_)
  refine lv_if_eq (tgt := 27) hx hb dX11_undo_14 (by decide) (fun c13 => ?_) (fun c13 => ?_)
  · replace hv := y_br_t hv c13
    refine lv_iconst (v := (-1 : Int32)) hx hb dX11_undo_27 (by decide) ?_
    replace hv := Option.some.inj hv
    subst hv
    obtain ⟨e1, e2⟩ := y_pr kt
    rw [← e1, ← e2]
    exact z_iret hc hB hr dX11_undo_28
  · replace hv := y_br_f hv c13
    refine lv_aload_n hx hb dX11_undo_17 rfl (lv_at hl 0 rfl) ?_
    obtain ⟨g14, hv⟩ := y_gd_e hv
    obtain ⟨o15, eo15, hv⟩ := y_bi_e hv
    refine z_getR hc hB 10 5 g14 eo15 (by decide) (by decide) rfl (z_l1 hc qfX11_47) dX11_undo_18 ?_
    obtain ⟨g16, hv⟩ := y_gd_e hv
    refine z_getI hc hB 4 2 g16 (by decide) (by decide) rfl (z_l2 hc qfX11_97) dX11_undo_21 ?_
    refine lv_goto (tgt := 28) hx hb dX11_undo_24 (by decide) ?_
    replace hv := Option.some.inj hv
    subst hv
    obtain ⟨e1, e2⟩ := y_pr kt
    rw [← e1, ← e2]
    exact z_iret hc hB hr dX11_undo_28
theorem dX11_fraction_0 : decode cX11_fraction 0 = .ok (.lload_n 2, 1) := by decide +kernel
theorem dX11_fraction_1 : decode cX11_fraction 1 = .ok (.lstore 5, 2) := by decide +kernel
theorem dX11_fraction_3 : decode cX11_fraction 3 = .ok (.lload_n 0, 1) := by decide +kernel
theorem dX11_fraction_4 : decode cX11_fraction 4 = .ok (.lstore 7, 2) := by decide +kernel
theorem dX11_fraction_6 : decode cX11_fraction 6 = .ok (.iconst 0, 1) := by decide +kernel
theorem dX11_fraction_7 : decode cX11_fraction 7 = .ok (.istore 9, 2) := by decide +kernel
theorem dX11_fraction_9 : decode cX11_fraction 9 = .ok (.iload 9, 2) := by decide +kernel
theorem dX11_fraction_11 : decode cX11_fraction 11 = .ok (.sipush 200, 3) := by decide +kernel
theorem dX11_fraction_14 : decode cX11_fraction 14 = .ok (.if_icmp .ge 31, 3) := by decide +kernel
theorem dX11_fraction_17 : decode cX11_fraction 17 = .ok (.lload 7, 2) := by decide +kernel
theorem dX11_fraction_19 : decode cX11_fraction 19 = .ok (.lconst 0, 1) := by decide +kernel
theorem dX11_fraction_20 : decode cX11_fraction 20 = .ok (.lcmp, 1) := by decide +kernel
theorem dX11_fraction_21 : decode cX11_fraction 21 = .ok (.ifCond .eq 24, 3) := by decide +kernel
theorem dX11_fraction_24 : decode cX11_fraction 24 = .ok (.lload 5, 2) := by decide +kernel
theorem dX11_fraction_26 : decode cX11_fraction 26 = .ok (.lload 7, 2) := by decide +kernel
theorem dX11_fraction_28 : decode cX11_fraction 28 = .ok (.lrem, 1) := by decide +kernel
theorem dX11_fraction_29 : decode cX11_fraction 29 = .ok (.lstore 10, 2) := by decide +kernel
theorem dX11_fraction_31 : decode cX11_fraction 31 = .ok (.lload 7, 2) := by decide +kernel
theorem dX11_fraction_33 : decode cX11_fraction 33 = .ok (.lstore 5, 2) := by decide +kernel
theorem dX11_fraction_35 : decode cX11_fraction 35 = .ok (.lload 10, 2) := by decide +kernel
theorem dX11_fraction_37 : decode cX11_fraction 37 = .ok (.lstore 7, 2) := by decide +kernel
theorem dX11_fraction_39 : decode cX11_fraction 39 = .ok (.iinc 9 1, 3) := by decide +kernel
theorem dX11_fraction_42 : decode cX11_fraction 42 = .ok (.goto (-33), 3) := by decide +kernel
theorem dX11_fraction_45 : decode cX11_fraction 45 = .ok (.iload 4, 2) := by decide +kernel
theorem dX11_fraction_47 : decode cX11_fraction 47 = .ok (.ifCond .ne 7, 3) := by decide +kernel
theorem dX11_fraction_50 : decode cX11_fraction 50 = .ok (.lload_n 0, 1) := by decide +kernel
theorem dX11_fraction_51 : decode cX11_fraction 51 = .ok (.goto 4, 3) := by decide +kernel
theorem dX11_fraction_54 : decode cX11_fraction 54 = .ok (.lload_n 2, 1) := by decide +kernel
theorem dX11_fraction_55 : decode cX11_fraction 55 = .ok (.lstore 9, 2) := by decide +kernel
theorem dX11_fraction_57 : decode cX11_fraction 57 = .ok (.lload 5, 2) := by decide +kernel
theorem dX11_fraction_59 : decode cX11_fraction 59 = .ok (.lconst 0, 1) := by decide +kernel
theorem dX11_fraction_60 : decode cX11_fraction 60 = .ok (.lcmp, 1) := by decide +kernel
theorem dX11_fraction_61 : decode cX11_fraction 61 = .ok (.ifCond .ne 8, 3) := by decide +kernel
theorem dX11_fraction_64 : decode cX11_fraction 64 = .ok (.lload 9, 2) := by decide +kernel
theorem dX11_fraction_66 : decode cX11_fraction 66 = .ok (.goto 8, 3) := by decide +kernel
theorem dX11_fraction_69 : decode cX11_fraction 69 = .ok (.lload 9, 2) := by decide +kernel
theorem dX11_fraction_71 : decode cX11_fraction 71 = .ok (.lload 5, 2) := by decide +kernel
theorem dX11_fraction_73 : decode cX11_fraction 73 = .ok (.ldiv, 1) := by decide +kernel
theorem dX11_fraction_74 : decode cX11_fraction 74 = .ok (.lreturn, 1) := by decide +kernel
abbrev rm_X11_fraction : Room := { frames := 0, cells := 0, slots := 0, locals := 0 }
noncomputable def fX11_fraction_b55 (l5 : Int64) (s0 : Int64) : Option (Int64) :=
  y_br ((lg_cmp l5 (0 : Int64)) = 0)
    (some s0)
    (y_gd (!decide (l5 = 0)) <|
    some (s0 / l5))
noncomputable def fX11_fraction_b45 (l0 : Int64) (l2 : Int64) (x4 : Int32) (l5 : Int64) : Option (Int64) :=
  y_br (x4 = 0)
    (fX11_fraction_b55 l5 l0)
    (fX11_fraction_b55 l5 l2)
noncomputable def fX11_fraction_b9_i (l0 : Int64) (l2 : Int64) (x4 : Int32) (l5 : Int64) (l7 : Int64) (x9 : Int32) : Option ((Int64 × Int64 × Int32) ⊕ (Int64)) :=
  y_br ((200 : Int32) ≤ x9)
    (y_mp <|
    fX11_fraction_b45 l0 l2 x4 l5)
    (y_br ((lg_cmp l7 (0 : Int64)) = 0)
      (y_mp <|
      fX11_fraction_b45 l0 l2 x4 l5)
      (y_gd (!decide (l7 = 0)) <|
      y_nm ((l5 - l5 / l7 * l7)) fun v9 =>
      y_nm (x9 + 1) fun v10 =>
      some (.inl (l7, v9, v10))))
noncomputable def fX11_fraction_b9 (l0 : Int64) (l2 : Int64) (x4 : Int32) (l5 : Int64) (l7 : Int64) (x9 : Int32) : Option (Int64) := y_lp (fun q : Int64 × Int64 × Int32 => fX11_fraction_b9_i l0 l2 x4 q.1 q.2.1 q.2.2) (l5, l7, x9)
noncomputable def fX11_fraction (l0 : Int64) (l2 : Int64) (x4 : Int32) : Option (Int64) :=
  fX11_fraction_b9 l0 l2 x4 l2 l0 (0 : Int32)
set_option maxHeartbeats 4000000 in
set_option maxRecDepth 100000 in
theorem mm_X11_fraction {G : z_Gt} (hSK : z_SK (z_S G)) (l : Launch) (ad : Nat → Nat) (l0 : Int64) (l2 : Int64) (x4 : Int32) (h : z_T) {r0 : Int64} (hv : fX11_fraction l0 l2 x4 = some r0) : z_Ml G (z_S G) l yX11_fraction cX11_fraction 12 (.long) rm_X11_fraction 0 0 [.long l0, .long l2, .int x4] ad h h r0 := by
  refine z_ofW hSK (by decide) (Nat.le_of_ble_eq_true rfl) ?_
  intro p e s m args below meth c ls hc hr hnm hB hl
  have hx := hc.1.1
  have hb := hc.1.2.1
  have hown := hc.1.2.2.2.1
  have hts := hc.1.2.2.2.2
  replace hc : z_C G (z_S G) ad (z_n h) p m c cX11_fraction 12 s args RX11 meth := hc
  replace hown : s.vm.findClass RX11 = some m.cls := hown
  replace hl : lv_has ls 12 [(0, .long l0), (2, .long l2), (4, .int x4)] := hl
  show W p l e rm_X11_fraction s m args below meth c s.heap [] 0 0 (MQ below (z_Ql G ad h (z_n h) s.heap.size r0) args s 0 0 (z_A ad (z_n h) s.heap.size)) (F0 m 0 ls [])
  obtain ⟨rs, kt⟩ : ∃ rs : Int64, rs = r0 := ⟨_, rfl⟩
  generalize hn0 : z_n h = n0 at hc hB ⊢
  have b55 : ∀ (l5 : Int64) (s0 : Int64) (H : Heap) (locs : List Loc) (ls : Array Slot), z_B G ad n0 s h H locs → lv_has ls 12 [(5, .long l5)] → ∀ w, fX11_fraction_b55 l5 s0 = some w → w = r0 → W p l e rm_X11_fraction s m args below meth c H locs 0 0 (MQ below (z_Ql G ad h n0 s.heap.size r0) args s 0 0 (z_A ad n0 s.heap.size)) (F0 m 55 ls [.long s0]) := by
    intro l5 s0 H locs ls hB hl w hv kb
    refine lv_lstore (lv' := [(9, .long s0), (5, .long l5)]) hx hb dX11_fraction_55 hl (by decide) rfl (fun ls hl => ?_)
    refine lv_lload hx hb dX11_fraction_57 (lv_at hl 1 rfl) ?_
    refine lv_lconst (v := (0 : Int64)) hx hb dX11_fraction_59 (by decide) ?_
    refine W.lcmp hx hb dX11_fraction_60 ?_
    refine lv_if_ne (tgt := 69) hx hb dX11_fraction_61 (by decide) (fun c1 => ?_) (fun c1 => ?_)
    · replace hv := y_br_f hv c1
      refine lv_lload hx hb dX11_fraction_69 (lv_at hl 0 rfl) ?_
      refine lv_lload hx hb dX11_fraction_71 (lv_at hl 1 rfl) ?_
      obtain ⟨z2, hv⟩ := y_gd_e hv
      refine lv_ldiv hx hb dX11_fraction_73 (y_neL z2) ?_
      replace hv := Option.some.inj hv
      subst hv
      rw [← kb]
      exact z_lret hc hB hr dX11_fraction_74
    · replace hv := y_br_t hv c1
      refine lv_lload hx hb dX11_fraction_64 (lv_at hl 0 rfl) ?_
      refine lv_goto (tgt := 74) hx hb dX11_fraction_66 (by decide) ?_
      replace hv := Option.some.inj hv
      subst hv
      rw [← kb]
      exact z_lret hc hB hr dX11_fraction_74
  have b45 : ∀ (l5 : Int64) (H : Heap) (locs : List Loc) (ls : Array Slot), z_B G ad n0 s h H locs → lv_has ls 12 [(0, .long l0), (2, .long l2), (4, .int x4), (5, .long l5)] → ∀ w, fX11_fraction_b45 l0 l2 x4 l5 = some w → w = r0 → W p l e rm_X11_fraction s m args below meth c H locs 0 0 (MQ below (z_Ql G ad h n0 s.heap.size r0) args s 0 0 (z_A ad n0 s.heap.size)) (F0 m 45 ls []) := by
    intro l5 H locs ls hB hl w hv kb
    refine lv_iload hx hb dX11_fraction_45 (lv_at hl 2 rfl) ?_
    refine lv_if_ne (tgt := 54) hx hb dX11_fraction_47 (by decide) (fun c3 => ?_) (fun c3 => ?_)
    · replace hv := y_br_f hv c3
      refine lv_lload_n hx hb dX11_fraction_54 rfl (lv_at hl 1 rfl) ?_
      exact b55 l5 l2 _ _ _ hB (lv_sub hl [3] rfl) _ hv kb
    · replace hv := y_br_t hv c3
      refine lv_lload_n hx hb dX11_fraction_50 rfl (lv_at hl 0 rfl) ?_
      refine lv_goto (tgt := 55) hx hb dX11_fraction_51 (by decide) ?_
      exact b55 l5 l0 _ _ _ hB (lv_sub hl [3] rfl) _ hv kb
  have L9 : ∀ (nn9 : Nat) (l5 : Int64) (l7 : Int64) (x9 : Int32) (H : Heap) (locs : List Loc) (ls : Array Slot), z_B G ad n0 s h H locs → lv_has ls 12 [(0, .long l0), (2, .long l2), (4, .int x4), (5, .long l5), (7, .long l7), (9, .int x9)] → ∀ vv9, y_lpN (fun q : Int64 × Int64 × Int32 => fX11_fraction_b9_i l0 l2 x4 q.1 q.2.1 q.2.2) nn9 (l5, l7, x9) = some vv9 → vv9 = r0 → W p l e rm_X11_fraction s m args below meth c H locs 0 0 (MQ below (z_Ql G ad h n0 s.heap.size r0) args s 0 0 (z_A ad n0 s.heap.size)) (F0 m 9 ls []) := by
    intro nn9
    induction nn9 with
    | zero => intro l5 l7 x9 H locs ls hB hl vv9 hv kv9; exact absurd hv (fun q => y_lpN_0 q)
    | succ nn9 ih9 =>
      intro l5 l7 x9 H locs ls hB hl vv9 hv kv9
      obtain ⟨w, hq, kw9⟩ := y_lpN_e hv
      clear hv
      have hv : fX11_fraction_b9_i l0 l2 x4 l5 l7 x9 = some w := hq
      clear hq
      refine lv_iload hx hb dX11_fraction_9 (lv_at hl 5 rfl) ?_
      refine lv_sipush (v := (200 : Int32)) hx hb dX11_fraction_11 (by decide) ?_
      refine lv_icmp_ge (tgt := 45) hx hb dX11_fraction_14 (by decide) (fun c4 => ?_) (fun c4 => ?_)
      · replace hv := y_br_t hv c4
        obtain ⟨t5, hq, ew⟩ := y_mp_e hv
        clear hv; subst ew
        replace kw9 : t5 = _ := kw9
        subst kw9
        have hv := hq
        clear hq
        exact b45 l5 _ _ _ hB (lv_sub hl [0, 1, 2, 3] rfl) _ hv kv9
      · replace hv := y_br_f hv c4
        refine lv_lload hx hb dX11_fraction_17 (lv_at hl 4 rfl) ?_
        refine lv_lconst (v := (0 : Int64)) hx hb dX11_fraction_19 (by decide) ?_
        refine W.lcmp hx hb dX11_fraction_20 ?_
        refine lv_if_eq (tgt := 45) hx hb dX11_fraction_21 (by decide) (fun c6 => ?_) (fun c6 => ?_)
        · replace hv := y_br_t hv c6
          obtain ⟨t7, hq, ew⟩ := y_mp_e hv
          clear hv; subst ew
          replace kw9 : t7 = _ := kw9
          subst kw9
          have hv := hq
          clear hq
          exact b45 l5 _ _ _ hB (lv_sub hl [0, 1, 2, 3] rfl) _ hv kv9
        · replace hv := y_br_f hv c6
          refine lv_lload hx hb dX11_fraction_24 (lv_at hl 3 rfl) ?_
          refine lv_lload hx hb dX11_fraction_26 (lv_at hl 4 rfl) ?_
          obtain ⟨z8, hv⟩ := y_gd_e hv
          refine lv_lrem hx hb dX11_fraction_28 (y_neL z8) ?_
          obtain ⟨v9, ev9, hv⟩ := y_nm_e hv
          rw [← ev9]
          refine lv_lstore (lv' := [(10, .long v9), (0, .long l0), (2, .long l2), (4, .int x4), (5, .long l5), (7, .long l7), (9, .int x9)]) hx hb dX11_fraction_29 hl (by decide) rfl (fun ls hl => ?_)
          refine lv_lload hx hb dX11_fraction_31 (lv_at hl 5 rfl) ?_
          refine lv_lstore (lv' := [(5, .long l7), (10, .long v9), (0, .long l0), (2, .long l2), (4, .int x4), (7, .long l7), (9, .int x9)]) hx hb dX11_fraction_33 hl (by decide) rfl (fun ls hl => ?_)
          refine lv_lload hx hb dX11_fraction_35 (lv_at hl 1 rfl) ?_
          refine lv_lstore (lv' := [(7, .long v9), (5, .long l7), (10, .long v9), (0, .long l0), (2, .long l2), (4, .int x4), (9, .int x9)]) hx hb dX11_fraction_37 hl (by decide) rfl (fun ls hl => ?_)
          obtain ⟨v10, ev10, hv⟩ := y_nm_e hv
          refine lv_iinc (v := v10) (lv' := [(9, .int v10), (7, .long v9), (5, .long l7), (10, .long v9), (0, .long l0), (2, .long l2), (4, .int x4)]) hx hb dX11_fraction_39 hl (k := 6) rfl (by rw [ev10]; rfl) (by decide) rfl (fun ls hl => ?_)
          refine lv_goto (tgt := 9) hx hb dX11_fraction_42 (by decide) ?_
          replace hv := Option.some.inj hv
          subst hv
          exact ih9 l7 v9 v10 _ _ _ hB (lv_sub hl [4, 5, 6, 2, 1, 0] rfl) _ kw9 kv9
  rw [← kt] at hv
  refine lv_lload_n hx hb dX11_fraction_0 rfl (lv_at hl 1 rfl) ?_
  refine lv_lstore (lv' := [(5, .long l2), (0, .long l0), (2, .long l2), (4, .int x4)]) hx hb dX11_fraction_1 hl (by decide) rfl (fun ls hl => ?_)
  refine lv_lload_n hx hb dX11_fraction_3 rfl (lv_at hl 1 rfl) ?_
  refine lv_lstore (lv' := [(7, .long l0), (5, .long l2), (0, .long l0), (2, .long l2), (4, .int x4)]) hx hb dX11_fraction_4 hl (by decide) rfl (fun ls hl => ?_)
  refine lv_iconst (v := (0 : Int32)) hx hb dX11_fraction_6 (by decide) ?_
  refine lv_istore (lv' := [(9, .int (0 : Int32)), (7, .long l0), (5, .long l2), (0, .long l0), (2, .long l2), (4, .int x4)]) hx hb dX11_fraction_7 hl (by decide) rfl (fun ls hl => ?_)
  obtain ⟨n, hv⟩ := y_lp_e hv
  exact L9 n l2 l0 (0 : Int32) _ _ _ hB (lv_sub hl [3, 4, 5, 2, 1, 0] rfl) _ hv kt
theorem qmX11_191 : Cond.methodLink RX11 191 yX2_getsUp ∈ z_ws := List.mem_filter.mpr ⟨List.mem_append_right _ (List.mem_of_getElem? (i := 582) (by decide +kernel)), rfl⟩
theorem dX11_up_0 : decode cX11_up 0 = .ok (.aload_n 0, 1) := by decide +kernel
theorem dX11_up_1 : decode cX11_up 1 = .ok (.getfield 36, 3) := by decide +kernel
theorem dX11_up_4 : decode cX11_up 4 = .ok (.getfield 106, 3) := by decide +kernel
theorem dX11_up_7 : decode cX11_up 7 = .ok (.invokevirtual 191, 3) := by decide +kernel
theorem dX11_up_10 : decode cX11_up 10 = .ok (.ifCond .eq 7, 3) := by decide +kernel
theorem dX11_up_13 : decode cX11_up 13 = .ok (.iconst 1, 1) := by decide +kernel
theorem dX11_up_14 : decode cX11_up 14 = .ok (.goto 4, 3) := by decide +kernel
theorem dX11_up_17 : decode cX11_up 17 = .ok (.iconst 0, 1) := by decide +kernel
theorem dX11_up_18 : decode cX11_up 18 = .ok (.ireturn, 1) := by decide +kernel
abbrev rm_X11_up : Room := { frames := 3, cells := 0, slots := 0, locals := 64 }
noncomputable def fX11_up (o0 : Nat) (h : z_T) : Option (Int32) :=
  y_gd (z_ok h o0 10) <|
  y_bi (z_R h o0 3) fun o2 =>
  y_gd (z_ok h o2 8) <|
  y_bi (z_R h o2 0) fun o4 =>
  y_gd (z_ok h o4 2) <|
  y_bi (fX2_getsUp o4 h) fun r6 =>
  y_br (r6 = 0)
    (some (0 : Int32))
    (some (1 : Int32))
set_option maxHeartbeats 4000000 in
set_option maxRecDepth 100000 in
theorem mm_X11_up {G : z_Gt} (hSK : z_SK (z_S G)) (l : Launch) (ad : Nat → Nat) (o0 : Nat) (h : z_T) {r0 : Int32} (hv : fX11_up o0 h = some r0) : z_Mi G (z_S G) l yX11_up cX11_up 1 (.int) rm_X11_up 0 0 [.ref (ad o0)] ad h h r0 := by
  refine z_ofW hSK (by decide) (Nat.le_of_ble_eq_true rfl) ?_
  intro p e s m args below meth c ls hc hr hnm hB hl
  have hx := hc.1.1
  have hb := hc.1.2.1
  have hown := hc.1.2.2.2.1
  have hts := hc.1.2.2.2.2
  replace hc : z_C G (z_S G) ad (z_n h) p m c cX11_up 1 s args RX11 meth := hc
  replace hown : s.vm.findClass RX11 = some m.cls := hown
  replace hl : lv_has ls 1 [(0, .ref (ad o0))] := hl
  show W p l e rm_X11_up s m args below meth c s.heap [] 0 0 (MQ below (z_Qi G ad h (z_n h) s.heap.size r0) args s 0 0 (z_A ad (z_n h) s.heap.size)) (F0 m 0 ls [])
  obtain ⟨rs, kt⟩ : ∃ rs : Int32, rs = r0 := ⟨_, rfl⟩
  generalize hn0 : z_n h = n0 at hc hB ⊢
  rw [← kt] at hv
  refine lv_aload_n hx hb dX11_up_0 rfl (lv_at hl 0 rfl) ?_
  obtain ⟨g1, hv⟩ := y_gd_e hv
  obtain ⟨o2, eo2, hv⟩ := y_bi_e hv
  refine z_getR hc hB 10 3 g1 eo2 (by decide) (by decide) rfl (z_l1 hc qfX11_36) dX11_up_1 ?_
  obtain ⟨g3, hv⟩ := y_gd_e hv
  obtain ⟨o4, eo4, hv⟩ := y_bi_e hv
  refine z_getR hc hB 8 0 g3 eo4 (by decide) (by decide) rfl (z_l2 hc qfX11_106) dX11_up_4 ?_
  obtain ⟨g10, hv⟩ := y_gd_e hv
  obtain ⟨r6, c5, hv⟩ := y_bi_e hv
  refine z_thI hc hB (z_runV hc hB 2 (mm_X2_getsUp hSK l ad o4 h c5) md_X2_getsUp qmX11_191 g10 (by decide) rfl rfl rfl ⟨Nat.le_of_ble_eq_true rfl, Nat.le_of_ble_eq_true rfl⟩ rfl hl.1 rfl (Nat.le_of_ble_eq_true rfl) dX11_up_7 ⟨Nat.le_of_ble_eq_true rfl, Nat.le_of_ble_eq_true rfl⟩) (fun H locs hB => ?_)
  refine lv_if_eq (tgt := 17) hx hb dX11_up_10 (by decide) (fun c11 => ?_) (fun c11 => ?_)
  · replace hv := y_br_t hv c11
    refine lv_iconst (v := (0 : Int32)) hx hb dX11_up_17 (by decide) ?_
    replace hv := Option.some.inj hv
    subst hv
    rw [← kt]
    exact z_iret hc hB hr dX11_up_18
  · replace hv := y_br_f hv c11
    refine lv_iconst (v := (1 : Int32)) hx hb dX11_up_13 (by decide) ?_
    refine lv_goto (tgt := 18) hx hb dX11_up_14 (by decide) ?_
    replace hv := Option.some.inj hv
    subst hv
    rw [← kt]
    exact z_iret hc hB hr dX11_up_18
theorem qmX11_187 : Cond.methodLink RX11 187 yX2_ofPlace ∈ z_ws := List.mem_filter.mpr ⟨List.mem_append_right _ (List.mem_of_getElem? (i := 598) (by decide +kernel)), rfl⟩
theorem dX11_likely_0 : decode cX11_likely 0 = .ok (.aload_n 0, 1) := by decide +kernel
theorem dX11_likely_1 : decode cX11_likely 1 = .ok (.getfield 36, 3) := by decide +kernel
theorem dX11_likely_4 : decode cX11_likely 4 = .ok (.getfield 106, 3) := by decide +kernel
theorem dX11_likely_7 : decode cX11_likely 7 = .ok (.astore_n 1, 1) := by decide +kernel
theorem dX11_likely_8 : decode cX11_likely 8 = .ok (.iconst 0, 1) := by decide +kernel
theorem dX11_likely_9 : decode cX11_likely 9 = .ok (.istore_n 2, 1) := by decide +kernel
theorem dX11_likely_10 : decode cX11_likely 10 = .ok (.iconst 1, 1) := by decide +kernel
theorem dX11_likely_11 : decode cX11_likely 11 = .ok (.istore_n 3, 1) := by decide +kernel
theorem dX11_likely_12 : decode cX11_likely 12 = .ok (.iload_n 3, 1) := by decide +kernel
theorem dX11_likely_13 : decode cX11_likely 13 = .ok (.bipush 7, 2) := by decide +kernel
theorem dX11_likely_15 : decode cX11_likely 15 = .ok (.if_icmp .ge 25, 3) := by decide +kernel
theorem dX11_likely_18 : decode cX11_likely 18 = .ok (.aload_n 1, 1) := by decide +kernel
theorem dX11_likely_19 : decode cX11_likely 19 = .ok (.iload_n 3, 1) := by decide +kernel
theorem dX11_likely_20 : decode cX11_likely 20 = .ok (.invokevirtual 187, 3) := by decide +kernel
theorem dX11_likely_23 : decode cX11_likely 23 = .ok (.aload_n 1, 1) := by decide +kernel
theorem dX11_likely_24 : decode cX11_likely 24 = .ok (.iload_n 2, 1) := by decide +kernel
theorem dX11_likely_25 : decode cX11_likely 25 = .ok (.invokevirtual 187, 3) := by decide +kernel
theorem dX11_likely_28 : decode cX11_likely 28 = .ok (.lcmp, 1) := by decide +kernel
theorem dX11_likely_29 : decode cX11_likely 29 = .ok (.ifCond .le 5, 3) := by decide +kernel
theorem dX11_likely_32 : decode cX11_likely 32 = .ok (.iload_n 3, 1) := by decide +kernel
theorem dX11_likely_33 : decode cX11_likely 33 = .ok (.istore_n 2, 1) := by decide +kernel
theorem dX11_likely_34 : decode cX11_likely 34 = .ok (.iinc 3 1, 3) := by decide +kernel
theorem dX11_likely_37 : decode cX11_likely 37 = .ok (.goto (-25), 3) := by decide +kernel
theorem dX11_likely_40 : decode cX11_likely 40 = .ok (.iload_n 2, 1) := by decide +kernel
theorem dX11_likely_41 : decode cX11_likely 41 = .ok (.ifCond .ne 7, 3) := by decide +kernel
theorem dX11_likely_44 : decode cX11_likely 44 = .ok (.iconst (-1), 1) := by decide +kernel
theorem dX11_likely_45 : decode cX11_likely 45 = .ok (.goto 6, 3) := by decide +kernel
theorem dX11_likely_48 : decode cX11_likely 48 = .ok (.iload_n 2, 1) := by decide +kernel
theorem dX11_likely_49 : decode cX11_likely 49 = .ok (.iconst 1, 1) := by decide +kernel
theorem dX11_likely_50 : decode cX11_likely 50 = .ok (.isub, 1) := by decide +kernel
theorem dX11_likely_51 : decode cX11_likely 51 = .ok (.ireturn, 1) := by decide +kernel
abbrev rm_X11_likely : Room := { frames := 1, cells := 0, slots := 0, locals := 21 }
noncomputable def fX11_likely_b34 (o1 : Nat) (x2 : Int32) (x3 : Int32) (h : z_T) : Option ((Int32 × Int32) ⊕ (Int32)) :=
  y_nm (x3 + 1) fun v1 =>
  some (.inl (x2, v1))
noncomputable def fX11_likely_b12_i (o1 : Nat) (h : z_T) (x2 : Int32) (x3 : Int32) : Option ((Int32 × Int32) ⊕ (Int32)) :=
  y_br ((7 : Int32) ≤ x3)
    (y_mp <|
    y_br (x2 = 0)
      (some (-1 : Int32))
      (some (x2 - (1 : Int32))))
    (y_gd (z_ok h o1 2) <|
    y_bi (fX2_ofPlace o1 x3 h) fun r7 =>
    y_bi (fX2_ofPlace o1 x2 h) fun r13 =>
    y_br ((lg_cmp r7 r13) ≤ 0)
      (fX11_likely_b34 o1 x2 x3 h)
      (fX11_likely_b34 o1 x3 x3 h))
noncomputable def fX11_likely_b12 (o1 : Nat) (x2 : Int32) (x3 : Int32) (h : z_T) : Option (Int32) := y_lp (fun q : Int32 × Int32 => fX11_likely_b12_i o1 h q.1 q.2) (x2, x3)
noncomputable def fX11_likely (o0 : Nat) (h : z_T) : Option (Int32) :=
  y_gd (z_ok h o0 10) <|
  y_bi (z_R h o0 3) fun ob18 =>
  y_gd (z_ok h ob18 8) <|
  y_bi (z_R h ob18 0) fun ob20 =>
  fX11_likely_b12 ob20 (0 : Int32) (1 : Int32) h
set_option maxHeartbeats 4000000 in
set_option maxRecDepth 100000 in
theorem mm_X11_likely {G : z_Gt} (hSK : z_SK (z_S G)) (l : Launch) (ad : Nat → Nat) (o0 : Nat) (h : z_T) {r0 : Int32} (hv : fX11_likely o0 h = some r0) : z_Mi G (z_S G) l yX11_likely cX11_likely 4 (.int) rm_X11_likely 0 0 [.ref (ad o0)] ad h h r0 := by
  refine z_ofW hSK (by decide) (Nat.le_of_ble_eq_true rfl) ?_
  intro p e s m args below meth c ls hc hr hnm hB hl
  have hx := hc.1.1
  have hb := hc.1.2.1
  have hown := hc.1.2.2.2.1
  have hts := hc.1.2.2.2.2
  replace hc : z_C G (z_S G) ad (z_n h) p m c cX11_likely 4 s args RX11 meth := hc
  replace hown : s.vm.findClass RX11 = some m.cls := hown
  replace hl : lv_has ls 4 [(0, .ref (ad o0))] := hl
  show W p l e rm_X11_likely s m args below meth c s.heap [] 0 0 (MQ below (z_Qi G ad h (z_n h) s.heap.size r0) args s 0 0 (z_A ad (z_n h) s.heap.size)) (F0 m 0 ls [])
  obtain ⟨rs, kt⟩ : ∃ rs : Int32, rs = r0 := ⟨_, rfl⟩
  generalize hn0 : z_n h = n0 at hc hB ⊢
  have L12 : ∀ (o1 : Nat) (nn12 : Nat) (x2 : Int32) (x3 : Int32) (H : Heap) (locs : List Loc) (ls : Array Slot), z_B G ad n0 s h H locs → lv_has ls 4 [(1, .ref (ad o1)), (2, .int x2), (3, .int x3)] → ∀ vv12, y_lpN (fun q : Int32 × Int32 => fX11_likely_b12_i o1 h q.1 q.2) nn12 (x2, x3) = some vv12 → vv12 = r0 → W p l e rm_X11_likely s m args below meth c H locs 0 0 (MQ below (z_Qi G ad h n0 s.heap.size r0) args s 0 0 (z_A ad n0 s.heap.size)) (F0 m 12 ls []) := by
    intro o1 nn12
    induction nn12 with
    | zero => intro x2 x3 H locs ls hB hl vv12 hv kv12; exact absurd hv (fun q => y_lpN_0 q)
    | succ nn12 ih12 =>
      intro x2 x3 H locs ls hB hl vv12 hv kv12
      obtain ⟨w, hq, kw12⟩ := y_lpN_e hv
      clear hv
      have hv : fX11_likely_b12_i o1 h x2 x3 = some w := hq
      clear hq
      have b34 : ∀ (x2 : Int32) (x3 : Int32) (H : Heap) (locs : List Loc) (ls : Array Slot), z_B G ad n0 s h H locs → lv_has ls 4 [(1, .ref (ad o1)), (2, .int x2), (3, .int x3)] → ∀ w, fX11_likely_b34 o1 x2 x3 h = some w → y_lq (fun q : Int32 × Int32 => fX11_likely_b12_i o1 h q.1 q.2) nn12 vv12 w → W p l e rm_X11_likely s m args below meth c H locs 0 0 (MQ below (z_Qi G ad h n0 s.heap.size r0) args s 0 0 (z_A ad n0 s.heap.size)) (F0 m 34 ls []) := by
        intro x2 x3 H locs ls hB hl w hv kw12
        obtain ⟨v1, ev1, hv⟩ := y_nm_e hv
        refine lv_iinc (v := v1) (lv' := [(3, .int v1), (1, .ref (ad o1)), (2, .int x2)]) hx hb dX11_likely_34 hl (k := 2) rfl (by rw [ev1]; rfl) (by decide) rfl (fun ls hl => ?_)
        refine lv_goto (tgt := 12) hx hb dX11_likely_37 (by decide) ?_
        replace hv := Option.some.inj hv
        subst hv
        exact ih12 x2 v1 _ _ _ hB (lv_sub hl [1, 2, 0] rfl) _ kw12 kv12
      refine lv_iload_n hx hb dX11_likely_12 rfl (lv_at hl 2 rfl) ?_
      refine lv_bipush (v := (7 : Int32)) hx hb dX11_likely_13 (by decide) ?_
      refine lv_icmp_ge (tgt := 40) hx hb dX11_likely_15 (by decide) (fun c2 => ?_) (fun c2 => ?_)
      · replace hv := y_br_t hv c2
        obtain ⟨t3, hq, ew⟩ := y_mp_e hv
        clear hv; subst ew
        replace kw12 : t3 = _ := kw12
        subst kw12
        have hv := hq
        clear hq
        refine lv_iload_n hx hb dX11_likely_40 rfl (lv_at hl 1 rfl) ?_
        refine lv_if_ne (tgt := 48) hx hb dX11_likely_41 (by decide) (fun c4 => ?_) (fun c4 => ?_)
        · replace hv := y_br_f hv c4
          refine lv_iload_n hx hb dX11_likely_48 rfl (lv_at hl 1 rfl) ?_
          refine lv_iconst (v := (1 : Int32)) hx hb dX11_likely_49 (by decide) ?_
          refine lv_isub hx hb dX11_likely_50 ?_
          replace hv := Option.some.inj hv
          subst hv
          rw [← kv12]
          exact z_iret hc hB hr dX11_likely_51
        · replace hv := y_br_t hv c4
          refine lv_iconst (v := (-1 : Int32)) hx hb dX11_likely_44 (by decide) ?_
          refine lv_goto (tgt := 51) hx hb dX11_likely_45 (by decide) ?_
          replace hv := Option.some.inj hv
          subst hv
          rw [← kv12]
          exact z_iret hc hB hr dX11_likely_51
      · replace hv := y_br_f hv c2
        refine lv_aload_n hx hb dX11_likely_18 rfl (lv_at hl 0 rfl) ?_
        refine lv_iload_n hx hb dX11_likely_19 rfl (lv_at hl 2 rfl) ?_
        obtain ⟨g10, hv⟩ := y_gd_e hv
        obtain ⟨r7, c5, hv⟩ := y_bi_e hv
        refine z_thL hc hB (z_runV hc hB 2 (mm_X2_ofPlace hSK l ad o1 x3 h c5) md_X2_ofPlace qmX11_187 g10 (by decide) rfl rfl rfl ⟨Nat.le_of_ble_eq_true rfl, Nat.le_of_ble_eq_true rfl⟩ rfl hl.1 rfl (Nat.le_of_ble_eq_true rfl) dX11_likely_20 ⟨Nat.le_of_ble_eq_true rfl, Nat.le_of_ble_eq_true rfl⟩) (fun H locs hB => ?_)
        refine lv_aload_n hx hb dX11_likely_23 rfl (lv_at hl 0 rfl) ?_
        refine lv_iload_n hx hb dX11_likely_24 rfl (lv_at hl 1 rfl) ?_
        obtain ⟨r13, c11, hv⟩ := y_bi_e hv
        refine z_thL hc hB (z_runV hc hB 2 (mm_X2_ofPlace hSK l ad o1 x2 h c11) md_X2_ofPlace qmX11_187 g10 (by decide) rfl rfl rfl ⟨Nat.le_of_ble_eq_true rfl, Nat.le_of_ble_eq_true rfl⟩ rfl hl.1 rfl (Nat.le_of_ble_eq_true rfl) dX11_likely_25 ⟨Nat.le_of_ble_eq_true rfl, Nat.le_of_ble_eq_true rfl⟩) (fun H locs hB => ?_)
        refine W.lcmp hx hb dX11_likely_28 ?_
        refine lv_if_le (tgt := 34) hx hb dX11_likely_29 (by decide) (fun c16 => ?_) (fun c16 => ?_)
        · replace hv := y_br_t hv c16
          exact b34 x2 x3 _ _ _ hB (lv_sub hl [0, 1, 2] rfl) _ hv kw12
        · replace hv := y_br_f hv c16
          refine lv_iload_n hx hb dX11_likely_32 rfl (lv_at hl 2 rfl) ?_
          refine lv_istore_n (lv' := [(2, .int x3), (1, .ref (ad o1)), (3, .int x3)]) hx hb dX11_likely_33 rfl hl (by decide) rfl (fun ls hl => ?_)
          exact b34 x3 x3 _ _ _ hB (lv_sub hl [1, 0, 2] rfl) _ hv kw12
  rw [← kt] at hv
  refine lv_aload_n hx hb dX11_likely_0 rfl (lv_at hl 0 rfl) ?_
  obtain ⟨g17, hv⟩ := y_gd_e hv
  obtain ⟨ob18, eob18, hv⟩ := y_bi_e hv
  refine z_getR hc hB 10 3 g17 eob18 (by decide) (by decide) rfl (z_l1 hc qfX11_36) dX11_likely_1 ?_
  obtain ⟨g19, hv⟩ := y_gd_e hv
  obtain ⟨ob20, eob20, hv⟩ := y_bi_e hv
  refine z_getR hc hB 8 0 g19 eob20 (by decide) (by decide) rfl (z_l2 hc qfX11_106) dX11_likely_4 ?_
  refine lv_astore_n (lv' := [(1, .ref (ad ob20)), (0, .ref (ad o0))]) hx hb dX11_likely_7 rfl hl (by decide) rfl (fun ls hl => ?_)
  refine lv_iconst (v := (0 : Int32)) hx hb dX11_likely_8 (by decide) ?_
  refine lv_istore_n (lv' := [(2, .int (0 : Int32)), (1, .ref (ad ob20)), (0, .ref (ad o0))]) hx hb dX11_likely_9 rfl hl (by decide) rfl (fun ls hl => ?_)
  refine lv_iconst (v := (1 : Int32)) hx hb dX11_likely_10 (by decide) ?_
  refine lv_istore_n (lv' := [(3, .int (1 : Int32)), (2, .int (0 : Int32)), (1, .ref (ad ob20)), (0, .ref (ad o0))]) hx hb dX11_likely_11 rfl hl (by decide) rfl (fun ls hl => ?_)
  obtain ⟨n, hv⟩ := y_lp_e hv
  exact L12 ob20 n (0 : Int32) (1 : Int32) _ _ _ hB (lv_sub hl [2, 1, 0] rfl) _ hv kt
theorem dX11_fits_0 : decode cX11_fits 0 = .ok (.iconst 0, 1) := by decide +kernel
theorem dX11_fits_1 : decode cX11_fits 1 = .ok (.istore_n 1, 1) := by decide +kernel
theorem dX11_fits_2 : decode cX11_fits 2 = .ok (.iconst 0, 1) := by decide +kernel
theorem dX11_fits_3 : decode cX11_fits 3 = .ok (.istore_n 2, 1) := by decide +kernel
theorem dX11_fits_4 : decode cX11_fits 4 = .ok (.iload_n 2, 1) := by decide +kernel
theorem dX11_fits_5 : decode cX11_fits 5 = .ok (.bipush 7, 2) := by decide +kernel
theorem dX11_fits_7 : decode cX11_fits 7 = .ok (.if_icmp .ge 31, 3) := by decide +kernel
theorem dX11_fits_10 : decode cX11_fits 10 = .ok (.aload_n 0, 1) := by decide +kernel
theorem dX11_fits_11 : decode cX11_fits 11 = .ok (.getfield 36, 3) := by decide +kernel
theorem dX11_fits_14 : decode cX11_fits 14 = .ok (.getfield 106, 3) := by decide +kernel
theorem dX11_fits_17 : decode cX11_fits 17 = .ok (.iload_n 2, 1) := by decide +kernel
theorem dX11_fits_18 : decode cX11_fits 18 = .ok (.invokevirtual 187, 3) := by decide +kernel
theorem dX11_fits_21 : decode cX11_fits 21 = .ok (.lconst 0, 1) := by decide +kernel
theorem dX11_fits_22 : decode cX11_fits 22 = .ok (.lcmp, 1) := by decide +kernel
theorem dX11_fits_23 : decode cX11_fits 23 = .ok (.ifCond .le 9, 3) := by decide +kernel
theorem dX11_fits_26 : decode cX11_fits 26 = .ok (.iload_n 1, 1) := by decide +kernel
theorem dX11_fits_27 : decode cX11_fits 27 = .ok (.iconst 1, 1) := by decide +kernel
theorem dX11_fits_28 : decode cX11_fits 28 = .ok (.iload_n 2, 1) := by decide +kernel
theorem dX11_fits_29 : decode cX11_fits 29 = .ok (.ishl, 1) := by decide +kernel
theorem dX11_fits_30 : decode cX11_fits 30 = .ok (.ior, 1) := by decide +kernel
theorem dX11_fits_31 : decode cX11_fits 31 = .ok (.istore_n 1, 1) := by decide +kernel
theorem dX11_fits_32 : decode cX11_fits 32 = .ok (.iinc 2 1, 3) := by decide +kernel
theorem dX11_fits_35 : decode cX11_fits 35 = .ok (.goto (-31), 3) := by decide +kernel
theorem dX11_fits_38 : decode cX11_fits 38 = .ok (.iload_n 1, 1) := by decide +kernel
theorem dX11_fits_39 : decode cX11_fits 39 = .ok (.ireturn, 1) := by decide +kernel
abbrev rm_X11_fits : Room := { frames := 1, cells := 0, slots := 0, locals := 21 }
noncomputable def fX11_fits_b32 (o0 : Nat) (x1 : Int32) (x2 : Int32) (h : z_T) : Option ((Int32 × Int32) ⊕ (Int32)) :=
  y_nm (x2 + 1) fun v1 =>
  some (.inl (x1, v1))
noncomputable def fX11_fits_b4_i (o0 : Nat) (h : z_T) (x1 : Int32) (x2 : Int32) : Option ((Int32 × Int32) ⊕ (Int32)) :=
  y_br ((7 : Int32) ≤ x2)
    (y_mp <|
    some x1)
    (y_gd (z_ok h o0 10) <|
    y_bi (z_R h o0 3) fun o5 =>
    y_gd (z_ok h o5 8) <|
    y_bi (z_R h o5 0) fun o7 =>
    y_gd (z_ok h o7 2) <|
    y_bi (fX2_ofPlace o7 x2 h) fun r10 =>
    y_br ((lg_cmp r10 (0 : Int64)) ≤ 0)
      (fX11_fits_b32 o0 x1 x2 h)
      (y_nm ((x1 ||| ((1 : Int32) <<< (x2 &&& 31)))) fun v15 =>
      fX11_fits_b32 o0 v15 x2 h))
noncomputable def fX11_fits_b4 (o0 : Nat) (x1 : Int32) (x2 : Int32) (h : z_T) : Option (Int32) := y_lp (fun q : Int32 × Int32 => fX11_fits_b4_i o0 h q.1 q.2) (x1, x2)
noncomputable def fX11_fits (o0 : Nat) (h : z_T) : Option (Int32) :=
  fX11_fits_b4 o0 (0 : Int32) (0 : Int32) h
set_option maxHeartbeats 4000000 in
set_option maxRecDepth 100000 in
theorem mm_X11_fits {G : z_Gt} (hSK : z_SK (z_S G)) (l : Launch) (ad : Nat → Nat) (o0 : Nat) (h : z_T) {r0 : Int32} (hv : fX11_fits o0 h = some r0) : z_Mi G (z_S G) l yX11_fits cX11_fits 3 (.int) rm_X11_fits 0 0 [.ref (ad o0)] ad h h r0 := by
  refine z_ofW hSK (by decide) (Nat.le_of_ble_eq_true rfl) ?_
  intro p e s m args below meth c ls hc hr hnm hB hl
  have hx := hc.1.1
  have hb := hc.1.2.1
  have hown := hc.1.2.2.2.1
  have hts := hc.1.2.2.2.2
  replace hc : z_C G (z_S G) ad (z_n h) p m c cX11_fits 3 s args RX11 meth := hc
  replace hown : s.vm.findClass RX11 = some m.cls := hown
  replace hl : lv_has ls 3 [(0, .ref (ad o0))] := hl
  show W p l e rm_X11_fits s m args below meth c s.heap [] 0 0 (MQ below (z_Qi G ad h (z_n h) s.heap.size r0) args s 0 0 (z_A ad (z_n h) s.heap.size)) (F0 m 0 ls [])
  obtain ⟨rs, kt⟩ : ∃ rs : Int32, rs = r0 := ⟨_, rfl⟩
  generalize hn0 : z_n h = n0 at hc hB ⊢
  have L4 : ∀ (nn4 : Nat) (x1 : Int32) (x2 : Int32) (H : Heap) (locs : List Loc) (ls : Array Slot), z_B G ad n0 s h H locs → lv_has ls 3 [(0, .ref (ad o0)), (1, .int x1), (2, .int x2)] → ∀ vv4, y_lpN (fun q : Int32 × Int32 => fX11_fits_b4_i o0 h q.1 q.2) nn4 (x1, x2) = some vv4 → vv4 = r0 → W p l e rm_X11_fits s m args below meth c H locs 0 0 (MQ below (z_Qi G ad h n0 s.heap.size r0) args s 0 0 (z_A ad n0 s.heap.size)) (F0 m 4 ls []) := by
    intro nn4
    induction nn4 with
    | zero => intro x1 x2 H locs ls hB hl vv4 hv kv4; exact absurd hv (fun q => y_lpN_0 q)
    | succ nn4 ih4 =>
      intro x1 x2 H locs ls hB hl vv4 hv kv4
      obtain ⟨w, hq, kw4⟩ := y_lpN_e hv
      clear hv
      have hv : fX11_fits_b4_i o0 h x1 x2 = some w := hq
      clear hq
      have b32 : ∀ (x1 : Int32) (x2 : Int32) (H : Heap) (locs : List Loc) (ls : Array Slot), z_B G ad n0 s h H locs → lv_has ls 3 [(0, .ref (ad o0)), (1, .int x1), (2, .int x2)] → ∀ w, fX11_fits_b32 o0 x1 x2 h = some w → y_lq (fun q : Int32 × Int32 => fX11_fits_b4_i o0 h q.1 q.2) nn4 vv4 w → W p l e rm_X11_fits s m args below meth c H locs 0 0 (MQ below (z_Qi G ad h n0 s.heap.size r0) args s 0 0 (z_A ad n0 s.heap.size)) (F0 m 32 ls []) := by
        intro x1 x2 H locs ls hB hl w hv kw4
        obtain ⟨v1, ev1, hv⟩ := y_nm_e hv
        refine lv_iinc (v := v1) (lv' := [(2, .int v1), (0, .ref (ad o0)), (1, .int x1)]) hx hb dX11_fits_32 hl (k := 2) rfl (by rw [ev1]; rfl) (by decide) rfl (fun ls hl => ?_)
        refine lv_goto (tgt := 4) hx hb dX11_fits_35 (by decide) ?_
        replace hv := Option.some.inj hv
        subst hv
        exact ih4 x1 v1 _ _ _ hB (lv_sub hl [1, 2, 0] rfl) _ kw4 kv4
      refine lv_iload_n hx hb dX11_fits_4 rfl (lv_at hl 2 rfl) ?_
      refine lv_bipush (v := (7 : Int32)) hx hb dX11_fits_5 (by decide) ?_
      refine lv_icmp_ge (tgt := 38) hx hb dX11_fits_7 (by decide) (fun c2 => ?_) (fun c2 => ?_)
      · replace hv := y_br_t hv c2
        obtain ⟨t3, hq, ew⟩ := y_mp_e hv
        clear hv; subst ew
        replace kw4 : t3 = _ := kw4
        subst kw4
        have hv := hq
        clear hq
        refine lv_iload_n hx hb dX11_fits_38 rfl (lv_at hl 1 rfl) ?_
        replace hv := Option.some.inj hv
        subst hv
        rw [← kv4]
        exact z_iret hc hB hr dX11_fits_39
      · replace hv := y_br_f hv c2
        refine lv_aload_n hx hb dX11_fits_10 rfl (lv_at hl 0 rfl) ?_
        obtain ⟨g4, hv⟩ := y_gd_e hv
        obtain ⟨o5, eo5, hv⟩ := y_bi_e hv
        refine z_getR hc hB 10 3 g4 eo5 (by decide) (by decide) rfl (z_l1 hc qfX11_36) dX11_fits_11 ?_
        obtain ⟨g6, hv⟩ := y_gd_e hv
        obtain ⟨o7, eo7, hv⟩ := y_bi_e hv
        refine z_getR hc hB 8 0 g6 eo7 (by decide) (by decide) rfl (z_l2 hc qfX11_106) dX11_fits_14 ?_
        refine lv_iload_n hx hb dX11_fits_17 rfl (lv_at hl 2 rfl) ?_
        obtain ⟨g13, hv⟩ := y_gd_e hv
        obtain ⟨r10, c8, hv⟩ := y_bi_e hv
        refine z_thL hc hB (z_runV hc hB 2 (mm_X2_ofPlace hSK l ad o7 x2 h c8) md_X2_ofPlace qmX11_187 g13 (by decide) rfl rfl rfl ⟨Nat.le_of_ble_eq_true rfl, Nat.le_of_ble_eq_true rfl⟩ rfl hl.1 rfl (Nat.le_of_ble_eq_true rfl) dX11_fits_18 ⟨Nat.le_of_ble_eq_true rfl, Nat.le_of_ble_eq_true rfl⟩) (fun H locs hB => ?_)
        refine lv_lconst (v := (0 : Int64)) hx hb dX11_fits_21 (by decide) ?_
        refine W.lcmp hx hb dX11_fits_22 ?_
        refine lv_if_le (tgt := 32) hx hb dX11_fits_23 (by decide) (fun c14 => ?_) (fun c14 => ?_)
        · replace hv := y_br_t hv c14
          exact b32 x1 x2 _ _ _ hB (lv_sub hl [0, 1, 2] rfl) _ hv kw4
        · replace hv := y_br_f hv c14
          refine lv_iload_n hx hb dX11_fits_26 rfl (lv_at hl 1 rfl) ?_
          refine lv_iconst (v := (1 : Int32)) hx hb dX11_fits_27 (by decide) ?_
          refine lv_iload_n hx hb dX11_fits_28 rfl (lv_at hl 2 rfl) ?_
          refine lv_ishl hx hb dX11_fits_29 ?_
          refine lv_ior hx hb dX11_fits_30 ?_
          obtain ⟨v15, ev15, hv⟩ := y_nm_e hv
          rw [← ev15]
          refine lv_istore_n (lv' := [(1, .int v15), (0, .ref (ad o0)), (2, .int x2)]) hx hb dX11_fits_31 rfl hl (by decide) rfl (fun ls hl => ?_)
          exact b32 v15 x2 _ _ _ hB (lv_sub hl [1, 0, 2] rfl) _ hv kw4
  rw [← kt] at hv
  refine lv_iconst (v := (0 : Int32)) hx hb dX11_fits_0 (by decide) ?_
  refine lv_istore_n (lv' := [(1, .int (0 : Int32)), (0, .ref (ad o0))]) hx hb dX11_fits_1 rfl hl (by decide) rfl (fun ls hl => ?_)
  refine lv_iconst (v := (0 : Int32)) hx hb dX11_fits_2 (by decide) ?_
  refine lv_istore_n (lv' := [(2, .int (0 : Int32)), (1, .int (0 : Int32)), (0, .ref (ad o0))]) hx hb dX11_fits_3 rfl hl (by decide) rfl (fun ls hl => ?_)
  obtain ⟨n, hv⟩ := y_lp_e hv
  exact L4 n (0 : Int32) (0 : Int32) _ _ _ hB (lv_sub hl [2, 1, 0] rfl) _ hv kt
theorem qmX11_202 : Cond.methodLink RX11 202 yX0_isForgedBy ∈ z_ws := List.mem_filter.mpr ⟨List.mem_append_right _ (List.mem_of_getElem? (i := 617) (by decide +kernel)), rfl⟩
theorem qc_X0_isForgedBy : Cond.code yX0_isForgedBy cX0_isForgedBy 3 (some .int) ∈ z_ws := List.mem_filter.mpr ⟨List.mem_append_right _ (List.mem_of_getElem? (i := 620) (by decide +kernel)), rfl⟩
theorem qi_X0_isForgedBy : Cond.instanceMethod yX0_isForgedBy ∈ z_ws := List.mem_filter.mpr ⟨List.mem_append_right _ (List.mem_of_getElem? (i := 618) (by decide +kernel)), rfl⟩
theorem qs_X0_isForgedBy : Cond.selects RX0 yX0_isForgedBy yX0_isForgedBy ∈ z_ws := List.mem_filter.mpr ⟨List.mem_append_right _ (List.mem_of_getElem? (i := 619) (by decide +kernel)), rfl⟩
theorem md_X0_isForgedBy : z_mdV yX0_isForgedBy cX0_isForgedBy 3 (some .int) 1 := ⟨⟨qn_RX0, qc_X0_isForgedBy, ⟨by decide +kernel, by decide +kernel, by decide +kernel⟩⟩, qi_X0_isForgedBy, qs_X0_isForgedBy⟩
theorem qmX11_197 : Cond.methodLink RX11 197 yJ6_bitCount_0f7a4 ∈ z_ws := List.mem_filter.mpr ⟨List.mem_append_right _ (List.mem_of_getElem? (i := 611) (by decide +kernel)), rfl⟩
theorem qmX11_194 : Cond.methodLink RX11 194 yX0_goodTests ∈ z_ws := List.mem_filter.mpr ⟨List.mem_append_right _ (List.mem_of_getElem? (i := 607) (by decide +kernel)), rfl⟩
theorem dX11_enough_0 : decode cX11_enough 0 = .ok (.aload_n 0, 1) := by decide +kernel
theorem dX11_enough_1 : decode cX11_enough 1 = .ok (.getfield 36, 3) := by decide +kernel
theorem dX11_enough_4 : decode cX11_enough 4 = .ok (.getfield 106, 3) := by decide +kernel
theorem dX11_enough_7 : decode cX11_enough 7 = .ok (.getfield 109, 3) := by decide +kernel
theorem dX11_enough_10 : decode cX11_enough 10 = .ok (.astore_n 1, 1) := by decide +kernel
theorem dX11_enough_11 : decode cX11_enough 11 = .ok (.aload_n 1, 1) := by decide +kernel
theorem dX11_enough_12 : decode cX11_enough 12 = .ok (.invokevirtual 194, 3) := by decide +kernel
theorem dX11_enough_15 : decode cX11_enough 15 = .ok (.istore_n 2, 1) := by decide +kernel
theorem dX11_enough_16 : decode cX11_enough 16 = .ok (.iconst (-1), 1) := by decide +kernel
theorem dX11_enough_17 : decode cX11_enough 17 = .ok (.istore_n 3, 1) := by decide +kernel
theorem dX11_enough_18 : decode cX11_enough 18 = .ok (.iconst 0, 1) := by decide +kernel
theorem dX11_enough_19 : decode cX11_enough 19 = .ok (.istore 4, 2) := by decide +kernel
theorem dX11_enough_21 : decode cX11_enough 21 = .ok (.iload 4, 2) := by decide +kernel
theorem dX11_enough_23 : decode cX11_enough 23 = .ok (.iload_n 2, 1) := by decide +kernel
theorem dX11_enough_24 : decode cX11_enough 24 = .ok (.if_icmp .gt 60, 3) := by decide +kernel
theorem dX11_enough_27 : decode cX11_enough 27 = .ok (.iload_n 3, 1) := by decide +kernel
theorem dX11_enough_28 : decode cX11_enough 28 = .ok (.iconst (-1), 1) := by decide +kernel
theorem dX11_enough_29 : decode cX11_enough 29 = .ok (.if_icmp .eq 15, 3) := by decide +kernel
theorem dX11_enough_32 : decode cX11_enough 32 = .ok (.iload 4, 2) := by decide +kernel
theorem dX11_enough_34 : decode cX11_enough 34 = .ok (.invokestatic 197, 3) := by decide +kernel
theorem dX11_enough_37 : decode cX11_enough 37 = .ok (.iload_n 3, 1) := by decide +kernel
theorem dX11_enough_38 : decode cX11_enough 38 = .ok (.invokestatic 197, 3) := by decide +kernel
theorem dX11_enough_41 : decode cX11_enough 41 = .ok (.if_icmp .ge 7, 3) := by decide +kernel
theorem dX11_enough_44 : decode cX11_enough 44 = .ok (.iconst 1, 1) := by decide +kernel
theorem dX11_enough_45 : decode cX11_enough 45 = .ok (.goto 4, 3) := by decide +kernel
theorem dX11_enough_48 : decode cX11_enough 48 = .ok (.iconst 0, 1) := by decide +kernel
theorem dX11_enough_49 : decode cX11_enough 49 = .ok (.istore 5, 2) := by decide +kernel
theorem dX11_enough_51 : decode cX11_enough 51 = .ok (.iload 4, 2) := by decide +kernel
theorem dX11_enough_53 : decode cX11_enough 53 = .ok (.iload_n 2, 1) := by decide +kernel
theorem dX11_enough_54 : decode cX11_enough 54 = .ok (.iconst (-1), 1) := by decide +kernel
theorem dX11_enough_55 : decode cX11_enough 55 = .ok (.ixor, 1) := by decide +kernel
theorem dX11_enough_56 : decode cX11_enough 56 = .ok (.iand, 1) := by decide +kernel
theorem dX11_enough_57 : decode cX11_enough 57 = .ok (.ifCond .ne 21, 3) := by decide +kernel
theorem dX11_enough_60 : decode cX11_enough 60 = .ok (.iload 5, 2) := by decide +kernel
theorem dX11_enough_62 : decode cX11_enough 62 = .ok (.ifCond .eq 16, 3) := by decide +kernel
theorem dX11_enough_65 : decode cX11_enough 65 = .ok (.aload_n 1, 1) := by decide +kernel
theorem dX11_enough_66 : decode cX11_enough 66 = .ok (.iload 4, 2) := by decide +kernel
theorem dX11_enough_68 : decode cX11_enough 68 = .ok (.invokevirtual 202, 3) := by decide +kernel
theorem dX11_enough_71 : decode cX11_enough 71 = .ok (.iconst (-1), 1) := by decide +kernel
theorem dX11_enough_72 : decode cX11_enough 72 = .ok (.if_icmp .ne 6, 3) := by decide +kernel
theorem dX11_enough_75 : decode cX11_enough 75 = .ok (.iload 4, 2) := by decide +kernel
theorem dX11_enough_77 : decode cX11_enough 77 = .ok (.istore_n 3, 1) := by decide +kernel
theorem dX11_enough_78 : decode cX11_enough 78 = .ok (.iinc 4 1, 3) := by decide +kernel
theorem dX11_enough_81 : decode cX11_enough 81 = .ok (.goto (-60), 3) := by decide +kernel
theorem dX11_enough_84 : decode cX11_enough 84 = .ok (.iload_n 3, 1) := by decide +kernel
theorem dX11_enough_85 : decode cX11_enough 85 = .ok (.ireturn, 1) := by decide +kernel
abbrev rm_X11_enough : Room := { frames := 2, cells := 0, slots := 0, locals := 43 }
noncomputable def fX11_enough_b78 (o1 : Nat) (x2 : Int32) (x3 : Int32) (x4 : Int32) (h : z_T) : Option ((Int32 × Int32) ⊕ (Int32)) :=
  y_nm (x4 + 1) fun v1 =>
  some (.inl (x3, v1))
noncomputable def fX11_enough_b49 (o1 : Nat) (x2 : Int32) (x3 : Int32) (x4 : Int32) (s0 : Int32) (h : z_T) : Option ((Int32 × Int32) ⊕ (Int32)) :=
  y_br ((x4 &&& (x2 ^^^ (-1 : Int32))) = 0)
    (y_br (s0 = 0)
      (fX11_enough_b78 o1 x2 x3 x4 h)
      (y_gd (z_ok h o1 0) <|
      y_bi (fX0_isForgedBy o1 x4 h) fun r5 =>
      y_br (r5 = (-1 : Int32))
        (fX11_enough_b78 o1 x2 x4 x4 h)
        (fX11_enough_b78 o1 x2 x3 x4 h)))
    (fX11_enough_b78 o1 x2 x3 x4 h)
noncomputable def fX11_enough_b44 (o1 : Nat) (x2 : Int32) (x3 : Int32) (x4 : Int32) (h : z_T) : Option ((Int32 × Int32) ⊕ (Int32)) :=
  fX11_enough_b49 o1 x2 x3 x4 (1 : Int32) h
noncomputable def fX11_enough_b21_i (o1 : Nat) (x2 : Int32) (h : z_T) (x3 : Int32) (x4 : Int32) : Option ((Int32 × Int32) ⊕ (Int32)) :=
  y_br (x2 < x4)
    (y_mp <|
    some x3)
    (y_br (x3 = (-1 : Int32))
      (fX11_enough_b44 o1 x2 x3 x4 h)
      (y_bi (fJ6_bitCount_0f7a4 x4) fun r15 =>
      y_bi (fJ6_bitCount_0f7a4 x3) fun r20 =>
      y_br (r20 ≤ r15)
        (fX11_enough_b49 o1 x2 x3 x4 (0 : Int32) h)
        (fX11_enough_b44 o1 x2 x3 x4 h)))
noncomputable def fX11_enough_b21 (o1 : Nat) (x2 : Int32) (x3 : Int32) (x4 : Int32) (h : z_T) : Option (Int32) := y_lp (fun q : Int32 × Int32 => fX11_enough_b21_i o1 x2 h q.1 q.2) (x3, x4)
noncomputable def fX11_enough (o0 : Nat) (h : z_T) : Option (Int32) :=
  y_gd (z_ok h o0 10) <|
  y_bi (z_R h o0 3) fun ob26 =>
  y_gd (z_ok h ob26 8) <|
  y_bi (z_R h ob26 0) fun ob28 =>
  y_gd (z_ok h ob28 2) <|
  y_bi (z_R h ob28 0) fun ob30 =>
  y_gd (z_ok h ob30 0) <|
  y_bi (fX0_goodTests ob30 h) fun r32 =>
  fX11_enough_b21 ob30 r32 (-1 : Int32) (0 : Int32) h
set_option maxHeartbeats 4000000 in
set_option maxRecDepth 100000 in
theorem mm_X11_enough {G : z_Gt} (hSK : z_SK (z_S G)) (l : Launch) (ad : Nat → Nat) (o0 : Nat) (h : z_T) {r0 : Int32} (hv : fX11_enough o0 h = some r0) : z_Mi G (z_S G) l yX11_enough cX11_enough 6 (.int) rm_X11_enough 0 0 [.ref (ad o0)] ad h h r0 := by
  refine z_ofW hSK (by decide) (Nat.le_of_ble_eq_true rfl) ?_
  intro p e s m args below meth c ls hc hr hnm hB hl
  have hx := hc.1.1
  have hb := hc.1.2.1
  have hown := hc.1.2.2.2.1
  have hts := hc.1.2.2.2.2
  replace hc : z_C G (z_S G) ad (z_n h) p m c cX11_enough 6 s args RX11 meth := hc
  replace hown : s.vm.findClass RX11 = some m.cls := hown
  replace hl : lv_has ls 6 [(0, .ref (ad o0))] := hl
  show W p l e rm_X11_enough s m args below meth c s.heap [] 0 0 (MQ below (z_Qi G ad h (z_n h) s.heap.size r0) args s 0 0 (z_A ad (z_n h) s.heap.size)) (F0 m 0 ls [])
  obtain ⟨rs, kt⟩ : ∃ rs : Int32, rs = r0 := ⟨_, rfl⟩
  generalize hn0 : z_n h = n0 at hc hB ⊢
  have L21 : ∀ (o1 : Nat) (x2 : Int32) (nn21 : Nat) (x3 : Int32) (x4 : Int32) (H : Heap) (locs : List Loc) (ls : Array Slot), z_B G ad n0 s h H locs → lv_has ls 6 [(1, .ref (ad o1)), (2, .int x2), (3, .int x3), (4, .int x4)] → ∀ vv21, y_lpN (fun q : Int32 × Int32 => fX11_enough_b21_i o1 x2 h q.1 q.2) nn21 (x3, x4) = some vv21 → vv21 = r0 → W p l e rm_X11_enough s m args below meth c H locs 0 0 (MQ below (z_Qi G ad h n0 s.heap.size r0) args s 0 0 (z_A ad n0 s.heap.size)) (F0 m 21 ls []) := by
    intro o1 x2 nn21
    induction nn21 with
    | zero => intro x3 x4 H locs ls hB hl vv21 hv kv21; exact absurd hv (fun q => y_lpN_0 q)
    | succ nn21 ih21 =>
      intro x3 x4 H locs ls hB hl vv21 hv kv21
      obtain ⟨w, hq, kw21⟩ := y_lpN_e hv
      clear hv
      have hv : fX11_enough_b21_i o1 x2 h x3 x4 = some w := hq
      clear hq
      have b78 : ∀ (x3 : Int32) (x4 : Int32) (H : Heap) (locs : List Loc) (ls : Array Slot), z_B G ad n0 s h H locs → lv_has ls 6 [(1, .ref (ad o1)), (2, .int x2), (3, .int x3), (4, .int x4)] → ∀ w, fX11_enough_b78 o1 x2 x3 x4 h = some w → y_lq (fun q : Int32 × Int32 => fX11_enough_b21_i o1 x2 h q.1 q.2) nn21 vv21 w → W p l e rm_X11_enough s m args below meth c H locs 0 0 (MQ below (z_Qi G ad h n0 s.heap.size r0) args s 0 0 (z_A ad n0 s.heap.size)) (F0 m 78 ls []) := by
        intro x3 x4 H locs ls hB hl w hv kw21
        obtain ⟨v1, ev1, hv⟩ := y_nm_e hv
        refine lv_iinc (v := v1) (lv' := [(4, .int v1), (1, .ref (ad o1)), (2, .int x2), (3, .int x3)]) hx hb dX11_enough_78 hl (k := 3) rfl (by rw [ev1]; rfl) (by decide) rfl (fun ls hl => ?_)
        refine lv_goto (tgt := 21) hx hb dX11_enough_81 (by decide) ?_
        replace hv := Option.some.inj hv
        subst hv
        exact ih21 x3 v1 _ _ _ hB (lv_sub hl [1, 2, 3, 0] rfl) _ kw21 kv21
      have b49 : ∀ (x3 : Int32) (x4 : Int32) (s0 : Int32) (H : Heap) (locs : List Loc) (ls : Array Slot), z_B G ad n0 s h H locs → lv_has ls 6 [(1, .ref (ad o1)), (2, .int x2), (3, .int x3), (4, .int x4)] → ∀ w, fX11_enough_b49 o1 x2 x3 x4 s0 h = some w → y_lq (fun q : Int32 × Int32 => fX11_enough_b21_i o1 x2 h q.1 q.2) nn21 vv21 w → W p l e rm_X11_enough s m args below meth c H locs 0 0 (MQ below (z_Qi G ad h n0 s.heap.size r0) args s 0 0 (z_A ad n0 s.heap.size)) (F0 m 49 ls [.int s0]) := by
        intro x3 x4 s0 H locs ls hB hl w hv kw21
        refine lv_istore (lv' := [(5, .int s0), (1, .ref (ad o1)), (2, .int x2), (3, .int x3), (4, .int x4)]) hx hb dX11_enough_49 hl (by decide) rfl (fun ls hl => ?_)
        refine lv_iload hx hb dX11_enough_51 (lv_at hl 4 rfl) ?_
        refine lv_iload_n hx hb dX11_enough_53 rfl (lv_at hl 2 rfl) ?_
        refine lv_iconst (v := (-1 : Int32)) hx hb dX11_enough_54 (by decide) ?_
        refine lv_ixor hx hb dX11_enough_55 ?_
        refine lv_iand hx hb dX11_enough_56 ?_
        refine lv_if_ne (tgt := 78) hx hb dX11_enough_57 (by decide) (fun c2 => ?_) (fun c2 => ?_)
        · replace hv := y_br_f hv c2
          exact b78 x3 x4 _ _ _ hB (lv_sub hl [1, 2, 3, 4] rfl) _ hv kw21
        · replace hv := y_br_t hv c2
          refine lv_iload hx hb dX11_enough_60 (lv_at hl 0 rfl) ?_
          refine lv_if_eq (tgt := 78) hx hb dX11_enough_62 (by decide) (fun c3 => ?_) (fun c3 => ?_)
          · replace hv := y_br_t hv c3
            exact b78 x3 x4 _ _ _ hB (lv_sub hl [1, 2, 3, 4] rfl) _ hv kw21
          · replace hv := y_br_f hv c3
            refine lv_aload_n hx hb dX11_enough_65 rfl (lv_at hl 1 rfl) ?_
            refine lv_iload hx hb dX11_enough_66 (lv_at hl 4 rfl) ?_
            obtain ⟨g9, hv⟩ := y_gd_e hv
            obtain ⟨r5, c4, hv⟩ := y_bi_e hv
            refine z_thI hc hB (z_runV hc hB 0 (mm_X0_isForgedBy hSK l ad o1 x4 h c4) md_X0_isForgedBy qmX11_202 g9 (by decide) rfl rfl rfl ⟨Nat.le_of_ble_eq_true rfl, Nat.le_of_ble_eq_true rfl⟩ rfl hl.1 rfl (Nat.le_of_ble_eq_true rfl) dX11_enough_68 ⟨Nat.le_of_ble_eq_true rfl, Nat.le_of_ble_eq_true rfl⟩) (fun H locs hB => ?_)
            refine lv_iconst (v := (-1 : Int32)) hx hb dX11_enough_71 (by decide) ?_
            refine lv_icmp_ne (tgt := 78) hx hb dX11_enough_72 (by decide) (fun c10 => ?_) (fun c10 => ?_)
            · replace hv := y_br_f hv c10
              exact b78 x3 x4 _ _ _ hB (lv_sub hl [1, 2, 3, 4] rfl) _ hv kw21
            · replace hv := y_br_t hv c10
              refine lv_iload hx hb dX11_enough_75 (lv_at hl 4 rfl) ?_
              refine lv_istore_n (lv' := [(3, .int x4), (5, .int s0), (1, .ref (ad o1)), (2, .int x2), (4, .int x4)]) hx hb dX11_enough_77 rfl hl (by decide) rfl (fun ls hl => ?_)
              exact b78 x4 x4 _ _ _ hB (lv_sub hl [2, 3, 0, 4] rfl) _ hv kw21
      have b44 : ∀ (x3 : Int32) (x4 : Int32) (H : Heap) (locs : List Loc) (ls : Array Slot), z_B G ad n0 s h H locs → lv_has ls 6 [(1, .ref (ad o1)), (2, .int x2), (3, .int x3), (4, .int x4)] → ∀ w, fX11_enough_b44 o1 x2 x3 x4 h = some w → y_lq (fun q : Int32 × Int32 => fX11_enough_b21_i o1 x2 h q.1 q.2) nn21 vv21 w → W p l e rm_X11_enough s m args below meth c H locs 0 0 (MQ below (z_Qi G ad h n0 s.heap.size r0) args s 0 0 (z_A ad n0 s.heap.size)) (F0 m 44 ls []) := by
        intro x3 x4 H locs ls hB hl w hv kw21
        refine lv_iconst (v := (1 : Int32)) hx hb dX11_enough_44 (by decide) ?_
        refine lv_goto (tgt := 49) hx hb dX11_enough_45 (by decide) ?_
        exact b49 x3 x4 (1 : Int32) _ _ _ hB (lv_sub hl [0, 1, 2, 3] rfl) _ hv kw21
      refine lv_iload hx hb dX11_enough_21 (lv_at hl 3 rfl) ?_
      refine lv_iload_n hx hb dX11_enough_23 rfl (lv_at hl 1 rfl) ?_
      refine lv_icmp_gt (tgt := 84) hx hb dX11_enough_24 (by decide) (fun c11 => ?_) (fun c11 => ?_)
      · replace hv := y_br_t hv c11
        obtain ⟨t12, hq, ew⟩ := y_mp_e hv
        clear hv; subst ew
        replace kw21 : t12 = _ := kw21
        subst kw21
        have hv := hq
        clear hq
        refine lv_iload_n hx hb dX11_enough_84 rfl (lv_at hl 2 rfl) ?_
        replace hv := Option.some.inj hv
        subst hv
        rw [← kv21]
        exact z_iret hc hB hr dX11_enough_85
      · replace hv := y_br_f hv c11
        refine lv_iload_n hx hb dX11_enough_27 rfl (lv_at hl 2 rfl) ?_
        refine lv_iconst (v := (-1 : Int32)) hx hb dX11_enough_28 (by decide) ?_
        refine lv_icmp_eq (tgt := 44) hx hb dX11_enough_29 (by decide) (fun c13 => ?_) (fun c13 => ?_)
        · replace hv := y_br_t hv c13
          exact b44 x3 x4 _ _ _ hB (lv_sub hl [0, 1, 2, 3] rfl) _ hv kw21
        · replace hv := y_br_f hv c13
          refine lv_iload hx hb dX11_enough_32 (lv_at hl 3 rfl) ?_
          obtain ⟨r15, c14, hv⟩ := y_bi_e hv
          refine z_thI hc hB (z_runS hc hB (mm_J6_bitCount_0f7a4 hSK l ad x4 h c14) md_J6_bitCount_0f7a4 qmX11_197 rfl rfl ⟨Nat.le_of_ble_eq_true rfl, Nat.le_of_ble_eq_true rfl⟩ rfl hl.1 rfl (Nat.le_of_ble_eq_true rfl) dX11_enough_34 ⟨Nat.le_of_ble_eq_true rfl, Nat.le_of_ble_eq_true rfl⟩) (fun H locs hB => ?_)
          refine lv_iload_n hx hb dX11_enough_37 rfl (lv_at hl 2 rfl) ?_
          obtain ⟨r20, c19, hv⟩ := y_bi_e hv
          refine z_thI hc hB (z_runS hc hB (mm_J6_bitCount_0f7a4 hSK l ad x3 h c19) md_J6_bitCount_0f7a4 qmX11_197 rfl rfl ⟨Nat.le_of_ble_eq_true rfl, Nat.le_of_ble_eq_true rfl⟩ rfl hl.1 rfl (Nat.le_of_ble_eq_true rfl) dX11_enough_38 ⟨Nat.le_of_ble_eq_true rfl, Nat.le_of_ble_eq_true rfl⟩) (fun H locs hB => ?_)
          refine lv_icmp_ge (tgt := 48) hx hb dX11_enough_41 (by decide) (fun c24 => ?_) (fun c24 => ?_)
          · replace hv := y_br_t hv c24
            refine lv_iconst (v := (0 : Int32)) hx hb dX11_enough_48 (by decide) ?_
            exact b49 x3 x4 (0 : Int32) _ _ _ hB (lv_sub hl [0, 1, 2, 3] rfl) _ hv kw21
          · replace hv := y_br_f hv c24
            exact b44 x3 x4 _ _ _ hB (lv_sub hl [0, 1, 2, 3] rfl) _ hv kw21
  rw [← kt] at hv
  refine lv_aload_n hx hb dX11_enough_0 rfl (lv_at hl 0 rfl) ?_
  obtain ⟨g25, hv⟩ := y_gd_e hv
  obtain ⟨ob26, eob26, hv⟩ := y_bi_e hv
  refine z_getR hc hB 10 3 g25 eob26 (by decide) (by decide) rfl (z_l1 hc qfX11_36) dX11_enough_1 ?_
  obtain ⟨g27, hv⟩ := y_gd_e hv
  obtain ⟨ob28, eob28, hv⟩ := y_bi_e hv
  refine z_getR hc hB 8 0 g27 eob28 (by decide) (by decide) rfl (z_l2 hc qfX11_106) dX11_enough_4 ?_
  obtain ⟨g29, hv⟩ := y_gd_e hv
  obtain ⟨ob30, eob30, hv⟩ := y_bi_e hv
  refine z_getR hc hB 2 0 g29 eob30 (by decide) (by decide) rfl (z_l2 hc qfX11_109) dX11_enough_7 ?_
  refine lv_astore_n (lv' := [(1, .ref (ad ob30)), (0, .ref (ad o0))]) hx hb dX11_enough_10 rfl hl (by decide) rfl (fun ls hl => ?_)
  refine lv_aload_n hx hb dX11_enough_11 rfl (lv_at hl 0 rfl) ?_
  obtain ⟨g36, hv⟩ := y_gd_e hv
  obtain ⟨r32, c31, hv⟩ := y_bi_e hv
  refine z_thI hc hB (z_runV hc hB 0 (mm_X0_goodTests hSK l ad ob30 h c31) md_X0_goodTests qmX11_194 g36 (by decide) rfl rfl rfl ⟨Nat.le_of_ble_eq_true rfl, Nat.le_of_ble_eq_true rfl⟩ rfl hl.1 rfl (Nat.le_of_ble_eq_true rfl) dX11_enough_12 ⟨Nat.le_of_ble_eq_true rfl, Nat.le_of_ble_eq_true rfl⟩) (fun H locs hB => ?_)
  refine lv_istore_n (lv' := [(2, .int r32), (1, .ref (ad ob30)), (0, .ref (ad o0))]) hx hb dX11_enough_15 rfl hl (by decide) rfl (fun ls hl => ?_)
  refine lv_iconst (v := (-1 : Int32)) hx hb dX11_enough_16 (by decide) ?_
  refine lv_istore_n (lv' := [(3, .int (-1 : Int32)), (2, .int r32), (1, .ref (ad ob30)), (0, .ref (ad o0))]) hx hb dX11_enough_17 rfl hl (by decide) rfl (fun ls hl => ?_)
  refine lv_iconst (v := (0 : Int32)) hx hb dX11_enough_18 (by decide) ?_
  refine lv_istore (lv' := [(4, .int (0 : Int32)), (3, .int (-1 : Int32)), (2, .int r32), (1, .ref (ad ob30)), (0, .ref (ad o0))]) hx hb dX11_enough_19 hl (by decide) rfl (fun ls hl => ?_)
  obtain ⟨n, hv⟩ := y_lp_e hv
  exact L21 ob30 r32 n (-1 : Int32) (0 : Int32) _ _ _ hB (lv_sub hl [3, 2, 1, 0] rfl) _ hv kt
theorem dX11_forger_0 : decode cX11_forger 0 = .ok (.aload_n 0, 1) := by decide +kernel
theorem dX11_forger_1 : decode cX11_forger 1 = .ok (.getfield 36, 3) := by decide +kernel
theorem dX11_forger_4 : decode cX11_forger 4 = .ok (.getfield 106, 3) := by decide +kernel
theorem dX11_forger_7 : decode cX11_forger 7 = .ok (.getfield 109, 3) := by decide +kernel
theorem dX11_forger_10 : decode cX11_forger 10 = .ok (.aload_n 0, 1) := by decide +kernel
theorem dX11_forger_11 : decode cX11_forger 11 = .ok (.getfield 36, 3) := by decide +kernel
theorem dX11_forger_14 : decode cX11_forger 14 = .ok (.getfield 106, 3) := by decide +kernel
theorem dX11_forger_17 : decode cX11_forger 17 = .ok (.getfield 109, 3) := by decide +kernel
theorem dX11_forger_20 : decode cX11_forger 20 = .ok (.invokevirtual 194, 3) := by decide +kernel
theorem dX11_forger_23 : decode cX11_forger 23 = .ok (.invokevirtual 202, 3) := by decide +kernel
theorem dX11_forger_26 : decode cX11_forger 26 = .ok (.ireturn, 1) := by decide +kernel
abbrev rm_X11_forger : Room := { frames := 2, cells := 0, slots := 0, locals := 43 }
noncomputable def fX11_forger (o0 : Nat) (h : z_T) : Option (Int32) :=
  y_gd (z_ok h o0 10) <|
  y_bi (z_R h o0 3) fun o2 =>
  y_gd (z_ok h o2 8) <|
  y_bi (z_R h o2 0) fun o4 =>
  y_gd (z_ok h o4 2) <|
  y_bi (z_R h o4 0) fun o6 =>
  y_gd (z_ok h o6 0) <|
  y_bi (fX0_goodTests o6 h) fun r8 =>
  y_bi (fX0_isForgedBy o6 r8 h) fun r14 =>
  some r14
set_option maxHeartbeats 4000000 in
set_option maxRecDepth 100000 in
theorem mm_X11_forger {G : z_Gt} (hSK : z_SK (z_S G)) (l : Launch) (ad : Nat → Nat) (o0 : Nat) (h : z_T) {r0 : Int32} (hv : fX11_forger o0 h = some r0) : z_Mi G (z_S G) l yX11_forger cX11_forger 1 (.int) rm_X11_forger 0 0 [.ref (ad o0)] ad h h r0 := by
  refine z_ofW hSK (by decide) (Nat.le_of_ble_eq_true rfl) ?_
  intro p e s m args below meth c ls hc hr hnm hB hl
  have hx := hc.1.1
  have hb := hc.1.2.1
  have hown := hc.1.2.2.2.1
  have hts := hc.1.2.2.2.2
  replace hc : z_C G (z_S G) ad (z_n h) p m c cX11_forger 1 s args RX11 meth := hc
  replace hown : s.vm.findClass RX11 = some m.cls := hown
  replace hl : lv_has ls 1 [(0, .ref (ad o0))] := hl
  show W p l e rm_X11_forger s m args below meth c s.heap [] 0 0 (MQ below (z_Qi G ad h (z_n h) s.heap.size r0) args s 0 0 (z_A ad (z_n h) s.heap.size)) (F0 m 0 ls [])
  obtain ⟨rs, kt⟩ : ∃ rs : Int32, rs = r0 := ⟨_, rfl⟩
  generalize hn0 : z_n h = n0 at hc hB ⊢
  rw [← kt] at hv
  refine lv_aload_n hx hb dX11_forger_0 rfl (lv_at hl 0 rfl) ?_
  obtain ⟨g1, hv⟩ := y_gd_e hv
  obtain ⟨o2, eo2, hv⟩ := y_bi_e hv
  refine z_getR hc hB 10 3 g1 eo2 (by decide) (by decide) rfl (z_l1 hc qfX11_36) dX11_forger_1 ?_
  obtain ⟨g3, hv⟩ := y_gd_e hv
  obtain ⟨o4, eo4, hv⟩ := y_bi_e hv
  refine z_getR hc hB 8 0 g3 eo4 (by decide) (by decide) rfl (z_l2 hc qfX11_106) dX11_forger_4 ?_
  obtain ⟨g5, hv⟩ := y_gd_e hv
  obtain ⟨o6, eo6, hv⟩ := y_bi_e hv
  refine z_getR hc hB 2 0 g5 eo6 (by decide) (by decide) rfl (z_l2 hc qfX11_109) dX11_forger_7 ?_
  refine lv_aload_n hx hb dX11_forger_10 rfl (lv_at hl 0 rfl) ?_
  refine z_getR hc hB 10 3 g1 eo2 (by decide) (by decide) rfl (z_l1 hc qfX11_36) dX11_forger_11 ?_
  refine z_getR hc hB 8 0 g3 eo4 (by decide) (by decide) rfl (z_l2 hc qfX11_106) dX11_forger_14 ?_
  refine z_getR hc hB 2 0 g5 eo6 (by decide) (by decide) rfl (z_l2 hc qfX11_109) dX11_forger_17 ?_
  obtain ⟨g12, hv⟩ := y_gd_e hv
  obtain ⟨r8, c7, hv⟩ := y_bi_e hv
  refine z_thI hc hB (z_runV hc hB 0 (mm_X0_goodTests hSK l ad o6 h c7) md_X0_goodTests qmX11_194 g12 (by decide) rfl rfl rfl ⟨Nat.le_of_ble_eq_true rfl, Nat.le_of_ble_eq_true rfl⟩ rfl hl.1 rfl (Nat.le_of_ble_eq_true rfl) dX11_forger_20 ⟨Nat.le_of_ble_eq_true rfl, Nat.le_of_ble_eq_true rfl⟩) (fun H locs hB => ?_)
  obtain ⟨r14, c13, hv⟩ := y_bi_e hv
  refine z_thI hc hB (z_runV hc hB 0 (mm_X0_isForgedBy hSK l ad o6 r8 h c13) md_X0_isForgedBy qmX11_202 g12 (by decide) rfl rfl rfl ⟨Nat.le_of_ble_eq_true rfl, Nat.le_of_ble_eq_true rfl⟩ rfl hl.1 rfl (Nat.le_of_ble_eq_true rfl) dX11_forger_23 ⟨Nat.le_of_ble_eq_true rfl, Nat.le_of_ble_eq_true rfl⟩) (fun H locs hB => ?_)
  replace hv := Option.some.inj hv
  subst hv
  rw [← kt]
  exact z_iret hc hB hr dX11_forger_26
theorem qfX11_217 : Cond.fieldLinkNest RX11 217 "DreamTests$Book" "tests" "I" "DreamTests" ∈ z_nw := List.mem_filter.mpr ⟨List.mem_of_getElem? (i := 46) (by decide +kernel), rfl⟩
theorem qmX11_208 : Cond.methodLink RX11 208 yX0_mistakes ∈ z_ws := List.mem_filter.mpr ⟨List.mem_append_right _ (List.mem_of_getElem? (i := 629) (by decide +kernel)), rfl⟩
theorem qc_X0_mistakes : Cond.code yX0_mistakes cX0_mistakes 10 (some .long) ∈ z_ws := List.mem_filter.mpr ⟨List.mem_append_right _ (List.mem_of_getElem? (i := 632) (by decide +kernel)), rfl⟩
theorem qi_X0_mistakes : Cond.instanceMethod yX0_mistakes ∈ z_ws := List.mem_filter.mpr ⟨List.mem_append_right _ (List.mem_of_getElem? (i := 630) (by decide +kernel)), rfl⟩
theorem qs_X0_mistakes : Cond.selects RX0 yX0_mistakes yX0_mistakes ∈ z_ws := List.mem_filter.mpr ⟨List.mem_append_right _ (List.mem_of_getElem? (i := 631) (by decide +kernel)), rfl⟩
theorem md_X0_mistakes : z_mdV yX0_mistakes cX0_mistakes 10 (some .long) 1 := ⟨⟨qn_RX0, qc_X0_mistakes, ⟨by decide +kernel, by decide +kernel, by decide +kernel⟩⟩, qi_X0_mistakes, qs_X0_mistakes⟩
theorem dX11_pair_0 : decode cX11_pair 0 = .ok (.aload_n 0, 1) := by decide +kernel
theorem dX11_pair_1 : decode cX11_pair 1 = .ok (.getfield 36, 3) := by decide +kernel
theorem dX11_pair_4 : decode cX11_pair 4 = .ok (.getfield 106, 3) := by decide +kernel
theorem dX11_pair_7 : decode cX11_pair 7 = .ok (.getfield 109, 3) := by decide +kernel
theorem dX11_pair_10 : decode cX11_pair 10 = .ok (.astore_n 1, 1) := by decide +kernel
theorem dX11_pair_11 : decode cX11_pair 11 = .ok (.iconst (-1), 1) := by decide +kernel
theorem dX11_pair_12 : decode cX11_pair 12 = .ok (.istore_n 2, 1) := by decide +kernel
theorem dX11_pair_13 : decode cX11_pair 13 = .ok (.lconst 0, 1) := by decide +kernel
theorem dX11_pair_14 : decode cX11_pair 14 = .ok (.lstore_n 3, 1) := by decide +kernel
theorem dX11_pair_15 : decode cX11_pair 15 = .ok (.iconst 0, 1) := by decide +kernel
theorem dX11_pair_16 : decode cX11_pair 16 = .ok (.istore 5, 2) := by decide +kernel
theorem dX11_pair_18 : decode cX11_pair 18 = .ok (.iload 5, 2) := by decide +kernel
theorem dX11_pair_20 : decode cX11_pair 20 = .ok (.aload_n 1, 1) := by decide +kernel
theorem dX11_pair_21 : decode cX11_pair 21 = .ok (.getfield 217, 3) := by decide +kernel
theorem dX11_pair_24 : decode cX11_pair 24 = .ok (.if_icmp .ge 69, 3) := by decide +kernel
theorem dX11_pair_27 : decode cX11_pair 27 = .ok (.iload 5, 2) := by decide +kernel
theorem dX11_pair_29 : decode cX11_pair 29 = .ok (.iconst 1, 1) := by decide +kernel
theorem dX11_pair_30 : decode cX11_pair 30 = .ok (.iadd, 1) := by decide +kernel
theorem dX11_pair_31 : decode cX11_pair 31 = .ok (.istore 6, 2) := by decide +kernel
theorem dX11_pair_33 : decode cX11_pair 33 = .ok (.iload 6, 2) := by decide +kernel
theorem dX11_pair_35 : decode cX11_pair 35 = .ok (.aload_n 1, 1) := by decide +kernel
theorem dX11_pair_36 : decode cX11_pair 36 = .ok (.getfield 217, 3) := by decide +kernel
theorem dX11_pair_39 : decode cX11_pair 39 = .ok (.if_icmp .ge 48, 3) := by decide +kernel
theorem dX11_pair_42 : decode cX11_pair 42 = .ok (.aload_n 1, 1) := by decide +kernel
theorem dX11_pair_43 : decode cX11_pair 43 = .ok (.iconst 1, 1) := by decide +kernel
theorem dX11_pair_44 : decode cX11_pair 44 = .ok (.iload 5, 2) := by decide +kernel
theorem dX11_pair_46 : decode cX11_pair 46 = .ok (.ishl, 1) := by decide +kernel
theorem dX11_pair_47 : decode cX11_pair 47 = .ok (.iconst 1, 1) := by decide +kernel
theorem dX11_pair_48 : decode cX11_pair 48 = .ok (.iload 6, 2) := by decide +kernel
theorem dX11_pair_50 : decode cX11_pair 50 = .ok (.ishl, 1) := by decide +kernel
theorem dX11_pair_51 : decode cX11_pair 51 = .ok (.ior, 1) := by decide +kernel
theorem dX11_pair_52 : decode cX11_pair 52 = .ok (.invokevirtual 208, 3) := by decide +kernel
theorem dX11_pair_55 : decode cX11_pair 55 = .ok (.lstore 7, 2) := by decide +kernel
theorem dX11_pair_57 : decode cX11_pair 57 = .ok (.iload_n 2, 1) := by decide +kernel
theorem dX11_pair_58 : decode cX11_pair 58 = .ok (.iconst (-1), 1) := by decide +kernel
theorem dX11_pair_59 : decode cX11_pair 59 = .ok (.if_icmp .eq 10, 3) := by decide +kernel
theorem dX11_pair_62 : decode cX11_pair 62 = .ok (.lload 7, 2) := by decide +kernel
theorem dX11_pair_64 : decode cX11_pair 64 = .ok (.lload_n 3, 1) := by decide +kernel
theorem dX11_pair_65 : decode cX11_pair 65 = .ok (.lcmp, 1) := by decide +kernel
theorem dX11_pair_66 : decode cX11_pair 66 = .ok (.ifCond .ge 15, 3) := by decide +kernel
theorem dX11_pair_69 : decode cX11_pair 69 = .ok (.lload 7, 2) := by decide +kernel
theorem dX11_pair_71 : decode cX11_pair 71 = .ok (.lstore_n 3, 1) := by decide +kernel
theorem dX11_pair_72 : decode cX11_pair 72 = .ok (.bipush 10, 2) := by decide +kernel
theorem dX11_pair_74 : decode cX11_pair 74 = .ok (.iload 5, 2) := by decide +kernel
theorem dX11_pair_76 : decode cX11_pair 76 = .ok (.imul, 1) := by decide +kernel
theorem dX11_pair_77 : decode cX11_pair 77 = .ok (.iload 6, 2) := by decide +kernel
theorem dX11_pair_79 : decode cX11_pair 79 = .ok (.iadd, 1) := by decide +kernel
theorem dX11_pair_80 : decode cX11_pair 80 = .ok (.istore_n 2, 1) := by decide +kernel
theorem dX11_pair_81 : decode cX11_pair 81 = .ok (.iinc 6 1, 3) := by decide +kernel
theorem dX11_pair_84 : decode cX11_pair 84 = .ok (.goto (-51), 3) := by decide +kernel
theorem dX11_pair_87 : decode cX11_pair 87 = .ok (.iinc 5 1, 3) := by decide +kernel
theorem dX11_pair_90 : decode cX11_pair 90 = .ok (.goto (-72), 3) := by decide +kernel
theorem dX11_pair_93 : decode cX11_pair 93 = .ok (.iload_n 2, 1) := by decide +kernel
theorem dX11_pair_94 : decode cX11_pair 94 = .ok (.ireturn, 1) := by decide +kernel
abbrev rm_X11_pair : Room := { frames := 4, cells := 0, slots := 0, locals := 100 }
noncomputable def fX11_pair_b81 (o1 : Nat) (x2 : Int32) (l3 : Int64) (x5 : Int32) (x6 : Int32) (h : z_T) : Option ((Int32 × Int64 × Int32) ⊕ ((Int32 × Int64 × Int32) ⊕ (Int32))) :=
  y_nm (x6 + 1) fun v1 =>
  some (.inl (x2, l3, v1))
noncomputable def fX11_pair_b69 (o1 : Nat) (x5 : Int32) (x6 : Int32) (l7 : Int64) (h : z_T) : Option ((Int32 × Int64 × Int32) ⊕ ((Int32 × Int64 × Int32) ⊕ (Int32))) :=
  y_nm ((((10 : Int32) * x5) + x6)) fun v2 =>
  fX11_pair_b81 o1 v2 l7 x5 x6 h
noncomputable def fX11_pair_b33_i (o1 : Nat) (x5 : Int32) (h : z_T) (x2 : Int32) (l3 : Int64) (x6 : Int32) : Option ((Int32 × Int64 × Int32) ⊕ ((Int32 × Int64 × Int32) ⊕ (Int32))) :=
  y_gd (z_ok h o1 0) <|
  y_br ((z_I h o1 1) ≤ x6)
    (y_mp <|
    y_nm (x5 + 1) fun v6 =>
    some (.inl (x2, l3, v6)))
    (y_bi (fX0_mistakes o1 (((1 : Int32) <<< (x5 &&& 31)) ||| ((1 : Int32) <<< (x6 &&& 31))) h) fun r9 =>
    y_br (x2 = (-1 : Int32))
      (fX11_pair_b69 o1 x5 x6 r9 h)
      (y_br (0 ≤ (lg_cmp r9 l3))
        (fX11_pair_b81 o1 x2 l3 x5 x6 h)
        (fX11_pair_b69 o1 x5 x6 r9 h)))
noncomputable def fX11_pair_b33 (o1 : Nat) (x2 : Int32) (l3 : Int64) (x5 : Int32) (x6 : Int32) (h : z_T) : Option ((Int32 × Int64 × Int32) ⊕ (Int32)) := y_lp (fun q : Int32 × Int64 × Int32 => fX11_pair_b33_i o1 x5 h q.1 q.2.1 q.2.2) (x2, l3, x6)
noncomputable def fX11_pair_b18_i (o1 : Nat) (h : z_T) (x2 : Int32) (l3 : Int64) (x5 : Int32) : Option ((Int32 × Int64 × Int32) ⊕ (Int32)) :=
  y_gd (z_ok h o1 0) <|
  y_br ((z_I h o1 1) ≤ x5)
    (y_mp <|
    some x2)
    (y_nm ((x5 + (1 : Int32))) fun v17 =>
    fX11_pair_b33 o1 x2 l3 x5 v17 h)
noncomputable def fX11_pair_b18 (o1 : Nat) (x2 : Int32) (l3 : Int64) (x5 : Int32) (h : z_T) : Option (Int32) := y_lp (fun q : Int32 × Int64 × Int32 => fX11_pair_b18_i o1 h q.1 q.2.1 q.2.2) (x2, l3, x5)
noncomputable def fX11_pair (o0 : Nat) (h : z_T) : Option (Int32) :=
  y_gd (z_ok h o0 10) <|
  y_bi (z_R h o0 3) fun ob19 =>
  y_gd (z_ok h ob19 8) <|
  y_bi (z_R h ob19 0) fun ob21 =>
  y_gd (z_ok h ob21 2) <|
  y_bi (z_R h ob21 0) fun ob23 =>
  fX11_pair_b18 ob23 (-1 : Int32) (0 : Int64) (0 : Int32) h
set_option maxHeartbeats 4000000 in
set_option maxRecDepth 100000 in
theorem mm_X11_pair {G : z_Gt} (hSK : z_SK (z_S G)) (l : Launch) (ad : Nat → Nat) (o0 : Nat) (h : z_T) {r0 : Int32} (hv : fX11_pair o0 h = some r0) : z_Mi G (z_S G) l yX11_pair cX11_pair 9 (.int) rm_X11_pair 0 0 [.ref (ad o0)] ad h h r0 := by
  refine z_ofW hSK (by decide) (Nat.le_of_ble_eq_true rfl) ?_
  intro p e s m args below meth c ls hc hr hnm hB hl
  have hx := hc.1.1
  have hb := hc.1.2.1
  have hown := hc.1.2.2.2.1
  have hts := hc.1.2.2.2.2
  replace hc : z_C G (z_S G) ad (z_n h) p m c cX11_pair 9 s args RX11 meth := hc
  replace hown : s.vm.findClass RX11 = some m.cls := hown
  replace hl : lv_has ls 9 [(0, .ref (ad o0))] := hl
  show W p l e rm_X11_pair s m args below meth c s.heap [] 0 0 (MQ below (z_Qi G ad h (z_n h) s.heap.size r0) args s 0 0 (z_A ad (z_n h) s.heap.size)) (F0 m 0 ls [])
  obtain ⟨rs, kt⟩ : ∃ rs : Int32, rs = r0 := ⟨_, rfl⟩
  generalize hn0 : z_n h = n0 at hc hB ⊢
  have L18 : ∀ (o1 : Nat) (nn18 : Nat) (x2 : Int32) (l3 : Int64) (x5 : Int32) (H : Heap) (locs : List Loc) (ls : Array Slot), z_B G ad n0 s h H locs → lv_has ls 9 [(1, .ref (ad o1)), (2, .int x2), (3, .long l3), (5, .int x5)] → ∀ vv18, y_lpN (fun q : Int32 × Int64 × Int32 => fX11_pair_b18_i o1 h q.1 q.2.1 q.2.2) nn18 (x2, l3, x5) = some vv18 → vv18 = r0 → W p l e rm_X11_pair s m args below meth c H locs 0 0 (MQ below (z_Qi G ad h n0 s.heap.size r0) args s 0 0 (z_A ad n0 s.heap.size)) (F0 m 18 ls []) := by
    intro o1 nn18
    induction nn18 with
    | zero => intro x2 l3 x5 H locs ls hB hl vv18 hv kv18; exact absurd hv (fun q => y_lpN_0 q)
    | succ nn18 ih18 =>
      intro x2 l3 x5 H locs ls hB hl vv18 hv kv18
      obtain ⟨w, hq, kw18⟩ := y_lpN_e hv
      clear hv
      have hv : fX11_pair_b18_i o1 h x2 l3 x5 = some w := hq
      clear hq
      have L33 : ∀ (x5 : Int32) (nn33 : Nat) (x2 : Int32) (l3 : Int64) (x6 : Int32) (H : Heap) (locs : List Loc) (ls : Array Slot), z_B G ad n0 s h H locs → lv_has ls 9 [(1, .ref (ad o1)), (2, .int x2), (3, .long l3), (5, .int x5), (6, .int x6)] → ∀ vv33, y_lpN (fun q : Int32 × Int64 × Int32 => fX11_pair_b33_i o1 x5 h q.1 q.2.1 q.2.2) nn33 (x2, l3, x6) = some vv33 → y_lq (fun q : Int32 × Int64 × Int32 => fX11_pair_b18_i o1 h q.1 q.2.1 q.2.2) nn18 vv18 vv33 → W p l e rm_X11_pair s m args below meth c H locs 0 0 (MQ below (z_Qi G ad h n0 s.heap.size r0) args s 0 0 (z_A ad n0 s.heap.size)) (F0 m 33 ls []) := by
        intro x5 nn33
        induction nn33 with
        | zero => intro x2 l3 x6 H locs ls hB hl vv33 hv kv33; exact absurd hv (fun q => y_lpN_0 q)
        | succ nn33 ih33 =>
          intro x2 l3 x6 H locs ls hB hl vv33 hv kv33
          obtain ⟨w, hq, kw33⟩ := y_lpN_e hv
          clear hv
          have hv : fX11_pair_b33_i o1 x5 h x2 l3 x6 = some w := hq
          clear hq
          have b81 : ∀ (x2 : Int32) (l3 : Int64) (x6 : Int32) (H : Heap) (locs : List Loc) (ls : Array Slot), z_B G ad n0 s h H locs → lv_has ls 9 [(1, .ref (ad o1)), (2, .int x2), (3, .long l3), (5, .int x5), (6, .int x6)] → ∀ w, fX11_pair_b81 o1 x2 l3 x5 x6 h = some w → y_lq (fun q : Int32 × Int64 × Int32 => fX11_pair_b33_i o1 x5 h q.1 q.2.1 q.2.2) nn33 vv33 w → W p l e rm_X11_pair s m args below meth c H locs 0 0 (MQ below (z_Qi G ad h n0 s.heap.size r0) args s 0 0 (z_A ad n0 s.heap.size)) (F0 m 81 ls []) := by
            intro x2 l3 x6 H locs ls hB hl w hv kw33
            obtain ⟨v1, ev1, hv⟩ := y_nm_e hv
            refine lv_iinc (v := v1) (lv' := [(6, .int v1), (1, .ref (ad o1)), (2, .int x2), (3, .long l3), (5, .int x5)]) hx hb dX11_pair_81 hl (k := 4) rfl (by rw [ev1]; rfl) (by decide) rfl (fun ls hl => ?_)
            refine lv_goto (tgt := 33) hx hb dX11_pair_84 (by decide) ?_
            replace hv := Option.some.inj hv
            subst hv
            exact ih33 x2 l3 v1 _ _ _ hB (lv_sub hl [1, 2, 3, 4, 0] rfl) _ kw33 kv33
          have b69 : ∀ (x6 : Int32) (l7 : Int64) (H : Heap) (locs : List Loc) (ls : Array Slot), z_B G ad n0 s h H locs → lv_has ls 9 [(1, .ref (ad o1)), (5, .int x5), (6, .int x6), (7, .long l7)] → ∀ w, fX11_pair_b69 o1 x5 x6 l7 h = some w → y_lq (fun q : Int32 × Int64 × Int32 => fX11_pair_b33_i o1 x5 h q.1 q.2.1 q.2.2) nn33 vv33 w → W p l e rm_X11_pair s m args below meth c H locs 0 0 (MQ below (z_Qi G ad h n0 s.heap.size r0) args s 0 0 (z_A ad n0 s.heap.size)) (F0 m 69 ls []) := by
            intro x6 l7 H locs ls hB hl w hv kw33
            refine lv_lload hx hb dX11_pair_69 (lv_at hl 3 rfl) ?_
            refine lv_lstore_n (lv' := [(3, .long l7), (1, .ref (ad o1)), (5, .int x5), (6, .int x6), (7, .long l7)]) hx hb dX11_pair_71 rfl hl (by decide) rfl (fun ls hl => ?_)
            refine lv_bipush (v := (10 : Int32)) hx hb dX11_pair_72 (by decide) ?_
            refine lv_iload hx hb dX11_pair_74 (lv_at hl 2 rfl) ?_
            refine lv_imul hx hb dX11_pair_76 ?_
            refine lv_iload hx hb dX11_pair_77 (lv_at hl 3 rfl) ?_
            refine lv_iadd hx hb dX11_pair_79 ?_
            obtain ⟨v2, ev2, hv⟩ := y_nm_e hv
            rw [← ev2]
            refine lv_istore_n (lv' := [(2, .int v2), (3, .long l7), (1, .ref (ad o1)), (5, .int x5), (6, .int x6), (7, .long l7)]) hx hb dX11_pair_80 rfl hl (by decide) rfl (fun ls hl => ?_)
            exact b81 v2 l7 x6 _ _ _ hB (lv_sub hl [2, 0, 1, 3, 4] rfl) _ hv kw33
          refine lv_iload hx hb dX11_pair_33 (lv_at hl 4 rfl) ?_
          refine lv_aload_n hx hb dX11_pair_35 rfl (lv_at hl 0 rfl) ?_
          obtain ⟨g3, hv⟩ := y_gd_e hv
          refine z_getI hc hB 0 1 g3 (by decide) (by decide) rfl (z_l2 hc qfX11_217) dX11_pair_36 ?_
          refine lv_icmp_ge (tgt := 87) hx hb dX11_pair_39 (by decide) (fun c4 => ?_) (fun c4 => ?_)
          · replace hv := y_br_t hv c4
            obtain ⟨t5, hq, ew⟩ := y_mp_e hv
            clear hv; subst ew
            replace kw33 : t5 = _ := kw33
            subst kw33
            have hv := hq
            clear hq
            obtain ⟨v6, ev6, hv⟩ := y_nm_e hv
            refine lv_iinc (v := v6) (lv' := [(5, .int v6), (1, .ref (ad o1)), (2, .int x2), (3, .long l3), (6, .int x6)]) hx hb dX11_pair_87 hl (k := 3) rfl (by rw [ev6]; rfl) (by decide) rfl (fun ls hl => ?_)
            refine lv_goto (tgt := 18) hx hb dX11_pair_90 (by decide) ?_
            replace hv := Option.some.inj hv
            subst hv
            exact ih18 x2 l3 v6 _ _ _ hB (lv_sub hl [1, 2, 3, 0] rfl) _ kv33 kv18
          · replace hv := y_br_f hv c4
            refine lv_aload_n hx hb dX11_pair_42 rfl (lv_at hl 0 rfl) ?_
            refine lv_iconst (v := (1 : Int32)) hx hb dX11_pair_43 (by decide) ?_
            refine lv_iload hx hb dX11_pair_44 (lv_at hl 3 rfl) ?_
            refine lv_ishl hx hb dX11_pair_46 ?_
            refine lv_iconst (v := (1 : Int32)) hx hb dX11_pair_47 (by decide) ?_
            refine lv_iload hx hb dX11_pair_48 (lv_at hl 4 rfl) ?_
            refine lv_ishl hx hb dX11_pair_50 ?_
            refine lv_ior hx hb dX11_pair_51 ?_
            obtain ⟨r9, c7, hv⟩ := y_bi_e hv
            refine z_thL hc hB (z_runV hc hB 0 (mm_X0_mistakes hSK l ad o1 (((1 : Int32) <<< (x5 &&& 31)) ||| ((1 : Int32) <<< (x6 &&& 31))) h c7) md_X0_mistakes qmX11_208 g3 (by decide) rfl rfl rfl ⟨Nat.le_of_ble_eq_true rfl, Nat.le_of_ble_eq_true rfl⟩ rfl hl.1 rfl (Nat.le_of_ble_eq_true rfl) dX11_pair_52 ⟨Nat.le_of_ble_eq_true rfl, Nat.le_of_ble_eq_true rfl⟩) (fun H locs hB => ?_)
            refine lv_lstore (lv' := [(7, .long r9), (1, .ref (ad o1)), (2, .int x2), (3, .long l3), (5, .int x5), (6, .int x6)]) hx hb dX11_pair_55 hl (by decide) rfl (fun ls hl => ?_)
            refine lv_iload_n hx hb dX11_pair_57 rfl (lv_at hl 2 rfl) ?_
            refine lv_iconst (v := (-1 : Int32)) hx hb dX11_pair_58 (by decide) ?_
            refine lv_icmp_eq (tgt := 69) hx hb dX11_pair_59 (by decide) (fun c12 => ?_) (fun c12 => ?_)
            · replace hv := y_br_t hv c12
              exact b69 x6 r9 _ _ _ hB (lv_sub hl [1, 4, 5, 0] rfl) _ hv kw33
            · replace hv := y_br_f hv c12
              refine lv_lload hx hb dX11_pair_62 (lv_at hl 0 rfl) ?_
              refine lv_lload_n hx hb dX11_pair_64 rfl (lv_at hl 3 rfl) ?_
              refine W.lcmp hx hb dX11_pair_65 ?_
              refine lv_if_ge (tgt := 81) hx hb dX11_pair_66 (by decide) (fun c13 => ?_) (fun c13 => ?_)
              · replace hv := y_br_t hv c13
                exact b81 x2 l3 x6 _ _ _ hB (lv_sub hl [1, 2, 3, 4, 5] rfl) _ hv kw33
              · replace hv := y_br_f hv c13
                exact b69 x6 r9 _ _ _ hB (lv_sub hl [1, 4, 5, 0] rfl) _ hv kw33
      refine lv_iload hx hb dX11_pair_18 (lv_at hl 3 rfl) ?_
      refine lv_aload_n hx hb dX11_pair_20 rfl (lv_at hl 0 rfl) ?_
      obtain ⟨g14, hv⟩ := y_gd_e hv
      refine z_getI hc hB 0 1 g14 (by decide) (by decide) rfl (z_l2 hc qfX11_217) dX11_pair_21 ?_
      refine lv_icmp_ge (tgt := 93) hx hb dX11_pair_24 (by decide) (fun c15 => ?_) (fun c15 => ?_)
      · replace hv := y_br_t hv c15
        obtain ⟨t16, hq, ew⟩ := y_mp_e hv
        clear hv; subst ew
        replace kw18 : t16 = _ := kw18
        subst kw18
        have hv := hq
        clear hq
        refine lv_iload_n hx hb dX11_pair_93 rfl (lv_at hl 1 rfl) ?_
        replace hv := Option.some.inj hv
        subst hv
        rw [← kv18]
        exact z_iret hc hB hr dX11_pair_94
      · replace hv := y_br_f hv c15
        refine lv_iload hx hb dX11_pair_27 (lv_at hl 3 rfl) ?_
        refine lv_iconst (v := (1 : Int32)) hx hb dX11_pair_29 (by decide) ?_
        refine lv_iadd hx hb dX11_pair_30 ?_
        obtain ⟨v17, ev17, hv⟩ := y_nm_e hv
        rw [← ev17]
        refine lv_istore (lv' := [(6, .int v17), (1, .ref (ad o1)), (2, .int x2), (3, .long l3), (5, .int x5)]) hx hb dX11_pair_31 hl (by decide) rfl (fun ls hl => ?_)
        obtain ⟨n, hv⟩ := y_lp_e hv
        exact L33 x5 n x2 l3 v17 _ _ _ hB (lv_sub hl [1, 2, 3, 4, 0] rfl) _ hv kw18
  rw [← kt] at hv
  refine lv_aload_n hx hb dX11_pair_0 rfl (lv_at hl 0 rfl) ?_
  obtain ⟨g18, hv⟩ := y_gd_e hv
  obtain ⟨ob19, eob19, hv⟩ := y_bi_e hv
  refine z_getR hc hB 10 3 g18 eob19 (by decide) (by decide) rfl (z_l1 hc qfX11_36) dX11_pair_1 ?_
  obtain ⟨g20, hv⟩ := y_gd_e hv
  obtain ⟨ob21, eob21, hv⟩ := y_bi_e hv
  refine z_getR hc hB 8 0 g20 eob21 (by decide) (by decide) rfl (z_l2 hc qfX11_106) dX11_pair_4 ?_
  obtain ⟨g22, hv⟩ := y_gd_e hv
  obtain ⟨ob23, eob23, hv⟩ := y_bi_e hv
  refine z_getR hc hB 2 0 g22 eob23 (by decide) (by decide) rfl (z_l2 hc qfX11_109) dX11_pair_7 ?_
  refine lv_astore_n (lv' := [(1, .ref (ad ob23)), (0, .ref (ad o0))]) hx hb dX11_pair_10 rfl hl (by decide) rfl (fun ls hl => ?_)
  refine lv_iconst (v := (-1 : Int32)) hx hb dX11_pair_11 (by decide) ?_
  refine lv_istore_n (lv' := [(2, .int (-1 : Int32)), (1, .ref (ad ob23)), (0, .ref (ad o0))]) hx hb dX11_pair_12 rfl hl (by decide) rfl (fun ls hl => ?_)
  refine lv_lconst (v := (0 : Int64)) hx hb dX11_pair_13 (by decide) ?_
  refine lv_lstore_n (lv' := [(3, .long (0 : Int64)), (2, .int (-1 : Int32)), (1, .ref (ad ob23)), (0, .ref (ad o0))]) hx hb dX11_pair_14 rfl hl (by decide) rfl (fun ls hl => ?_)
  refine lv_iconst (v := (0 : Int32)) hx hb dX11_pair_15 (by decide) ?_
  refine lv_istore (lv' := [(5, .int (0 : Int32)), (3, .long (0 : Int64)), (2, .int (-1 : Int32)), (1, .ref (ad ob23)), (0, .ref (ad o0))]) hx hb dX11_pair_16 hl (by decide) rfl (fun ls hl => ?_)
  obtain ⟨n, hv⟩ := y_lp_e hv
  exact L18 ob23 n (-1 : Int32) (0 : Int64) (0 : Int32) _ _ _ hB (lv_sub hl [3, 2, 1, 0] rfl) _ hv kt
theorem qmX11_220 : Cond.methodLink RX11 220 yX5_isFor ∈ z_ws := List.mem_filter.mpr ⟨List.mem_append_right _ (List.mem_of_getElem? (i := 646) (by decide +kernel)), rfl⟩
theorem qc_X5_isFor : Cond.code yX5_isFor cX5_isFor 2 (some .boolean) ∈ z_ws := List.mem_filter.mpr ⟨List.mem_append_right _ (List.mem_of_getElem? (i := 648) (by decide +kernel)), rfl⟩
theorem qs_X5_isFor : Cond.static yX5_isFor ∈ z_ws := List.mem_filter.mpr ⟨List.mem_append_right _ (List.mem_of_getElem? (i := 647) (by decide +kernel)), rfl⟩
theorem md_X5_isFor : z_mdS yX5_isFor cX5_isFor 2 (some .boolean) 2 := ⟨⟨qn_RX5, qc_X5_isFor, ⟨by decide +kernel, by decide +kernel, by decide +kernel⟩⟩, qs_X5_isFor⟩
theorem qfX11_61 : Cond.fieldLink RX11 61 "DreamTests" "plan" "LDreamTests$Plan;" ∈ z_ws := List.mem_filter.mpr ⟨List.mem_append_right _ (List.mem_of_getElem? (i := 294) (by decide +kernel)), rfl⟩
theorem qmX11_224 : Cond.methodLink RX11 224 yX5_open ∈ z_ws := List.mem_filter.mpr ⟨List.mem_append_right _ (List.mem_of_getElem? (i := 649) (by decide +kernel)), rfl⟩
theorem qc_X5_open : Cond.code yX5_open cX5_open 4 none ∈ z_ws := List.mem_filter.mpr ⟨List.mem_append_right _ (List.mem_of_getElem? (i := 652) (by decide +kernel)), rfl⟩
theorem qi_X5_open : Cond.instanceMethod yX5_open ∈ z_ws := List.mem_filter.mpr ⟨List.mem_append_right _ (List.mem_of_getElem? (i := 650) (by decide +kernel)), rfl⟩
theorem qs_X5_open : Cond.selects RX5 yX5_open yX5_open ∈ z_ws := List.mem_filter.mpr ⟨List.mem_append_right _ (List.mem_of_getElem? (i := 651) (by decide +kernel)), rfl⟩
theorem md_X5_open : z_mdV yX5_open cX5_open 4 none 2 := ⟨⟨qn_RX5, qc_X5_open, ⟨by decide +kernel, by decide +kernel, by decide +kernel⟩⟩, qi_X5_open, qs_X5_open⟩
theorem qmX11_230 : Cond.methodLink RX11 230 yX5_firstTest ∈ z_ws := List.mem_filter.mpr ⟨List.mem_append_right _ (List.mem_of_getElem? (i := 690) (by decide +kernel)), rfl⟩
theorem qc_X5_firstTest : Cond.code yX5_firstTest cX5_firstTest 1 (some .int) ∈ z_ws := List.mem_filter.mpr ⟨List.mem_append_right _ (List.mem_of_getElem? (i := 693) (by decide +kernel)), rfl⟩
theorem qi_X5_firstTest : Cond.instanceMethod yX5_firstTest ∈ z_ws := List.mem_filter.mpr ⟨List.mem_append_right _ (List.mem_of_getElem? (i := 691) (by decide +kernel)), rfl⟩
theorem qs_X5_firstTest : Cond.selects RX5 yX5_firstTest yX5_firstTest ∈ z_ws := List.mem_filter.mpr ⟨List.mem_append_right _ (List.mem_of_getElem? (i := 692) (by decide +kernel)), rfl⟩
theorem md_X5_firstTest : z_mdV yX5_firstTest cX5_firstTest 1 (some .int) 0 := ⟨⟨qn_RX5, qc_X5_firstTest, ⟨by decide +kernel, by decide +kernel, by decide +kernel⟩⟩, qi_X5_firstTest, qs_X5_firstTest⟩
theorem dX11_first_0 : decode cX11_first 0 = .ok (.aload_n 0, 1) := by decide +kernel
theorem dX11_first_1 : decode cX11_first 1 = .ok (.getfield 36, 3) := by decide +kernel
theorem dX11_first_4 : decode cX11_first 4 = .ok (.getfield 106, 3) := by decide +kernel
theorem dX11_first_7 : decode cX11_first 7 = .ok (.getfield 109, 3) := by decide +kernel
theorem dX11_first_10 : decode cX11_first 10 = .ok (.iload_n 1, 1) := by decide +kernel
theorem dX11_first_11 : decode cX11_first 11 = .ok (.invokestatic 220, 3) := by decide +kernel
theorem dX11_first_14 : decode cX11_first 14 = .ok (.ifCond .ne 5, 3) := by decide +kernel
theorem dX11_first_17 : decode cX11_first 17 = .ok (.iconst (-1), 1) := by decide +kernel
theorem dX11_first_18 : decode cX11_first 18 = .ok (.ireturn, 1) := by decide +kernel
theorem dX11_first_19 : decode cX11_first 19 = .ok (.aload_n 0, 1) := by decide +kernel
theorem dX11_first_20 : decode cX11_first 20 = .ok (.getfield 61, 3) := by decide +kernel
theorem dX11_first_23 : decode cX11_first 23 = .ok (.aload_n 0, 1) := by decide +kernel
theorem dX11_first_24 : decode cX11_first 24 = .ok (.getfield 36, 3) := by decide +kernel
theorem dX11_first_27 : decode cX11_first 27 = .ok (.getfield 106, 3) := by decide +kernel
theorem dX11_first_30 : decode cX11_first 30 = .ok (.getfield 109, 3) := by decide +kernel
theorem dX11_first_33 : decode cX11_first 33 = .ok (.iload_n 1, 1) := by decide +kernel
theorem dX11_first_34 : decode cX11_first 34 = .ok (.invokevirtual 224, 3) := by decide +kernel
theorem dX11_first_37 : decode cX11_first 37 = .ok (.aload_n 0, 1) := by decide +kernel
theorem dX11_first_38 : decode cX11_first 38 = .ok (.getfield 61, 3) := by decide +kernel
theorem dX11_first_41 : decode cX11_first 41 = .ok (.invokevirtual 230, 3) := by decide +kernel
theorem dX11_first_44 : decode cX11_first 44 = .ok (.ireturn, 1) := by decide +kernel
abbrev rm_X11_first : Room := { frames := 19, cells := 0, slots := 0, locals := 602 }
noncomputable def fX11_first (o0 : Nat) (x1 : Int32) (h : z_T) : Option (Int32 × z_T) :=
  y_gd (z_ok h o0 10) <|
  y_bi (z_R h o0 3) fun o2 =>
  y_gd (z_ok h o2 8) <|
  y_bi (z_R h o2 0) fun o4 =>
  y_gd (z_ok h o4 2) <|
  y_bi (z_R h o4 0) fun o6 =>
  y_bi (fX5_isFor o6 x1 h) fun r8 =>
  y_br (r8 = 0)
    (some ((-1 : Int32), h))
    (y_bi (z_R h o0 7) fun o13 =>
    y_gd (z_ok h o13 5) <|
    y_bi (fX5_open o13 o6 x1 h) fun h15 =>
    y_gd (z_ok h15 o0 10) <|
    y_bi (z_R h15 o0 7) fun o18 =>
    y_gd (z_ok h15 o18 5) <|
    y_bi (fX5_firstTest o18 h15) fun r20 =>
    some (r20, h15))
set_option maxHeartbeats 4000000 in
set_option maxRecDepth 100000 in
theorem mm_X11_first {G : z_Gt} (hSK : z_SK (z_S G)) (l : Launch) (ad : Nat → Nat) (o0 : Nat) (x1 : Int32) (h : z_T) {r0 : Int32} {h9 : z_T} (hv : fX11_first o0 x1 h = some (r0, h9)) : z_Mi G (z_S G) l yX11_first cX11_first 2 (.int) rm_X11_first 0 0 [.ref (ad o0), .int x1] ad h h9 r0 := by
  refine z_ofW hSK (by decide) (Nat.le_of_ble_eq_true rfl) ?_
  intro p e s m args below meth c ls hc hr hnm hB hl
  have hx := hc.1.1
  have hb := hc.1.2.1
  have hown := hc.1.2.2.2.1
  have hts := hc.1.2.2.2.2
  replace hc : z_C G (z_S G) ad (z_n h) p m c cX11_first 2 s args RX11 meth := hc
  replace hown : s.vm.findClass RX11 = some m.cls := hown
  replace hl : lv_has ls 2 [(0, .ref (ad o0)), (1, .int x1)] := hl
  show W p l e rm_X11_first s m args below meth c s.heap [] 0 0 (MQ below (z_Qi G ad h9 (z_n h) s.heap.size r0) args s 0 0 (z_A ad (z_n h) s.heap.size)) (F0 m 0 ls [])
  obtain ⟨rs, kt⟩ : ∃ rs : Int32 × z_T, rs = (r0, h9) := ⟨_, rfl⟩
  generalize hn0 : z_n h = n0 at hc hB ⊢
  rw [← kt] at hv
  refine lv_aload_n hx hb dX11_first_0 rfl (lv_at hl 0 rfl) ?_
  obtain ⟨g1, hv⟩ := y_gd_e hv
  obtain ⟨o2, eo2, hv⟩ := y_bi_e hv
  refine z_getR hc hB 10 3 g1 eo2 (by decide) (by decide) rfl (z_l1 hc qfX11_36) dX11_first_1 ?_
  obtain ⟨g3, hv⟩ := y_gd_e hv
  obtain ⟨o4, eo4, hv⟩ := y_bi_e hv
  refine z_getR hc hB 8 0 g3 eo4 (by decide) (by decide) rfl (z_l2 hc qfX11_106) dX11_first_4 ?_
  obtain ⟨g5, hv⟩ := y_gd_e hv
  obtain ⟨o6, eo6, hv⟩ := y_bi_e hv
  refine z_getR hc hB 2 0 g5 eo6 (by decide) (by decide) rfl (z_l2 hc qfX11_109) dX11_first_7 ?_
  refine lv_iload_n hx hb dX11_first_10 rfl (lv_at hl 1 rfl) ?_
  obtain ⟨r8, c7, hv⟩ := y_bi_e hv
  refine z_thI hc hB (z_runS hc hB (mm_X5_isFor hSK l ad o6 x1 h c7) md_X5_isFor qmX11_220 rfl rfl ⟨Nat.le_of_ble_eq_true rfl, Nat.le_of_ble_eq_true rfl⟩ rfl hl.1 rfl (Nat.le_of_ble_eq_true rfl) dX11_first_11 ⟨Nat.le_of_ble_eq_true rfl, Nat.le_of_ble_eq_true rfl⟩) (fun H locs hB => ?_)
  refine lv_if_ne (tgt := 19) hx hb dX11_first_14 (by decide) (fun c12 => ?_) (fun c12 => ?_)
  · replace hv := y_br_f hv c12
    refine lv_aload_n hx hb dX11_first_19 rfl (lv_at hl 0 rfl) ?_
    obtain ⟨o13, eo13, hv⟩ := y_bi_e hv
    refine z_getR hc hB 10 7 g1 eo13 (by decide) (by decide) rfl (z_l1 hc qfX11_61) dX11_first_20 ?_
    refine lv_aload_n hx hb dX11_first_23 rfl (lv_at hl 0 rfl) ?_
    refine z_getR hc hB 10 3 g1 eo2 (by decide) (by decide) rfl (z_l1 hc qfX11_36) dX11_first_24 ?_
    refine z_getR hc hB 8 0 g3 eo4 (by decide) (by decide) rfl (z_l2 hc qfX11_106) dX11_first_27 ?_
    refine z_getR hc hB 2 0 g5 eo6 (by decide) (by decide) rfl (z_l2 hc qfX11_109) dX11_first_30 ?_
    refine lv_iload_n hx hb dX11_first_33 rfl (lv_at hl 1 rfl) ?_
    obtain ⟨g16, hv⟩ := y_gd_e hv
    obtain ⟨h15, c14, hv⟩ := y_bi_e hv
    refine z_thV hc hB (z_runV hc hB 5 (mm_X5_open hSK l ad o13 o6 x1 h c14) md_X5_open qmX11_224 g16 (by decide) rfl rfl rfl ⟨Nat.le_of_ble_eq_true rfl, Nat.le_of_ble_eq_true rfl⟩ rfl hl.1 rfl (Nat.le_of_ble_eq_true rfl) dX11_first_34 ⟨Nat.le_of_ble_eq_true rfl, Nat.le_of_ble_eq_true rfl⟩) (fun H locs hB => ?_)
    refine lv_aload_n hx hb dX11_first_37 rfl (lv_at hl 0 rfl) ?_
    obtain ⟨g17, hv⟩ := y_gd_e hv
    obtain ⟨o18, eo18, hv⟩ := y_bi_e hv
    refine z_getR hc hB 10 7 g17 eo18 (by decide) (by decide) rfl (z_l1 hc qfX11_61) dX11_first_38 ?_
    obtain ⟨g24, hv⟩ := y_gd_e hv
    obtain ⟨r20, c19, hv⟩ := y_bi_e hv
    refine z_thI hc hB (z_runV hc hB 5 (mm_X5_firstTest hSK l ad o18 h15 c19) md_X5_firstTest qmX11_230 g24 (by decide) rfl rfl rfl ⟨Nat.le_of_ble_eq_true rfl, Nat.le_of_ble_eq_true rfl⟩ rfl hl.1 rfl (Nat.le_of_ble_eq_true rfl) dX11_first_41 ⟨Nat.le_of_ble_eq_true rfl, Nat.le_of_ble_eq_true rfl⟩) (fun H locs hB => ?_)
    replace hv := Option.some.inj hv
    subst hv
    obtain ⟨e1, e2⟩ := y_pr kt
    rw [← e1, ← e2]
    exact z_iret hc hB hr dX11_first_44
  · replace hv := y_br_t hv c12
    refine lv_iconst (v := (-1 : Int32)) hx hb dX11_first_17 (by decide) ?_
    replace hv := Option.some.inj hv
    subst hv
    obtain ⟨e1, e2⟩ := y_pr kt
    rw [← e1, ← e2]
    exact z_iret hc hB hr dX11_first_18
theorem qfX11_19 : Cond.fieldLink RX11 19 "DreamTests" "text" "LDreamTests$Bytes;" ∈ z_ws := List.mem_filter.mpr ⟨List.mem_append_right _ (List.mem_of_getElem? (i := 288) (by decide +kernel)), rfl⟩
theorem qmX11_236 : Cond.methodLink RX11 236 yX1_at ∈ z_ws := List.mem_filter.mpr ⟨List.mem_append_right _ (List.mem_of_getElem? (i := 775) (by decide +kernel)), rfl⟩
theorem dX11_byteAt_0 : decode cX11_byteAt 0 = .ok (.iload_n 1, 1) := by decide +kernel
theorem dX11_byteAt_1 : decode cX11_byteAt 1 = .ok (.ifCond .lt 25, 3) := by decide +kernel
theorem dX11_byteAt_4 : decode cX11_byteAt 4 = .ok (.iload_n 1, 1) := by decide +kernel
theorem dX11_byteAt_5 : decode cX11_byteAt 5 = .ok (.aload_n 0, 1) := by decide +kernel
theorem dX11_byteAt_6 : decode cX11_byteAt 6 = .ok (.getfield 19, 3) := by decide +kernel
theorem dX11_byteAt_9 : decode cX11_byteAt 9 = .ok (.getfield 80, 3) := by decide +kernel
theorem dX11_byteAt_12 : decode cX11_byteAt 12 = .ok (.if_icmp .ge 14, 3) := by decide +kernel
theorem dX11_byteAt_15 : decode cX11_byteAt 15 = .ok (.aload_n 0, 1) := by decide +kernel
theorem dX11_byteAt_16 : decode cX11_byteAt 16 = .ok (.getfield 19, 3) := by decide +kernel
theorem dX11_byteAt_19 : decode cX11_byteAt 19 = .ok (.iload_n 1, 1) := by decide +kernel
theorem dX11_byteAt_20 : decode cX11_byteAt 20 = .ok (.invokevirtual 236, 3) := by decide +kernel
theorem dX11_byteAt_23 : decode cX11_byteAt 23 = .ok (.goto 4, 3) := by decide +kernel
theorem dX11_byteAt_26 : decode cX11_byteAt 26 = .ok (.iconst (-1), 1) := by decide +kernel
theorem dX11_byteAt_27 : decode cX11_byteAt 27 = .ok (.ireturn, 1) := by decide +kernel
abbrev rm_X11_byteAt : Room := { frames := 1, cells := 0, slots := 0, locals := 21 }
noncomputable def fX11_byteAt_b26  (h : z_T) : Option (Int32) :=
  some (-1 : Int32)
noncomputable def fX11_byteAt (o0 : Nat) (x1 : Int32) (h : z_T) : Option (Int32) :=
  y_br (x1 < 0)
    (fX11_byteAt_b26 h)
    (y_gd (z_ok h o0 10) <|
    y_bi (z_R h o0 1) fun o3 =>
    y_gd (z_ok h o3 1) <|
    y_br ((z_I h o3 1) ≤ x1)
      (fX11_byteAt_b26 h)
      (y_bi (fX1_at o3 x1 h) fun r7 =>
      some r7))
set_option maxHeartbeats 4000000 in
set_option maxRecDepth 100000 in
theorem mm_X11_byteAt {G : z_Gt} (hSK : z_SK (z_S G)) (l : Launch) (ad : Nat → Nat) (o0 : Nat) (x1 : Int32) (h : z_T) {r0 : Int32} (hv : fX11_byteAt o0 x1 h = some r0) : z_Mi G (z_S G) l yX11_byteAt cX11_byteAt 2 (.int) rm_X11_byteAt 0 0 [.ref (ad o0), .int x1] ad h h r0 := by
  refine z_ofW hSK (by decide) (Nat.le_of_ble_eq_true rfl) ?_
  intro p e s m args below meth c ls hc hr hnm hB hl
  have hx := hc.1.1
  have hb := hc.1.2.1
  have hown := hc.1.2.2.2.1
  have hts := hc.1.2.2.2.2
  replace hc : z_C G (z_S G) ad (z_n h) p m c cX11_byteAt 2 s args RX11 meth := hc
  replace hown : s.vm.findClass RX11 = some m.cls := hown
  replace hl : lv_has ls 2 [(0, .ref (ad o0)), (1, .int x1)] := hl
  show W p l e rm_X11_byteAt s m args below meth c s.heap [] 0 0 (MQ below (z_Qi G ad h (z_n h) s.heap.size r0) args s 0 0 (z_A ad (z_n h) s.heap.size)) (F0 m 0 ls [])
  obtain ⟨rs, kt⟩ : ∃ rs : Int32, rs = r0 := ⟨_, rfl⟩
  generalize hn0 : z_n h = n0 at hc hB ⊢
  have b26 : ∀ (H : Heap) (locs : List Loc) (ls : Array Slot), z_B G ad n0 s h H locs → lv_has ls 2 [] → ∀ w, fX11_byteAt_b26 h = some w → w = r0 → W p l e rm_X11_byteAt s m args below meth c H locs 0 0 (MQ below (z_Qi G ad h n0 s.heap.size r0) args s 0 0 (z_A ad n0 s.heap.size)) (F0 m 26 ls []) := by
    intro H locs ls hB hl w hv kb
    refine lv_iconst (v := (-1 : Int32)) hx hb dX11_byteAt_26 (by decide) ?_
    replace hv := Option.some.inj hv
    subst hv
    rw [← kb]
    exact z_iret hc hB hr dX11_byteAt_27
  rw [← kt] at hv
  refine lv_iload_n hx hb dX11_byteAt_0 rfl (lv_at hl 1 rfl) ?_
  refine lv_if_lt (tgt := 26) hx hb dX11_byteAt_1 (by decide) (fun c1 => ?_) (fun c1 => ?_)
  · replace hv := y_br_t hv c1
    exact b26 _ _ _ hB (lv_sub hl [] rfl) _ hv kt
  · replace hv := y_br_f hv c1
    refine lv_iload_n hx hb dX11_byteAt_4 rfl (lv_at hl 1 rfl) ?_
    refine lv_aload_n hx hb dX11_byteAt_5 rfl (lv_at hl 0 rfl) ?_
    obtain ⟨g2, hv⟩ := y_gd_e hv
    obtain ⟨o3, eo3, hv⟩ := y_bi_e hv
    refine z_getR hc hB 10 1 g2 eo3 (by decide) (by decide) rfl (z_l1 hc qfX11_19) dX11_byteAt_6 ?_
    obtain ⟨g4, hv⟩ := y_gd_e hv
    refine z_getI hc hB 1 1 g4 (by decide) (by decide) rfl (z_l2 hc qfX11_80) dX11_byteAt_9 ?_
    refine lv_icmp_ge (tgt := 26) hx hb dX11_byteAt_12 (by decide) (fun c5 => ?_) (fun c5 => ?_)
    · replace hv := y_br_t hv c5
      exact b26 _ _ _ hB (lv_sub hl [] rfl) _ hv kt
    · replace hv := y_br_f hv c5
      refine lv_aload_n hx hb dX11_byteAt_15 rfl (lv_at hl 0 rfl) ?_
      refine z_getR hc hB 10 1 g2 eo3 (by decide) (by decide) rfl (z_l1 hc qfX11_19) dX11_byteAt_16 ?_
      refine lv_iload_n hx hb dX11_byteAt_19 rfl (lv_at hl 1 rfl) ?_
      obtain ⟨r7, c6, hv⟩ := y_bi_e hv
      refine z_thI hc hB (z_runV hc hB 1 (mm_X1_at hSK l ad o3 x1 h c6) md_X1_at qmX11_236 g4 (by decide) rfl rfl rfl ⟨Nat.le_of_ble_eq_true rfl, Nat.le_of_ble_eq_true rfl⟩ rfl hl.1 rfl (Nat.le_of_ble_eq_true rfl) dX11_byteAt_20 ⟨Nat.le_of_ble_eq_true rfl, Nat.le_of_ble_eq_true rfl⟩) (fun H locs hB => ?_)
      refine lv_goto (tgt := 27) hx hb dX11_byteAt_23 (by decide) ?_
      replace hv := Option.some.inj hv
      subst hv
      rw [← kt]
      exact z_iret hc hB hr dX11_byteAt_27
