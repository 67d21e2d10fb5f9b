/-! the methods of the reference: the rows that decode, a function each, the walk (by gen3.py) -/
theorem dX12_share_0 : decode cX12_share 0 = .ok (.aload_n 0, 1) := by decide +kernel
theorem dX12_share_1 : decode cX12_share 1 = .ok (.aload_n 0, 1) := by decide +kernel
theorem dX12_share_2 : decode cX12_share 2 = .ok (.iload_n 1, 1) := by decide +kernel
theorem dX12_share_3 : decode cX12_share 3 = .ok (.invokevirtual 241, 3) := by decide +kernel
theorem dX12_share_6 : decode cX12_share 6 = .ok (.ifCond .eq 17, 3) := by decide +kernel
theorem dX12_share_9 : decode cX12_share 9 = .ok (.iload_n 2, 1) := by decide +kernel
theorem dX12_share_10 : decode cX12_share 10 = .ok (.invokestatic 275, 3) := by decide +kernel
theorem dX12_share_13 : decode cX12_share 13 = .ok (.ifCond .eq 10, 3) := by decide +kernel
theorem dX12_share_16 : decode cX12_share 16 = .ok (.aload_n 0, 1) := by decide +kernel
theorem dX12_share_17 : decode cX12_share 17 = .ok (.invokevirtual 381, 3) := by decide +kernel
theorem dX12_share_20 : decode cX12_share 20 = .ok (.ifCond .ne 7, 3) := by decide +kernel
theorem dX12_share_23 : decode cX12_share 23 = .ok (.iconst 1, 1) := by decide +kernel
theorem dX12_share_24 : decode cX12_share 24 = .ok (.goto 4, 3) := by decide +kernel
theorem dX12_share_27 : decode cX12_share 27 = .ok (.iconst 0, 1) := by decide +kernel
theorem dX12_share_28 : decode cX12_share 28 = .ok (.invokevirtual 278, 3) := by decide +kernel
theorem dX12_share_31 : decode cX12_share 31 = .ok (.ifCond .eq 5, 3) := by decide +kernel
theorem dX12_share_34 : decode cX12_share 34 = .ok (.lconst 0, 1) := by decide +kernel
theorem dX12_share_35 : decode cX12_share 35 = .ok (.lreturn, 1) := by decide +kernel
theorem dX12_share_36 : decode cX12_share 36 = .ok (.aload_n 0, 1) := by decide +kernel
theorem dX12_share_37 : decode cX12_share 37 = .ok (.getfield 368, 3) := by decide +kernel
theorem dX12_share_40 : decode cX12_share 40 = .ok (.iload_n 1, 1) := by decide +kernel
theorem dX12_share_41 : decode cX12_share 41 = .ok (.invokestatic 210, 3) := by decide +kernel
theorem dX12_share_44 : decode cX12_share 44 = .ok (.ifCond .eq 23, 3) := by decide +kernel
theorem dX12_share_47 : decode cX12_share 47 = .ok (.sipush 2520, 3) := by decide +kernel
theorem dX12_share_50 : decode cX12_share 50 = .ok (.bipush 9, 2) := by decide +kernel
theorem dX12_share_52 : decode cX12_share 52 = .ok (.aload_n 0, 1) := by decide +kernel
theorem dX12_share_53 : decode cX12_share 53 = .ok (.getfield 33, 3) := by decide +kernel
theorem dX12_share_56 : decode cX12_share 56 = .ok (.bipush 16, 2) := by decide +kernel
theorem dX12_share_58 : decode cX12_share 58 = .ok (.iload_n 1, 1) := by decide +kernel
theorem dX12_share_59 : decode cX12_share 59 = .ok (.iadd, 1) := by decide +kernel
theorem dX12_share_60 : decode cX12_share 60 = .ok (.iaload, 1) := by decide +kernel
theorem dX12_share_61 : decode cX12_share 61 = .ok (.isub, 1) := by decide +kernel
theorem dX12_share_62 : decode cX12_share 62 = .ok (.idiv, 1) := by decide +kernel
theorem dX12_share_63 : decode cX12_share 63 = .ok (.i2l, 1) := by decide +kernel
theorem dX12_share_64 : decode cX12_share 64 = .ok (.goto 4, 3) := by decide +kernel
theorem dX12_share_67 : decode cX12_share 67 = .ok (.lconst 0, 1) := by decide +kernel
theorem dX12_share_68 : decode cX12_share 68 = .ok (.aload_n 0, 1) := by decide +kernel
theorem dX12_share_69 : decode cX12_share 69 = .ok (.getfield 374, 3) := by decide +kernel
theorem dX12_share_72 : decode cX12_share 72 = .ok (.ldc2_w 379, 3) := by decide +kernel
theorem dX12_share_75 : decode cX12_share 75 = .ok (.ldiv, 1) := by decide +kernel
theorem dX12_share_76 : decode cX12_share 76 = .ok (.iload_n 2, 1) := by decide +kernel
theorem dX12_share_77 : decode cX12_share 77 = .ok (.invokestatic 282, 3) := by decide +kernel
theorem dX12_share_80 : decode cX12_share 80 = .ok (.lreturn, 1) := by decide +kernel
abbrev rm_X12_share : Room := { frames := 2, cells := 0, slots := 0, locals := 53 }
noncomputable def fX12_share_b68 (o0 : Nat) (x2 : Int32) (s0 : Int64) (h : z_T) : Option (Int64 × z_T) :=
  y_gd (z_ok h o0 11) <|
  y_gd (!decide ((9 : Int64) = 0)) <|
  y_bi (fX12_part s0 ((z_L h o0 39) / (9 : Int64)) x2) fun r5 =>
  some (r5, h)
noncomputable def fX12_share_b28 (o0 : Nat) (x1 : Int32) (x2 : Int32) (s0 : Nat) (s1 : Int32) (h : z_T) : Option (Int64 × z_T) :=
  y_gd (z_ok h s0 11) <|
  y_bi (fX12_throwsIf s0 s1 h) fun ⟨r9, h13⟩ =>
  y_br (r9 = 0)
    (y_gd (z_ok h13 o0 11) <|
    y_bi (fX12_bitOf (z_I h13 o0 40) x1) fun r18 =>
    y_br (r18 = 0)
      (fX12_share_b68 o0 x2 (0 : Int64) h13)
      (y_bi (z_R h13 o0 6) fun o23 =>
      y_gd (z_ok h13 o23 13) <|
      y_gd (z_ix ((16 : Int32) + x1) (z_N h13 o23)) <|
      y_gd (!decide (((9 : Int32) - (z_I h13 o23 ((16 : Int32) + x1).toNatClampNeg)) = 0)) <|
      fX12_share_b68 o0 x2 ((((2520 : Int32) / ((9 : Int32) - (z_I h13 o23 ((16 : Int32) + x1).toNatClampNeg)))).toInt64) h13))
    (some ((0 : Int64), h13))
noncomputable def fX12_share_b23 (o0 : Nat) (x1 : Int32) (x2 : Int32) (s0 : Nat) (h : z_T) : Option (Int64 × z_T) :=
  fX12_share_b28 o0 x1 x2 s0 (1 : Int32) h
noncomputable def fX12_share (o0 : Nat) (x1 : Int32) (x2 : Int32) (h : z_T) : Option (Int64 × z_T) :=
  y_gd (z_ok h o0 11) <|
  y_bi (fX12_isTest o0 x1 h) fun r28 =>
  y_br (r28 = 0)
    (fX12_share_b23 o0 x1 x2 o0 h)
    (y_bi (fX12_isPart x2) fun r35 =>
    y_br (r35 = 0)
      (fX12_share_b23 o0 x1 x2 o0 h)
      (y_bi (fX12_hasLot o0 h) fun ⟨r41, h45⟩ =>
      y_br (r41 = 0)
        (fX12_share_b23 o0 x1 x2 o0 h45)
        (fX12_share_b28 o0 x1 x2 o0 (0 : Int32) h45)))
set_option maxHeartbeats 4000000 in
set_option maxRecDepth 100000 in
theorem mm_X12_share {G : z_Gt} {S : State → Prop} (hSK : z_SK S) (l : Launch) (ad : Nat → Nat) (o0 : Nat) (x1 : Int32) (x2 : Int32) (h : z_T) {r0 : Int64} {h9 : z_T} (hv : fX12_share o0 x1 x2 h = some (r0, h9)) : z_Ml G S l yX12_share cX12_share 3 (.long) rm_X12_share 0 0 [.ref (ad o0), .int x1, .int x2] ad h h9 r0 := by
  refine z_ofW hSK (by decide) (Nat.le_of_ble_eq_true rfl) ?_
  intro p e s m args below meth c ls hc hr hnm hB hl
  have hx := hc.1.1
  have hb := hc.1.2.1
  have hown := hc.1.2.2.2.1
  have hts := hc.1.2.2.2.2
  replace hc : z_C G S ad (z_n h) p m c cX12_share 3 s args RX12 meth := hc
  replace hown : s.vm.findClass RX12 = some m.cls := hown
  replace hl : lv_has ls 3 [(0, .ref (ad o0)), (1, .int x1), (2, .int x2)] := hl
  show W p l e rm_X12_share s m args below meth c s.heap [] 0 0 (MQ below (z_Ql G ad h9 (z_n h) s.heap.size r0) args s 0 0 (z_A ad (z_n h) s.heap.size)) (F0 m 0 ls [])
  obtain ⟨rs, kt⟩ : ∃ rs : Int64 × z_T, rs = (r0, h9) := ⟨_, rfl⟩
  generalize hn0 : z_n h = n0 at hc hB ⊢
  have b68 : ∀ (s0 : Int64) (h : z_T) (H : Heap) (locs : List Loc) (ls : Array Slot), z_B G ad n0 s h H locs → lv_has ls 3 [(0, .ref (ad o0)), (2, .int x2)] → ∀ w, fX12_share_b68 o0 x2 s0 h = some w → w = (r0, h9) → W p l e rm_X12_share s m args below meth c H locs 0 0 (MQ below (z_Ql G ad h9 n0 s.heap.size r0) args s 0 0 (z_A ad n0 s.heap.size)) (F0 m 68 ls [.long s0]) := by
    intro s0 h H locs ls hB hl w hv kb
    refine lv_aload_n hx hb dX12_share_68 rfl (lv_at hl 0 rfl) ?_
    obtain ⟨g1, hv⟩ := y_gd_e hv
    refine z_getL hc hB 11 39 g1 (by decide) (by decide) rfl (z_l1 hc qfX12_374) dX12_share_69 ?_
    refine lv_ldc2 (v := (9 : Int64)) hx hb hown (hts _ qkX12_379) dX12_share_72 ?_
    obtain ⟨z2, hv⟩ := y_gd_e hv
    refine lv_ldiv hx hb dX12_share_75 (y_neL z2) ?_
    refine lv_iload_n hx hb dX12_share_76 rfl (lv_at hl 1 rfl) ?_
    obtain ⟨r5, c3, hv⟩ := y_bi_e hv
    refine z_thL hc hB (z_runS hc hB (mm_X12_part hSK l ad s0 ((z_L h o0 39) / (9 : Int64)) x2 h c3) md_X12_part qmX12_282 rfl rfl ⟨Nat.le_of_ble_eq_true rfl, Nat.le_of_ble_eq_true rfl⟩ rfl hl.1 rfl (Nat.le_of_ble_eq_true rfl) dX12_share_77 ⟨Nat.le_of_ble_eq_true rfl, Nat.le_of_ble_eq_true rfl⟩) (fun H locs hB => ?_)
    replace hv := Option.some.inj hv
    subst hv
    obtain ⟨e1, e2⟩ := y_pr kb
    rw [← e1, ← e2]
    exact z_lret hc hB hr dX12_share_80
  have b28 : ∀ (s0 : Nat) (s1 : Int32) (h : z_T) (H : Heap) (locs : List Loc) (ls : Array Slot), z_B G ad n0 s h H locs → lv_has ls 3 [(0, .ref (ad o0)), (1, .int x1), (2, .int x2)] → ∀ w, fX12_share_b28 o0 x1 x2 s0 s1 h = some w → w = (r0, h9) → W p l e rm_X12_share s m args below meth c H locs 0 0 (MQ below (z_Ql G ad h9 n0 s.heap.size r0) args s 0 0 (z_A ad n0 s.heap.size)) (F0 m 28 ls [.int s1, .ref (ad s0)]) := by
    intro s0 s1 h H locs ls hB hl w hv kb
    obtain ⟨g14, hv⟩ := y_gd_e hv
    obtain ⟨⟨r9, h13⟩, c8, hv⟩ := y_bi_e hv
    refine z_thI hc hB (z_runV hc hB 11 (mm_X12_throwsIf hSK l ad s0 s1 h c8) md_X12_throwsIf qmX12_278 g14 (by decide) rfl rfl rfl ⟨Nat.le_of_ble_eq_true rfl, Nat.le_of_ble_eq_true rfl⟩ rfl hl.1 rfl (Nat.le_of_ble_eq_true rfl) dX12_share_28 ⟨Nat.le_of_ble_eq_true rfl, Nat.le_of_ble_eq_true rfl⟩) (fun H locs hB => ?_)
    refine lv_if_eq (tgt := 36) hx hb dX12_share_31 (by decide) (fun c15 => ?_) (fun c15 => ?_)
    · replace hv := y_br_t hv c15
      refine lv_aload_n hx hb dX12_share_36 rfl (lv_at hl 0 rfl) ?_
      obtain ⟨g16, hv⟩ := y_gd_e hv
      refine z_getI hc hB 11 40 g16 (by decide) (by decide) rfl (z_l1 hc qfX12_368) dX12_share_37 ?_
      refine lv_iload_n hx hb dX12_share_40 rfl (lv_at hl 1 rfl) ?_
      obtain ⟨r18, c17, hv⟩ := y_bi_e hv
      refine z_thI hc hB (z_runS hc hB (mm_X12_bitOf hSK l ad (z_I h13 o0 40) x1 h13 c17) md_X12_bitOf qmX12_210 rfl rfl ⟨Nat.le_of_ble_eq_true rfl, Nat.le_of_ble_eq_true rfl⟩ rfl hl.1 rfl (Nat.le_of_ble_eq_true rfl) dX12_share_41 ⟨Nat.le_of_ble_eq_true rfl, Nat.le_of_ble_eq_true rfl⟩) (fun H locs hB => ?_)
      refine lv_if_eq (tgt := 67) hx hb dX12_share_44 (by decide) (fun c22 => ?_) (fun c22 => ?_)
      · replace hv := y_br_t hv c22
        refine lv_lconst (v := (0 : Int64)) hx hb dX12_share_67 (by decide) ?_
        exact b68 (0 : Int64) h13 _ _ _ hB (lv_sub hl [0, 2] rfl) _ hv kb
      · replace hv := y_br_f hv c22
        refine lv_sipush (v := (2520 : Int32)) hx hb dX12_share_47 (by decide) ?_
        refine lv_bipush (v := (9 : Int32)) hx hb dX12_share_50 (by decide) ?_
        refine lv_aload_n hx hb dX12_share_52 rfl (lv_at hl 0 rfl) ?_
        obtain ⟨o23, eo23, hv⟩ := y_bi_e hv
        refine z_getR hc hB 11 6 g16 eo23 (by decide) (by decide) rfl (z_l1 hc qfX12_33) dX12_share_53 ?_
        refine lv_bipush (v := (16 : Int32)) hx hb dX12_share_56 (by decide) ?_
        refine lv_iload_n hx hb dX12_share_58 rfl (lv_at hl 1 rfl) ?_
        refine lv_iadd hx hb dX12_share_59 ?_
        obtain ⟨g24, hv⟩ := y_gd_e hv
        obtain ⟨i25, hv⟩ := y_gd_e hv
        refine z_iald hc hB g24 i25 dX12_share_60 ?_
        refine lv_isub hx hb dX12_share_61 ?_
        obtain ⟨z26, hv⟩ := y_gd_e hv
        refine lv_idiv hx hb dX12_share_62 (y_ne z26) ?_
        refine lv_i2l hx hb dX12_share_63 rfl ?_
        refine lv_goto (tgt := 68) hx hb dX12_share_64 (by decide) ?_
        exact b68 ((((2520 : Int32) / ((9 : Int32) - (z_I h13 o23 ((16 : Int32) + x1).toNatClampNeg)))).toInt64) h13 _ _ _ hB (lv_sub hl [0, 2] rfl) _ hv kb
    · replace hv := y_br_f hv c15
      refine lv_lconst (v := (0 : Int64)) hx hb dX12_share_34 (by decide) ?_
      replace hv := Option.some.inj hv
      subst hv
      obtain ⟨e1, e2⟩ := y_pr kb
      rw [← e1, ← e2]
      exact z_lret hc hB hr dX12_share_35
  have b23 : ∀ (s0 : Nat) (h : z_T) (H : Heap) (locs : List Loc) (ls : Array Slot), z_B G ad n0 s h H locs → lv_has ls 3 [(0, .ref (ad o0)), (1, .int x1), (2, .int x2)] → ∀ w, fX12_share_b23 o0 x1 x2 s0 h = some w → w = (r0, h9) → W p l e rm_X12_share s m args below meth c H locs 0 0 (MQ below (z_Ql G ad h9 n0 s.heap.size r0) args s 0 0 (z_A ad n0 s.heap.size)) (F0 m 23 ls [.ref (ad s0)]) := by
    intro s0 h H locs ls hB hl w hv kb
    refine lv_iconst (v := (1 : Int32)) hx hb dX12_share_23 (by decide) ?_
    refine lv_goto (tgt := 28) hx hb dX12_share_24 (by decide) ?_
    exact b28 s0 (1 : Int32) h _ _ _ hB (lv_sub hl [0, 1, 2] rfl) _ hv kb
  rw [← kt] at hv
  refine lv_aload_n hx hb dX12_share_0 rfl (lv_at hl 0 rfl) ?_
  refine lv_aload_n hx hb dX12_share_1 rfl (lv_at hl 0 rfl) ?_
  refine lv_iload_n hx hb dX12_share_2 rfl (lv_at hl 1 rfl) ?_
  obtain ⟨g32, hv⟩ := y_gd_e hv
  obtain ⟨r28, c27, hv⟩ := y_bi_e hv
  refine z_thI hc hB (z_runV hc hB 11 (mm_X12_isTest hSK l ad o0 x1 h c27) md_X12_isTest qmX12_241 g32 (by decide) rfl rfl rfl ⟨Nat.le_of_ble_eq_true rfl, Nat.le_of_ble_eq_true rfl⟩ rfl hl.1 rfl (Nat.le_of_ble_eq_true rfl) dX12_share_3 ⟨Nat.le_of_ble_eq_true rfl, Nat.le_of_ble_eq_true rfl⟩) (fun H locs hB => ?_)
  refine lv_if_eq (tgt := 23) hx hb dX12_share_6 (by decide) (fun c33 => ?_) (fun c33 => ?_)
  · replace hv := y_br_t hv c33
    exact b23 o0 h _ _ _ hB (lv_sub hl [0, 1, 2] rfl) _ hv kt
  · replace hv := y_br_f hv c33
    refine lv_iload_n hx hb dX12_share_9 rfl (lv_at hl 2 rfl) ?_
    obtain ⟨r35, c34, hv⟩ := y_bi_e hv
    refine z_thI hc hB (z_runS hc hB (mm_X12_isPart hSK l ad x2 h c34) md_X12_isPart qmX12_275 rfl rfl ⟨Nat.le_of_ble_eq_true rfl, Nat.le_of_ble_eq_true rfl⟩ rfl hl.1 rfl (Nat.le_of_ble_eq_true rfl) dX12_share_10 ⟨Nat.le_of_ble_eq_true rfl, Nat.le_of_ble_eq_true rfl⟩) (fun H locs hB => ?_)
    refine lv_if_eq (tgt := 23) hx hb dX12_share_13 (by decide) (fun c39 => ?_) (fun c39 => ?_)
    · replace hv := y_br_t hv c39
      exact b23 o0 h _ _ _ hB (lv_sub hl [0, 1, 2] rfl) _ hv kt
    · replace hv := y_br_f hv c39
      refine lv_aload_n hx hb dX12_share_16 rfl (lv_at hl 0 rfl) ?_
      obtain ⟨⟨r41, h45⟩, c40, hv⟩ := y_bi_e hv
      refine z_thI hc hB (z_runV hc hB 11 (mm_X12_hasLot hSK l ad o0 h c40) md_X12_hasLot qmX12_381 g32 (by decide) rfl rfl rfl ⟨Nat.le_of_ble_eq_true rfl, Nat.le_of_ble_eq_true rfl⟩ rfl hl.1 rfl (Nat.le_of_ble_eq_true rfl) dX12_share_17 ⟨Nat.le_of_ble_eq_true rfl, Nat.le_of_ble_eq_true rfl⟩) (fun H locs hB => ?_)
      refine lv_if_ne (tgt := 27) hx hb dX12_share_20 (by decide) (fun c46 => ?_) (fun c46 => ?_)
      · replace hv := y_br_f hv c46
        refine lv_iconst (v := (0 : Int32)) hx hb dX12_share_27 (by decide) ?_
        exact b28 o0 (0 : Int32) h45 _ _ _ hB (lv_sub hl [0, 1, 2] rfl) _ hv kt
      · replace hv := y_br_t hv c46
        exact b23 o0 h45 _ _ _ hB (lv_sub hl [0, 1, 2] rfl) _ hv kt
theorem dX12_next_0 : decode cX12_next 0 = .ok (.aload_n 0, 1) := by decide +kernel
theorem dX12_next_1 : decode cX12_next 1 = .ok (.iconst 0, 1) := by decide +kernel
theorem dX12_next_2 : decode cX12_next 2 = .ok (.putfield 1, 3) := by decide +kernel
theorem dX12_next_5 : decode cX12_next 5 = .ok (.aload_n 0, 1) := by decide +kernel
theorem dX12_next_6 : decode cX12_next 6 = .ok (.getfield 33, 3) := by decide +kernel
theorem dX12_next_9 : decode cX12_next 9 = .ok (.bipush 36, 2) := by decide +kernel
theorem dX12_next_11 : decode cX12_next 11 = .ok (.iaload, 1) := by decide +kernel
theorem dX12_next_12 : decode cX12_next 12 = .ok (.bipush 12, 2) := by decide +kernel
theorem dX12_next_14 : decode cX12_next 14 = .ok (.if_icmp .ne 5, 3) := by decide +kernel
theorem dX12_next_17 : decode cX12_next 17 = .ok (.iconst (-1), 1) := by decide +kernel
theorem dX12_next_18 : decode cX12_next 18 = .ok (.ireturn, 1) := by decide +kernel
theorem dX12_next_19 : decode cX12_next 19 = .ok (.iconst (-1), 1) := by decide +kernel
theorem dX12_next_20 : decode cX12_next 20 = .ok (.istore_n 1, 1) := by decide +kernel
theorem dX12_next_21 : decode cX12_next 21 = .ok (.lconst 0, 1) := by decide +kernel
theorem dX12_next_22 : decode cX12_next 22 = .ok (.lstore_n 2, 1) := by decide +kernel
theorem dX12_next_23 : decode cX12_next 23 = .ok (.aload_n 0, 1) := by decide +kernel
theorem dX12_next_24 : decode cX12_next 24 = .ok (.aload_n 0, 1) := by decide +kernel
theorem dX12_next_25 : decode cX12_next 25 = .ok (.getfield 33, 3) := by decide +kernel
theorem dX12_next_28 : decode cX12_next 28 = .ok (.bipush 36, 2) := by decide +kernel
theorem dX12_next_30 : decode cX12_next 30 = .ok (.iaload, 1) := by decide +kernel
theorem dX12_next_31 : decode cX12_next 31 = .ok (.invokevirtual 264, 3) := by decide +kernel
theorem dX12_next_34 : decode cX12_next 34 = .ok (.pop2, 1) := by decide +kernel
theorem dX12_next_35 : decode cX12_next 35 = .ok (.iconst 0, 1) := by decide +kernel
theorem dX12_next_36 : decode cX12_next 36 = .ok (.istore 4, 2) := by decide +kernel
theorem dX12_next_38 : decode cX12_next 38 = .ok (.iload 4, 2) := by decide +kernel
theorem dX12_next_40 : decode cX12_next 40 = .ok (.aload_n 0, 1) := by decide +kernel
theorem dX12_next_41 : decode cX12_next 41 = .ok (.getfield 33, 3) := by decide +kernel
theorem dX12_next_44 : decode cX12_next 44 = .ok (.iconst 0, 1) := by decide +kernel
theorem dX12_next_45 : decode cX12_next 45 = .ok (.iaload, 1) := by decide +kernel
theorem dX12_next_46 : decode cX12_next 46 = .ok (.if_icmp .ge 167, 3) := by decide +kernel
theorem dX12_next_49 : decode cX12_next 49 = .ok (.lconst 0, 1) := by decide +kernel
theorem dX12_next_50 : decode cX12_next 50 = .ok (.lstore 5, 2) := by decide +kernel
theorem dX12_next_52 : decode cX12_next 52 = .ok (.iconst 0, 1) := by decide +kernel
theorem dX12_next_53 : decode cX12_next 53 = .ok (.istore 7, 2) := by decide +kernel
theorem dX12_next_55 : decode cX12_next 55 = .ok (.iload 7, 2) := by decide +kernel
theorem dX12_next_57 : decode cX12_next 57 = .ok (.iconst 2, 1) := by decide +kernel
theorem dX12_next_58 : decode cX12_next 58 = .ok (.if_icmp .ge 129, 3) := by decide +kernel
theorem dX12_next_61 : decode cX12_next 61 = .ok (.lconst 0, 1) := by decide +kernel
theorem dX12_next_62 : decode cX12_next 62 = .ok (.lstore 8, 2) := by decide +kernel
theorem dX12_next_64 : decode cX12_next 64 = .ok (.lconst 0, 1) := by decide +kernel
theorem dX12_next_65 : decode cX12_next 65 = .ok (.lstore 10, 2) := by decide +kernel
theorem dX12_next_67 : decode cX12_next 67 = .ok (.iconst 0, 1) := by decide +kernel
theorem dX12_next_68 : decode cX12_next 68 = .ok (.istore 12, 2) := by decide +kernel
theorem dX12_next_70 : decode cX12_next 70 = .ok (.iload 12, 2) := by decide +kernel
theorem dX12_next_72 : decode cX12_next 72 = .ok (.aload_n 0, 1) := by decide +kernel
theorem dX12_next_73 : decode cX12_next 73 = .ok (.invokevirtual 253, 3) := by decide +kernel
theorem dX12_next_76 : decode cX12_next 76 = .ok (.if_icmp .ge 85, 3) := by decide +kernel
theorem dX12_next_79 : decode cX12_next 79 = .ok (.aload_n 0, 1) := by decide +kernel
theorem dX12_next_80 : decode cX12_next 80 = .ok (.iload 12, 2) := by decide +kernel
theorem dX12_next_82 : decode cX12_next 82 = .ok (.iload 4, 2) := by decide +kernel
theorem dX12_next_84 : decode cX12_next 84 = .ok (.aload_n 0, 1) := by decide +kernel
theorem dX12_next_85 : decode cX12_next 85 = .ok (.getfield 33, 3) := by decide +kernel
theorem dX12_next_88 : decode cX12_next 88 = .ok (.bipush 36, 2) := by decide +kernel
theorem dX12_next_90 : decode cX12_next 90 = .ok (.iaload, 1) := by decide +kernel
theorem dX12_next_91 : decode cX12_next 91 = .ok (.invokevirtual 260, 3) := by decide +kernel
theorem dX12_next_94 : decode cX12_next 94 = .ok (.istore 13, 2) := by decide +kernel
theorem dX12_next_96 : decode cX12_next 96 = .ok (.aload_n 0, 1) := by decide +kernel
theorem dX12_next_97 : decode cX12_next 97 = .ok (.getfield 50, 3) := by decide +kernel
theorem dX12_next_100 : decode cX12_next 100 = .ok (.iload 12, 2) := by decide +kernel
theorem dX12_next_102 : decode cX12_next 102 = .ok (.laload, 1) := by decide +kernel
theorem dX12_next_103 : decode cX12_next 103 = .ok (.iload 7, 2) := by decide +kernel
theorem dX12_next_105 : decode cX12_next 105 = .ok (.iconst 1, 1) := by decide +kernel
theorem dX12_next_106 : decode cX12_next 106 = .ok (.if_icmp .ne 8, 3) := by decide +kernel
theorem dX12_next_109 : decode cX12_next 109 = .ok (.iload 13, 2) := by decide +kernel
theorem dX12_next_111 : decode cX12_next 111 = .ok (.goto 8, 3) := by decide +kernel
theorem dX12_next_114 : decode cX12_next 114 = .ok (.bipush 9, 2) := by decide +kernel
theorem dX12_next_116 : decode cX12_next 116 = .ok (.iload 13, 2) := by decide +kernel
theorem dX12_next_118 : decode cX12_next 118 = .ok (.isub, 1) := by decide +kernel
theorem dX12_next_119 : decode cX12_next 119 = .ok (.i2l, 1) := by decide +kernel
theorem dX12_next_120 : decode cX12_next 120 = .ok (.lmul, 1) := by decide +kernel
theorem dX12_next_121 : decode cX12_next 121 = .ok (.lstore 14, 2) := by decide +kernel
theorem dX12_next_123 : decode cX12_next 123 = .ok (.lload 10, 2) := by decide +kernel
theorem dX12_next_125 : decode cX12_next 125 = .ok (.iload 12, 2) := by decide +kernel
theorem dX12_next_127 : decode cX12_next 127 = .ok (.ifCond .ne 8, 3) := by decide +kernel
theorem dX12_next_130 : decode cX12_next 130 = .ok (.lload 14, 2) := by decide +kernel
theorem dX12_next_132 : decode cX12_next 132 = .ok (.goto 4, 3) := by decide +kernel
theorem dX12_next_135 : decode cX12_next 135 = .ok (.lconst 0, 1) := by decide +kernel
theorem dX12_next_136 : decode cX12_next 136 = .ok (.ladd, 1) := by decide +kernel
theorem dX12_next_137 : decode cX12_next 137 = .ok (.lstore 10, 2) := by decide +kernel
theorem dX12_next_139 : decode cX12_next 139 = .ok (.lload 8, 2) := by decide +kernel
theorem dX12_next_141 : decode cX12_next 141 = .ok (.iload 12, 2) := by decide +kernel
theorem dX12_next_143 : decode cX12_next 143 = .ok (.ifCond .le 8, 3) := by decide +kernel
theorem dX12_next_146 : decode cX12_next 146 = .ok (.lload 14, 2) := by decide +kernel
theorem dX12_next_148 : decode cX12_next 148 = .ok (.goto 4, 3) := by decide +kernel
theorem dX12_next_151 : decode cX12_next 151 = .ok (.lconst 0, 1) := by decide +kernel
theorem dX12_next_152 : decode cX12_next 152 = .ok (.ladd, 1) := by decide +kernel
theorem dX12_next_153 : decode cX12_next 153 = .ok (.lstore 8, 2) := by decide +kernel
theorem dX12_next_155 : decode cX12_next 155 = .ok (.iinc 12 1, 3) := by decide +kernel
theorem dX12_next_158 : decode cX12_next 158 = .ok (.goto (-88), 3) := by decide +kernel
theorem dX12_next_161 : decode cX12_next 161 = .ok (.lload 5, 2) := by decide +kernel
theorem dX12_next_163 : decode cX12_next 163 = .ok (.lload 10, 2) := by decide +kernel
theorem dX12_next_165 : decode cX12_next 165 = .ok (.lload 8, 2) := by decide +kernel
theorem dX12_next_167 : decode cX12_next 167 = .ok (.lcmp, 1) := by decide +kernel
theorem dX12_next_168 : decode cX12_next 168 = .ok (.ifCond .le 8, 3) := by decide +kernel
theorem dX12_next_171 : decode cX12_next 171 = .ok (.lload 10, 2) := by decide +kernel
theorem dX12_next_173 : decode cX12_next 173 = .ok (.goto 5, 3) := by decide +kernel
theorem dX12_next_176 : decode cX12_next 176 = .ok (.lload 8, 2) := by decide +kernel
theorem dX12_next_178 : decode cX12_next 178 = .ok (.ladd, 1) := by decide +kernel
theorem dX12_next_179 : decode cX12_next 179 = .ok (.lstore 5, 2) := by decide +kernel
theorem dX12_next_181 : decode cX12_next 181 = .ok (.iinc 7 1, 3) := by decide +kernel
theorem dX12_next_184 : decode cX12_next 184 = .ok (.goto (-129), 3) := by decide +kernel
theorem dX12_next_187 : decode cX12_next 187 = .ok (.iload_n 1, 1) := by decide +kernel
theorem dX12_next_188 : decode cX12_next 188 = .ok (.ifCond .lt 13, 3) := by decide +kernel
theorem dX12_next_191 : decode cX12_next 191 = .ok (.lload 5, 2) := by decide +kernel
theorem dX12_next_193 : decode cX12_next 193 = .ok (.lload_n 2, 1) := by decide +kernel
theorem dX12_next_194 : decode cX12_next 194 = .ok (.lcmp, 1) := by decide +kernel
theorem dX12_next_195 : decode cX12_next 195 = .ok (.ifCond .gt 6, 3) := by decide +kernel
theorem dX12_next_198 : decode cX12_next 198 = .ok (.goto 9, 3) := by decide +kernel
theorem dX12_next_201 : decode cX12_next 201 = .ok (.lload 5, 2) := by decide +kernel
theorem dX12_next_203 : decode cX12_next 203 = .ok (.lstore_n 2, 1) := by decide +kernel
theorem dX12_next_204 : decode cX12_next 204 = .ok (.iload 4, 2) := by decide +kernel
theorem dX12_next_206 : decode cX12_next 206 = .ok (.istore_n 1, 1) := by decide +kernel
theorem dX12_next_207 : decode cX12_next 207 = .ok (.iinc 4 1, 3) := by decide +kernel
theorem dX12_next_210 : decode cX12_next 210 = .ok (.goto (-172), 3) := by decide +kernel
theorem dX12_next_213 : decode cX12_next 213 = .ok (.iload_n 1, 1) := by decide +kernel
theorem dX12_next_214 : decode cX12_next 214 = .ok (.ireturn, 1) := by decide +kernel
abbrev rm_X12_next : Room := { frames := 4, cells := 0, slots := 0, locals := 92 }
noncomputable def fX12_next_b207 (o0 : Nat) (x1 : Int32) (l2 : Int64) (x4 : Int32) (h : z_T) : Option ((Int32 × Int64 × Int32) ⊕ (Int32 × z_T)) :=
  y_nm (x4 + 1) fun v1 =>
  some (.inl (x1, l2, v1))
noncomputable def fX12_next_b201 (o0 : Nat) (x4 : Int32) (l5 : Int64) (h : z_T) : Option ((Int32 × Int64 × Int32) ⊕ (Int32 × z_T)) :=
  fX12_next_b207 o0 x4 l5 x4 h
noncomputable def fX12_next_b178 (o0 : Nat) (x1 : Int32) (l2 : Int64) (x4 : Int32) (x7 : Int32) (s0 : Int64) (s1 : Int64) (h : z_T) : Option ((Int64 × Int32) ⊕ ((Int32 × Int64 × Int32) ⊕ (Int32 × z_T))) :=
  y_nm ((s0 + s1)) fun v2 =>
  y_nm (x7 + 1) fun v3 =>
  some (.inl (v2, v3))
noncomputable def fX12_next_b152 (o0 : Nat) (x1 : Int32) (l2 : Int64) (x4 : Int32) (l5 : Int64) (x7 : Int32) (l10 : Int64) (x12 : Int32) (s0 : Int64) (s1 : Int64) (h : z_T) : Option ((Int64 × Int64 × Int32) ⊕ ((Int64 × Int32) ⊕ ((Int32 × Int64 × Int32) ⊕ (Int32 × z_T)))) :=
  y_nm ((s0 + s1)) fun v4 =>
  y_nm (x12 + 1) fun v5 =>
  some (.inl (v4, l10, v5))
noncomputable def fX12_next_b136 (o0 : Nat) (x1 : Int32) (l2 : Int64) (x4 : Int32) (l5 : Int64) (x7 : Int32) (l8 : Int64) (x12 : Int32) (l14 : Int64) (s0 : Int64) (s1 : Int64) (h : z_T) : Option ((Int64 × Int64 × Int32) ⊕ ((Int64 × Int32) ⊕ ((Int32 × Int64 × Int32) ⊕ (Int32 × z_T)))) :=
  y_nm ((s0 + s1)) fun v6 =>
  y_br (x12 ≤ 0)
    (fX12_next_b152 o0 x1 l2 x4 l5 x7 v6 x12 l8 (0 : Int64) h)
    (fX12_next_b152 o0 x1 l2 x4 l5 x7 v6 x12 l8 l14 h)
noncomputable def fX12_next_b119 (o0 : Nat) (x1 : Int32) (l2 : Int64) (x4 : Int32) (l5 : Int64) (x7 : Int32) (l8 : Int64) (l10 : Int64) (x12 : Int32) (s0 : Int64) (s1 : Int32) (h : z_T) : Option ((Int64 × Int64 × Int32) ⊕ ((Int64 × Int32) ⊕ ((Int32 × Int64 × Int32) ⊕ (Int32 × z_T)))) :=
  y_nm ((s0 * (s1).toInt64)) fun v8 =>
  y_br (x12 = 0)
    (fX12_next_b136 o0 x1 l2 x4 l5 x7 l8 x12 v8 l10 v8 h)
    (fX12_next_b136 o0 x1 l2 x4 l5 x7 l8 x12 v8 l10 (0 : Int64) h)
noncomputable def fX12_next_b70_i (o0 : Nat) (x1 : Int32) (l2 : Int64) (x4 : Int32) (l5 : Int64) (x7 : Int32) (h : z_T) (l8 : Int64) (l10 : Int64) (x12 : Int32) : Option ((Int64 × Int64 × Int32) ⊕ ((Int64 × Int32) ⊕ ((Int32 × Int64 × Int32) ⊕ (Int32 × z_T)))) :=
  y_gd (z_ok h o0 11) <|
  y_bi (fX12_places o0 h) fun r11 =>
  y_br (r11 ≤ x12)
    (y_mp <|
    y_br ((lg_cmp l10 l8) ≤ 0)
      (fX12_next_b178 o0 x1 l2 x4 x7 l5 l8 h)
      (fX12_next_b178 o0 x1 l2 x4 x7 l5 l10 h))
    (y_bi (z_R h o0 6) fun o19 =>
    y_gd (z_ok h o19 13) <|
    y_gd (z_ix (36 : Int32) (z_N h o19)) <|
    y_bi (fX12_oddsOf o0 x12 x4 (z_I h o19 (36 : Int32).toNatClampNeg) h) fun r23 =>
    y_bi (z_R h o0 21) fun o27 =>
    y_gd (z_ok h o27 14) <|
    y_gd (z_ix x12 (z_N h o27)) <|
    y_br (x7 = (1 : Int32))
      (fX12_next_b119 o0 x1 l2 x4 l5 x7 l8 l10 x12 (z_L h o27 x12.toNatClampNeg) r23 h)
      (fX12_next_b119 o0 x1 l2 x4 l5 x7 l8 l10 x12 (z_L h o27 x12.toNatClampNeg) ((9 : Int32) - r23) h))
noncomputable def fX12_next_b70 (o0 : Nat) (x1 : Int32) (l2 : Int64) (x4 : Int32) (l5 : Int64) (x7 : Int32) (l8 : Int64) (l10 : Int64) (x12 : Int32) (h : z_T) : Option ((Int64 × Int32) ⊕ ((Int32 × Int64 × Int32) ⊕ (Int32 × z_T))) := y_lp (fun q : Int64 × Int64 × Int32 => fX12_next_b70_i o0 x1 l2 x4 l5 x7 h q.1 q.2.1 q.2.2) (l8, l10, x12)
noncomputable def fX12_next_b55_i (o0 : Nat) (x1 : Int32) (l2 : Int64) (x4 : Int32) (h : z_T) (l5 : Int64) (x7 : Int32) : Option ((Int64 × Int32) ⊕ ((Int32 × Int64 × Int32) ⊕ (Int32 × z_T))) :=
  y_br ((2 : Int32) ≤ x7)
    (y_mp <|
    y_br (x1 < 0)
      (fX12_next_b201 o0 x4 l5 h)
      (y_br (0 < (lg_cmp l5 l2))
        (fX12_next_b201 o0 x4 l5 h)
        (fX12_next_b207 o0 x1 l2 x4 h)))
    (fX12_next_b70 o0 x1 l2 x4 l5 x7 (0 : Int64) (0 : Int64) (0 : Int32) h)
noncomputable def fX12_next_b55 (o0 : Nat) (x1 : Int32) (l2 : Int64) (x4 : Int32) (l5 : Int64) (x7 : Int32) (h : z_T) : Option ((Int32 × Int64 × Int32) ⊕ (Int32 × z_T)) := y_lp (fun q : Int64 × Int32 => fX12_next_b55_i o0 x1 l2 x4 h q.1 q.2) (l5, x7)
noncomputable def fX12_next_b38_i (o0 : Nat) (h : z_T) (x1 : Int32) (l2 : Int64) (x4 : Int32) : Option ((Int32 × Int64 × Int32) ⊕ (Int32 × z_T)) :=
  y_gd (z_ok h o0 11) <|
  y_bi (z_R h o0 6) fun o36 =>
  y_gd (z_ok h o36 13) <|
  y_gd (z_ix (0 : Int32) (z_N h o36)) <|
  y_br ((z_I h o36 (0 : Int32).toNatClampNeg) ≤ x4)
    (y_mp <|
    some (x1, h))
    (fX12_next_b55 o0 x1 l2 x4 (0 : Int64) (0 : Int32) h)
noncomputable def fX12_next_b38 (o0 : Nat) (x1 : Int32) (l2 : Int64) (x4 : Int32) (h : z_T) : Option (Int32 × z_T) := y_lp (fun q : Int32 × Int64 × Int32 => fX12_next_b38_i o0 h q.1 q.2.1 q.2.2) (x1, l2, x4)
noncomputable def fX12_next (o0 : Nat) (h : z_T) : Option (Int32 × z_T) :=
  y_gd (z_ok h o0 11) <|
  y_nm (z_sI h o0 0 (0 : Int32)) fun h42 =>
  y_bi (z_R h42 o0 6) fun o43 =>
  y_gd (z_ok h42 o43 13) <|
  y_gd (z_ix (36 : Int32) (z_N h42 o43)) <|
  y_br ((z_I h42 o43 (36 : Int32).toNatClampNeg) = (12 : Int32))
    (some ((-1 : Int32), h42))
    (y_gd (z_ix (36 : Int32) (z_N h42 o43)) <|
    y_bi (fX12_likes o0 (z_I h42 o43 (36 : Int32).toNatClampNeg) h42) fun ⟨r50, h53⟩ =>
    fX12_next_b38 o0 (-1 : Int32) (0 : Int64) (0 : Int32) h53)
set_option maxHeartbeats 4000000 in
set_option maxRecDepth 100000 in
theorem mm_X12_next {G : z_Gt} {S : State → Prop} (hSK : z_SK S) (l : Launch) (ad : Nat → Nat) (o0 : Nat) (h : z_T) {r0 : Int32} {h9 : z_T} (hv : fX12_next o0 h = some (r0, h9)) : z_Mi G S l yX12_next cX12_next 16 (.int) rm_X12_next 0 0 [.ref (ad o0)] ad h h9 r0 := by
  refine z_ofW hSK (by decide) (Nat.le_of_ble_eq_true rfl) ?_
  intro p e s m args below meth c ls hc hr hnm hB hl
  have hx := hc.1.1
  have hb := hc.1.2.1
  have hown := hc.1.2.2.2.1
  have hts := hc.1.2.2.2.2
  replace hc : z_C G S ad (z_n h) p m c cX12_next 16 s args RX12 meth := hc
  replace hown : s.vm.findClass RX12 = some m.cls := hown
  replace hl : lv_has ls 16 [(0, .ref (ad o0))] := hl
  show W p l e rm_X12_next s m args below meth c s.heap [] 0 0 (MQ below (z_Qi G ad h9 (z_n h) s.heap.size r0) args s 0 0 (z_A ad (z_n h) s.heap.size)) (F0 m 0 ls [])
  obtain ⟨rs, kt⟩ : ∃ rs : Int32 × z_T, rs = (r0, h9) := ⟨_, rfl⟩
  generalize hn0 : z_n h = n0 at hc hB ⊢
  have L38 : ∀ (h : z_T) (nn38 : Nat) (x1 : Int32) (l2 : Int64) (x4 : Int32) (H : Heap) (locs : List Loc) (ls : Array Slot), z_B G ad n0 s h H locs → lv_has ls 16 [(0, .ref (ad o0)), (1, .int x1), (2, .long l2), (4, .int x4)] → ∀ vv38, y_lpN (fun q : Int32 × Int64 × Int32 => fX12_next_b38_i o0 h q.1 q.2.1 q.2.2) nn38 (x1, l2, x4) = some vv38 → vv38 = (r0, h9) → W p l e rm_X12_next s m args below meth c H locs 0 0 (MQ below (z_Qi G ad h9 n0 s.heap.size r0) args s 0 0 (z_A ad n0 s.heap.size)) (F0 m 38 ls []) := by
    intro h nn38
    induction nn38 with
    | zero => intro x1 l2 x4 H locs ls hB hl vv38 hv kv38; exact absurd hv (fun q => y_lpN_0 q)
    | succ nn38 ih38 =>
      intro x1 l2 x4 H locs ls hB hl vv38 hv kv38
      obtain ⟨w, hq, kw38⟩ := y_lpN_e hv
      clear hv
      have hv : fX12_next_b38_i o0 h x1 l2 x4 = some w := hq
      clear hq
      have b207 : ∀ (x1 : Int32) (l2 : Int64) (x4 : Int32) (H : Heap) (locs : List Loc) (ls : Array Slot), z_B G ad n0 s h H locs → lv_has ls 16 [(0, .ref (ad o0)), (1, .int x1), (2, .long l2), (4, .int x4)] → ∀ w, fX12_next_b207 o0 x1 l2 x4 h = some w → y_lq (fun q : Int32 × Int64 × Int32 => fX12_next_b38_i o0 h q.1 q.2.1 q.2.2) nn38 vv38 w → W p l e rm_X12_next s m args below meth c H locs 0 0 (MQ below (z_Qi G ad h9 n0 s.heap.size r0) args s 0 0 (z_A ad n0 s.heap.size)) (F0 m 207 ls []) := by
        intro x1 l2 x4 H locs ls hB hl w hv kw38
        obtain ⟨v1, ev1, hv⟩ := y_nm_e hv
        refine lv_iinc (v := v1) (lv' := [(4, .int v1), (0, .ref (ad o0)), (1, .int x1), (2, .long l2)]) hx hb dX12_next_207 hl (k := 3) rfl (by rw [ev1]; rfl) (by decide) rfl (fun ls hl => ?_)
        refine lv_goto (tgt := 38) hx hb dX12_next_210 (by decide) ?_
        replace hv := Option.some.inj hv
        subst hv
        exact ih38 x1 l2 v1 _ _ _ hB (lv_sub hl [1, 2, 3, 0] rfl) _ kw38 kv38
      have b201 : ∀ (x4 : Int32) (l5 : Int64) (H : Heap) (locs : List Loc) (ls : Array Slot), z_B G ad n0 s h H locs → lv_has ls 16 [(0, .ref (ad o0)), (4, .int x4), (5, .long l5)] → ∀ w, fX12_next_b201 o0 x4 l5 h = some w → y_lq (fun q : Int32 × Int64 × Int32 => fX12_next_b38_i o0 h q.1 q.2.1 q.2.2) nn38 vv38 w → W p l e rm_X12_next s m args below meth c H locs 0 0 (MQ below (z_Qi G ad h9 n0 s.heap.size r0) args s 0 0 (z_A ad n0 s.heap.size)) (F0 m 201 ls []) := by
        intro x4 l5 H locs ls hB hl w hv kw38
        refine lv_lload hx hb dX12_next_201 (lv_at hl 2 rfl) ?_
        refine lv_lstore_n (lv' := [(2, .long l5), (0, .ref (ad o0)), (4, .int x4), (5, .long l5)]) hx hb dX12_next_203 rfl hl (by decide) rfl (fun ls hl => ?_)
        refine lv_iload hx hb dX12_next_204 (lv_at hl 2 rfl) ?_
        refine lv_istore_n (lv' := [(1, .int x4), (2, .long l5), (0, .ref (ad o0)), (4, .int x4), (5, .long l5)]) hx hb dX12_next_206 rfl hl (by decide) rfl (fun ls hl => ?_)
        exact b207 x4 l5 x4 _ _ _ hB (lv_sub hl [2, 0, 1, 3] rfl) _ hv kw38
      have L55 : ∀ (x1 : Int32) (l2 : Int64) (x4 : Int32) (nn55 : Nat) (l5 : Int64) (x7 : Int32) (H : Heap) (locs : List Loc) (ls : Array Slot), z_B G ad n0 s h H locs → lv_has ls 16 [(0, .ref (ad o0)), (1, .int x1), (2, .long l2), (4, .int x4), (5, .long l5), (7, .int x7)] → ∀ vv55, y_lpN (fun q : Int64 × Int32 => fX12_next_b55_i o0 x1 l2 x4 h q.1 q.2) nn55 (l5, x7) = some vv55 → y_lq (fun q : Int32 × Int64 × Int32 => fX12_next_b38_i o0 h q.1 q.2.1 q.2.2) nn38 vv38 vv55 → W p l e rm_X12_next s m args below meth c H locs 0 0 (MQ below (z_Qi G ad h9 n0 s.heap.size r0) args s 0 0 (z_A ad n0 s.heap.size)) (F0 m 55 ls []) := by
        intro x1 l2 x4 nn55
        induction nn55 with
        | zero => intro l5 x7 H locs ls hB hl vv55 hv kv55; exact absurd hv (fun q => y_lpN_0 q)
        | succ nn55 ih55 =>
          intro l5 x7 H locs ls hB hl vv55 hv kv55
          obtain ⟨w, hq, kw55⟩ := y_lpN_e hv
          clear hv
          have hv : fX12_next_b55_i o0 x1 l2 x4 h l5 x7 = some w := hq
          clear hq
          have b178 : ∀ (x7 : Int32) (s0 : Int64) (s1 : Int64) (H : Heap) (locs : List Loc) (ls : Array Slot), z_B G ad n0 s h H locs → lv_has ls 16 [(0, .ref (ad o0)), (1, .int x1), (2, .long l2), (4, .int x4), (7, .int x7)] → ∀ w, fX12_next_b178 o0 x1 l2 x4 x7 s0 s1 h = some w → y_lq (fun q : Int64 × Int32 => fX12_next_b55_i o0 x1 l2 x4 h q.1 q.2) nn55 vv55 w → W p l e rm_X12_next s m args below meth c H locs 0 0 (MQ below (z_Qi G ad h9 n0 s.heap.size r0) args s 0 0 (z_A ad n0 s.heap.size)) (F0 m 178 ls [.long s1, .long s0]) := by
            intro x7 s0 s1 H locs ls hB hl w hv kw55
            refine lv_ladd hx hb dX12_next_178 ?_
            obtain ⟨v2, ev2, hv⟩ := y_nm_e hv
            rw [← ev2]
            refine lv_lstore (lv' := [(5, .long v2), (0, .ref (ad o0)), (1, .int x1), (2, .long l2), (4, .int x4), (7, .int x7)]) hx hb dX12_next_179 hl (by decide) rfl (fun ls hl => ?_)
            obtain ⟨v3, ev3, hv⟩ := y_nm_e hv
            refine lv_iinc (v := v3) (lv' := [(7, .int v3), (5, .long v2), (0, .ref (ad o0)), (1, .int x1), (2, .long l2), (4, .int x4)]) hx hb dX12_next_181 hl (k := 5) rfl (by rw [ev3]; rfl) (by decide) rfl (fun ls hl => ?_)
            refine lv_goto (tgt := 55) hx hb dX12_next_184 (by decide) ?_
            replace hv := Option.some.inj hv
            subst hv
            exact ih55 v2 v3 _ _ _ hB (lv_sub hl [2, 3, 4, 5, 1, 0] rfl) _ kw55 kv55
          have L70 : ∀ (l5 : Int64) (x7 : Int32) (nn70 : Nat) (l8 : Int64) (l10 : Int64) (x12 : Int32) (H : Heap) (locs : List Loc) (ls : Array Slot), z_B G ad n0 s h H locs → lv_has ls 16 [(0, .ref (ad o0)), (1, .int x1), (2, .long l2), (4, .int x4), (5, .long l5), (7, .int x7), (8, .long l8), (10, .long l10), (12, .int x12)] → ∀ vv70, y_lpN (fun q : Int64 × Int64 × Int32 => fX12_next_b70_i o0 x1 l2 x4 l5 x7 h q.1 q.2.1 q.2.2) nn70 (l8, l10, x12) = some vv70 → y_lq (fun q : Int64 × Int32 => fX12_next_b55_i o0 x1 l2 x4 h q.1 q.2) nn55 vv55 vv70 → W p l e rm_X12_next s m args below meth c H locs 0 0 (MQ below (z_Qi G ad h9 n0 s.heap.size r0) args s 0 0 (z_A ad n0 s.heap.size)) (F0 m 70 ls []) := by
            intro l5 x7 nn70
            induction nn70 with
            | zero => intro l8 l10 x12 H locs ls hB hl vv70 hv kv70; exact absurd hv (fun q => y_lpN_0 q)
            | succ nn70 ih70 =>
              intro l8 l10 x12 H locs ls hB hl vv70 hv kv70
              obtain ⟨w, hq, kw70⟩ := y_lpN_e hv
              clear hv
              have hv : fX12_next_b70_i o0 x1 l2 x4 l5 x7 h l8 l10 x12 = some w := hq
              clear hq
              have b152 : ∀ (l10 : Int64) (x12 : Int32) (s0 : Int64) (s1 : Int64) (H : Heap) (locs : List Loc) (ls : Array Slot), z_B G ad n0 s h H locs → lv_has ls 16 [(0, .ref (ad o0)), (1, .int x1), (2, .long l2), (4, .int x4), (5, .long l5), (7, .int x7), (10, .long l10), (12, .int x12)] → ∀ w, fX12_next_b152 o0 x1 l2 x4 l5 x7 l10 x12 s0 s1 h = some w → y_lq (fun q : Int64 × Int64 × Int32 => fX12_next_b70_i o0 x1 l2 x4 l5 x7 h q.1 q.2.1 q.2.2) nn70 vv70 w → W p l e rm_X12_next s m args below meth c H locs 0 0 (MQ below (z_Qi G ad h9 n0 s.heap.size r0) args s 0 0 (z_A ad n0 s.heap.size)) (F0 m 152 ls [.long s1, .long s0]) := by
                intro l10 x12 s0 s1 H locs ls hB hl w hv kw70
                refine lv_ladd hx hb dX12_next_152 ?_
                obtain ⟨v4, ev4, hv⟩ := y_nm_e hv
                rw [← ev4]
                refine lv_lstore (lv' := [(8, .long v4), (0, .ref (ad o0)), (1, .int x1), (2, .long l2), (4, .int x4), (5, .long l5), (7, .int x7), (10, .long l10), (12, .int x12)]) hx hb dX12_next_153 hl (by decide) rfl (fun ls hl => ?_)
                obtain ⟨v5, ev5, hv⟩ := y_nm_e hv
                refine lv_iinc (v := v5) (lv' := [(12, .int v5), (8, .long v4), (0, .ref (ad o0)), (1, .int x1), (2, .long l2), (4, .int x4), (5, .long l5), (7, .int x7), (10, .long l10)]) hx hb dX12_next_155 hl (k := 8) rfl (by rw [ev5]; rfl) (by decide) rfl (fun ls hl => ?_)
                refine lv_goto (tgt := 70) hx hb dX12_next_158 (by decide) ?_
                replace hv := Option.some.inj hv
                subst hv
                exact ih70 v4 l10 v5 _ _ _ hB (lv_sub hl [2, 3, 4, 5, 6, 7, 1, 8, 0] rfl) _ kw70 kv70
              have b136 : ∀ (l8 : Int64) (x12 : Int32) (l14 : Int64) (s0 : Int64) (s1 : Int64) (H : Heap) (locs : List Loc) (ls : Array Slot), z_B G ad n0 s h H locs → lv_has ls 16 [(0, .ref (ad o0)), (1, .int x1), (2, .long l2), (4, .int x4), (5, .long l5), (7, .int x7), (8, .long l8), (12, .int x12), (14, .long l14)] → ∀ w, fX12_next_b136 o0 x1 l2 x4 l5 x7 l8 x12 l14 s0 s1 h = some w → y_lq (fun q : Int64 × Int64 × Int32 => fX12_next_b70_i o0 x1 l2 x4 l5 x7 h q.1 q.2.1 q.2.2) nn70 vv70 w → W p l e rm_X12_next s m args below meth c H locs 0 0 (MQ below (z_Qi G ad h9 n0 s.heap.size r0) args s 0 0 (z_A ad n0 s.heap.size)) (F0 m 136 ls [.long s1, .long s0]) := by
                intro l8 x12 l14 s0 s1 H locs ls hB hl w hv kw70
                refine lv_ladd hx hb dX12_next_136 ?_
                obtain ⟨v6, ev6, hv⟩ := y_nm_e hv
                rw [← ev6]
                refine lv_lstore (lv' := [(10, .long v6), (0, .ref (ad o0)), (1, .int x1), (2, .long l2), (4, .int x4), (5, .long l5), (7, .int x7), (8, .long l8), (12, .int x12), (14, .long l14)]) hx hb dX12_next_137 hl (by decide) rfl (fun ls hl => ?_)
                refine lv_lload hx hb dX12_next_139 (lv_at hl 7 rfl) ?_
                refine lv_iload hx hb dX12_next_141 (lv_at hl 8 rfl) ?_
                refine lv_if_le (tgt := 151) hx hb dX12_next_143 (by decide) (fun c7 => ?_) (fun c7 => ?_)
                · replace hv := y_br_t hv c7
                  refine lv_lconst (v := (0 : Int64)) hx hb dX12_next_151 (by decide) ?_
                  exact b152 v6 x12 l8 (0 : Int64) _ _ _ hB (lv_sub hl [1, 2, 3, 4, 5, 6, 0, 8] rfl) _ hv kw70
                · replace hv := y_br_f hv c7
                  refine lv_lload hx hb dX12_next_146 (lv_at hl 9 rfl) ?_
                  refine lv_goto (tgt := 152) hx hb dX12_next_148 (by decide) ?_
                  exact b152 v6 x12 l8 l14 _ _ _ hB (lv_sub hl [1, 2, 3, 4, 5, 6, 0, 8] rfl) _ hv kw70
              have b119 : ∀ (l8 : Int64) (l10 : Int64) (x12 : Int32) (s0 : Int64) (s1 : Int32) (H : Heap) (locs : List Loc) (ls : Array Slot), z_B G ad n0 s h H locs → lv_has ls 16 [(0, .ref (ad o0)), (1, .int x1), (2, .long l2), (4, .int x4), (5, .long l5), (7, .int x7), (8, .long l8), (10, .long l10), (12, .int x12)] → ∀ w, fX12_next_b119 o0 x1 l2 x4 l5 x7 l8 l10 x12 s0 s1 h = some w → y_lq (fun q : Int64 × Int64 × Int32 => fX12_next_b70_i o0 x1 l2 x4 l5 x7 h q.1 q.2.1 q.2.2) nn70 vv70 w → W p l e rm_X12_next s m args below meth c H locs 0 0 (MQ below (z_Qi G ad h9 n0 s.heap.size r0) args s 0 0 (z_A ad n0 s.heap.size)) (F0 m 119 ls [.int s1, .long s0]) := by
                intro l8 l10 x12 s0 s1 H locs ls hB hl w hv kw70
                refine lv_i2l hx hb dX12_next_119 rfl ?_
                refine lv_lmul hx hb dX12_next_120 ?_
                obtain ⟨v8, ev8, hv⟩ := y_nm_e hv
                rw [← ev8]
                refine lv_lstore (lv' := [(14, .long v8), (0, .ref (ad o0)), (1, .int x1), (2, .long l2), (4, .int x4), (5, .long l5), (7, .int x7), (8, .long l8), (10, .long l10), (12, .int x12)]) hx hb dX12_next_121 hl (by decide) rfl (fun ls hl => ?_)
                refine lv_lload hx hb dX12_next_123 (lv_at hl 8 rfl) ?_
                refine lv_iload hx hb dX12_next_125 (lv_at hl 9 rfl) ?_
                refine lv_if_ne (tgt := 135) hx hb dX12_next_127 (by decide) (fun c9 => ?_) (fun c9 => ?_)
                · replace hv := y_br_f hv c9
                  refine lv_lconst (v := (0 : Int64)) hx hb dX12_next_135 (by decide) ?_
                  exact b136 l8 x12 v8 l10 (0 : Int64) _ _ _ hB (lv_sub hl [1, 2, 3, 4, 5, 6, 7, 9, 0] rfl) _ hv kw70
                · replace hv := y_br_t hv c9
                  refine lv_lload hx hb dX12_next_130 (lv_at hl 0 rfl) ?_
                  refine lv_goto (tgt := 136) hx hb dX12_next_132 (by decide) ?_
                  exact b136 l8 x12 v8 l10 v8 _ _ _ hB (lv_sub hl [1, 2, 3, 4, 5, 6, 7, 9, 0] rfl) _ hv kw70
              refine lv_iload hx hb dX12_next_70 (lv_at hl 8 rfl) ?_
              refine lv_aload_n hx hb dX12_next_72 rfl (lv_at hl 0 rfl) ?_
              obtain ⟨g15, hv⟩ := y_gd_e hv
              obtain ⟨r11, c10, hv⟩ := y_bi_e hv
              refine z_thI hc hB (z_runV hc hB 11 (mm_X12_places hSK l ad o0 h c10) md_X12_places qmX12_253 g15 (by decide) rfl rfl rfl ⟨Nat.le_of_ble_eq_true rfl, Nat.le_of_ble_eq_true rfl⟩ rfl hl.1 rfl (Nat.le_of_ble_eq_true rfl) dX12_next_73 ⟨Nat.le_of_ble_eq_true rfl, Nat.le_of_ble_eq_true rfl⟩) (fun H locs hB => ?_)
              refine lv_icmp_ge (tgt := 161) hx hb dX12_next_76 (by decide) (fun c16 => ?_) (fun c16 => ?_)
              · replace hv := y_br_t hv c16
                obtain ⟨t17, hq, ew⟩ := y_mp_e hv
                clear hv; subst ew
                replace kw70 : t17 = _ := kw70
                subst kw70
                have hv := hq
                clear hq
                refine lv_lload hx hb dX12_next_161 (lv_at hl 4 rfl) ?_
                refine lv_lload hx hb dX12_next_163 (lv_at hl 7 rfl) ?_
                refine lv_lload hx hb dX12_next_165 (lv_at hl 6 rfl) ?_
                refine W.lcmp hx hb dX12_next_167 ?_
                refine lv_if_le (tgt := 176) hx hb dX12_next_168 (by decide) (fun c18 => ?_) (fun c18 => ?_)
                · replace hv := y_br_t hv c18
                  refine lv_lload hx hb dX12_next_176 (lv_at hl 6 rfl) ?_
                  exact b178 x7 l5 l8 _ _ _ hB (lv_sub hl [0, 1, 2, 3, 5] rfl) _ hv kv70
                · replace hv := y_br_f hv c18
                  refine lv_lload hx hb dX12_next_171 (lv_at hl 7 rfl) ?_
                  refine lv_goto (tgt := 178) hx hb dX12_next_173 (by decide) ?_
                  exact b178 x7 l5 l10 _ _ _ hB (lv_sub hl [0, 1, 2, 3, 5] rfl) _ hv kv70
              · replace hv := y_br_f hv c16
                refine lv_aload_n hx hb dX12_next_79 rfl (lv_at hl 0 rfl) ?_
                refine lv_iload hx hb dX12_next_80 (lv_at hl 8 rfl) ?_
                refine lv_iload hx hb dX12_next_82 (lv_at hl 3 rfl) ?_
                refine lv_aload_n hx hb dX12_next_84 rfl (lv_at hl 0 rfl) ?_
                obtain ⟨o19, eo19, hv⟩ := y_bi_e hv
                refine z_getR hc hB 11 6 g15 eo19 (by decide) (by decide) rfl (z_l1 hc qfX12_33) dX12_next_85 ?_
                refine lv_bipush (v := (36 : Int32)) hx hb dX12_next_88 (by decide) ?_
                obtain ⟨g20, hv⟩ := y_gd_e hv
                obtain ⟨i21, hv⟩ := y_gd_e hv
                refine z_iald hc hB g20 i21 dX12_next_90 ?_
                obtain ⟨r23, c22, hv⟩ := y_bi_e hv
                refine z_thI hc hB (z_runV hc hB 11 (mm_X12_oddsOf hSK l ad o0 x12 x4 (z_I h o19 (36 : Int32).toNatClampNeg) h c22) md_X12_oddsOf qmX12_260 g15 (by decide) rfl rfl rfl ⟨Nat.le_of_ble_eq_true rfl, Nat.le_of_ble_eq_true rfl⟩ rfl hl.1 rfl (Nat.le_of_ble_eq_true rfl) dX12_next_91 ⟨Nat.le_of_ble_eq_true rfl, Nat.le_of_ble_eq_true rfl⟩) (fun H locs hB => ?_)
                refine lv_istore (lv' := [(13, .int r23), (0, .ref (ad o0)), (1, .int x1), (2, .long l2), (4, .int x4), (5, .long l5), (7, .int x7), (8, .long l8), (10, .long l10), (12, .int x12)]) hx hb dX12_next_94 hl (by decide) rfl (fun ls hl => ?_)
                refine lv_aload_n hx hb dX12_next_96 rfl (lv_at hl 1 rfl) ?_
                obtain ⟨o27, eo27, hv⟩ := y_bi_e hv
                refine z_getR hc hB 11 21 g15 eo27 (by decide) (by decide) rfl (z_l1 hc qfX12_50) dX12_next_97 ?_
                refine lv_iload hx hb dX12_next_100 (lv_at hl 9 rfl) ?_
                obtain ⟨g28, hv⟩ := y_gd_e hv
                obtain ⟨i29, hv⟩ := y_gd_e hv
                refine z_lald hc hB g28 i29 dX12_next_102 ?_
                refine lv_iload hx hb dX12_next_103 (lv_at hl 6 rfl) ?_
                refine lv_iconst (v := (1 : Int32)) hx hb dX12_next_105 (by decide) ?_
                refine lv_icmp_ne (tgt := 114) hx hb dX12_next_106 (by decide) (fun c30 => ?_) (fun c30 => ?_)
                · replace hv := y_br_f hv c30
                  refine lv_bipush (v := (9 : Int32)) hx hb dX12_next_114 (by decide) ?_
                  refine lv_iload hx hb dX12_next_116 (lv_at hl 0 rfl) ?_
                  refine lv_isub hx hb dX12_next_118 ?_
                  exact b119 l8 l10 x12 (z_L h o27 x12.toNatClampNeg) ((9 : Int32) - r23) _ _ _ hB (lv_sub hl [1, 2, 3, 4, 5, 6, 7, 8, 9] rfl) _ hv kw70
                · replace hv := y_br_t hv c30
                  refine lv_iload hx hb dX12_next_109 (lv_at hl 0 rfl) ?_
                  refine lv_goto (tgt := 119) hx hb dX12_next_111 (by decide) ?_
                  exact b119 l8 l10 x12 (z_L h o27 x12.toNatClampNeg) r23 _ _ _ hB (lv_sub hl [1, 2, 3, 4, 5, 6, 7, 8, 9] rfl) _ hv kw70
          refine lv_iload hx hb dX12_next_55 (lv_at hl 5 rfl) ?_
          refine lv_iconst (v := (2 : Int32)) hx hb dX12_next_57 (by decide) ?_
          refine lv_icmp_ge (tgt := 187) hx hb dX12_next_58 (by decide) (fun c31 => ?_) (fun c31 => ?_)
          · replace hv := y_br_t hv c31
            obtain ⟨t32, hq, ew⟩ := y_mp_e hv
            clear hv; subst ew
            replace kw55 : t32 = _ := kw55
            subst kw55
            have hv := hq
            clear hq
            refine lv_iload_n hx hb dX12_next_187 rfl (lv_at hl 1 rfl) ?_
            refine lv_if_lt (tgt := 201) hx hb dX12_next_188 (by decide) (fun c33 => ?_) (fun c33 => ?_)
            · replace hv := y_br_t hv c33
              exact b201 x4 l5 _ _ _ hB (lv_sub hl [0, 3, 4] rfl) _ hv kv55
            · replace hv := y_br_f hv c33
              refine lv_lload hx hb dX12_next_191 (lv_at hl 4 rfl) ?_
              refine lv_lload_n hx hb dX12_next_193 rfl (lv_at hl 2 rfl) ?_
              refine W.lcmp hx hb dX12_next_194 ?_
              refine lv_if_gt (tgt := 201) hx hb dX12_next_195 (by decide) (fun c34 => ?_) (fun c34 => ?_)
              · replace hv := y_br_t hv c34
                exact b201 x4 l5 _ _ _ hB (lv_sub hl [0, 3, 4] rfl) _ hv kv55
              · replace hv := y_br_f hv c34
                refine lv_goto (tgt := 207) hx hb dX12_next_198 (by decide) ?_
                exact b207 x1 l2 x4 _ _ _ hB (lv_sub hl [0, 1, 2, 3] rfl) _ hv kv55
          · replace hv := y_br_f hv c31
            refine lv_lconst (v := (0 : Int64)) hx hb dX12_next_61 (by decide) ?_
            refine lv_lstore (lv' := [(8, .long (0 : Int64)), (0, .ref (ad o0)), (1, .int x1), (2, .long l2), (4, .int x4), (5, .long l5), (7, .int x7)]) hx hb dX12_next_62 hl (by decide) rfl (fun ls hl => ?_)
            refine lv_lconst (v := (0 : Int64)) hx hb dX12_next_64 (by decide) ?_
            refine lv_lstore (lv' := [(10, .long (0 : Int64)), (8, .long (0 : Int64)), (0, .ref (ad o0)), (1, .int x1), (2, .long l2), (4, .int x4), (5, .long l5), (7, .int x7)]) hx hb dX12_next_65 hl (by decide) rfl (fun ls hl => ?_)
            refine lv_iconst (v := (0 : Int32)) hx hb dX12_next_67 (by decide) ?_
            refine lv_istore (lv' := [(12, .int (0 : Int32)), (10, .long (0 : Int64)), (8, .long (0 : Int64)), (0, .ref (ad o0)), (1, .int x1), (2, .long l2), (4, .int x4), (5, .long l5), (7, .int x7)]) hx hb dX12_next_68 hl (by decide) rfl (fun ls hl => ?_)
            obtain ⟨n, hv⟩ := y_lp_e hv
            exact L70 l5 x7 n (0 : Int64) (0 : Int64) (0 : Int32) _ _ _ hB (lv_sub hl [3, 4, 5, 6, 7, 8, 2, 1, 0] rfl) _ hv kw55
      refine lv_iload hx hb dX12_next_38 (lv_at hl 3 rfl) ?_
      refine lv_aload_n hx hb dX12_next_40 rfl (lv_at hl 0 rfl) ?_
      obtain ⟨g35, hv⟩ := y_gd_e hv
      obtain ⟨o36, eo36, hv⟩ := y_bi_e hv
      refine z_getR hc hB 11 6 g35 eo36 (by decide) (by decide) rfl (z_l1 hc qfX12_33) dX12_next_41 ?_
      refine lv_iconst (v := (0 : Int32)) hx hb dX12_next_44 (by decide) ?_
      obtain ⟨g37, hv⟩ := y_gd_e hv
      obtain ⟨i38, hv⟩ := y_gd_e hv
      refine z_iald hc hB g37 i38 dX12_next_45 ?_
      refine lv_icmp_ge (tgt := 213) hx hb dX12_next_46 (by decide) (fun c39 => ?_) (fun c39 => ?_)
      · replace hv := y_br_t hv c39
        obtain ⟨t40, hq, ew⟩ := y_mp_e hv
        clear hv; subst ew
        replace kw38 : t40 = _ := kw38
        subst kw38
        have hv := hq
        clear hq
        refine lv_iload_n hx hb dX12_next_213 rfl (lv_at hl 1 rfl) ?_
        replace hv := Option.some.inj hv
        subst hv
        obtain ⟨e1, e2⟩ := y_pr kv38
        rw [← e1, ← e2]
        exact z_iret hc hB hr dX12_next_214
      · replace hv := y_br_f hv c39
        refine lv_lconst (v := (0 : Int64)) hx hb dX12_next_49 (by decide) ?_
        refine lv_lstore (lv' := [(5, .long (0 : Int64)), (0, .ref (ad o0)), (1, .int x1), (2, .long l2), (4, .int x4)]) hx hb dX12_next_50 hl (by decide) rfl (fun ls hl => ?_)
        refine lv_iconst (v := (0 : Int32)) hx hb dX12_next_52 (by decide) ?_
        refine lv_istore (lv' := [(7, .int (0 : Int32)), (5, .long (0 : Int64)), (0, .ref (ad o0)), (1, .int x1), (2, .long l2), (4, .int x4)]) hx hb dX12_next_53 hl (by decide) rfl (fun ls hl => ?_)
        obtain ⟨n, hv⟩ := y_lp_e hv
        exact L55 x1 l2 x4 n (0 : Int64) (0 : Int32) _ _ _ hB (lv_sub hl [2, 3, 4, 5, 1, 0] rfl) _ hv kw38
  rw [← kt] at hv
  refine lv_aload_n hx hb dX12_next_0 rfl (lv_at hl 0 rfl) ?_
  refine lv_iconst (v := (0 : Int32)) hx hb dX12_next_1 (by decide) ?_
  obtain ⟨g41, hv⟩ := y_gd_e hv
  obtain ⟨h42, eh42, hv⟩ := y_nm_e hv
  refine y_putI hc hB 11 0 eh42 g41 (z_l1 hc qfX12_1) dX12_next_2 (by decide) (by decide) rfl rfl rfl rfl (fun H locs hB => ?_)
  refine lv_aload_n hx hb dX12_next_5 rfl (lv_at hl 0 rfl) ?_
  obtain ⟨o43, eo43, hv⟩ := y_bi_e hv
  refine z_getR hc hB 11 6 (by rw [eh42]; exact g41) eo43 (by decide) (by decide) rfl (z_l1 hc qfX12_33) dX12_next_6 ?_
  refine lv_bipush (v := (36 : Int32)) hx hb dX12_next_9 (by decide) ?_
  obtain ⟨g44, hv⟩ := y_gd_e hv
  obtain ⟨i45, hv⟩ := y_gd_e hv
  refine z_iald hc hB g44 i45 dX12_next_11 ?_
  refine lv_bipush (v := (12 : Int32)) hx hb dX12_next_12 (by decide) ?_
  refine lv_icmp_ne (tgt := 19) hx hb dX12_next_14 (by decide) (fun c46 => ?_) (fun c46 => ?_)
  · replace hv := y_br_f hv c46
    refine lv_iconst (v := (-1 : Int32)) hx hb dX12_next_19 (by decide) ?_
    refine lv_istore_n (lv' := [(1, .int (-1 : Int32)), (0, .ref (ad o0))]) hx hb dX12_next_20 rfl hl (by decide) rfl (fun ls hl => ?_)
    refine lv_lconst (v := (0 : Int64)) hx hb dX12_next_21 (by decide) ?_
    refine lv_lstore_n (lv' := [(2, .long (0 : Int64)), (1, .int (-1 : Int32)), (0, .ref (ad o0))]) hx hb dX12_next_22 rfl hl (by decide) rfl (fun ls hl => ?_)
    refine lv_aload_n hx hb dX12_next_23 rfl (lv_at hl 2 rfl) ?_
    refine lv_aload_n hx hb dX12_next_24 rfl (lv_at hl 2 rfl) ?_
    refine z_getR hc hB 11 6 (by rw [eh42]; exact g41) eo43 (by decide) (by decide) rfl (z_l1 hc qfX12_33) dX12_next_25 ?_
    refine lv_bipush (v := (36 : Int32)) hx hb dX12_next_28 (by decide) ?_
    obtain ⟨i47, hv⟩ := y_gd_e hv
    refine z_iald hc hB g44 i47 dX12_next_30 ?_
    obtain ⟨⟨r50, h53⟩, c48, hv⟩ := y_bi_e hv
    refine z_thL hc hB (z_runV hc hB 11 (mm_X12_likes hSK l ad o0 (z_I h42 o43 (36 : Int32).toNatClampNeg) h42 c48) md_X12_likes qmX12_264 (by rw [eh42]; exact g41) (by decide) rfl rfl rfl ⟨Nat.le_of_ble_eq_true rfl, Nat.le_of_ble_eq_true rfl⟩ rfl hl.1 rfl (Nat.le_of_ble_eq_true rfl) dX12_next_31 ⟨Nat.le_of_ble_eq_true rfl, Nat.le_of_ble_eq_true rfl⟩) (fun H locs hB => ?_)
    refine lv_pop2_2 hx hb dX12_next_34 rfl ?_
    refine lv_iconst (v := (0 : Int32)) hx hb dX12_next_35 (by decide) ?_
    refine lv_istore (lv' := [(4, .int (0 : Int32)), (2, .long (0 : Int64)), (1, .int (-1 : Int32)), (0, .ref (ad o0))]) hx hb dX12_next_36 hl (by decide) rfl (fun ls hl => ?_)
    obtain ⟨n, hv⟩ := y_lp_e hv
    exact L38 h53 n (-1 : Int32) (0 : Int64) (0 : Int32) _ _ _ hB (lv_sub hl [3, 2, 1, 0] rfl) _ hv kt
  · replace hv := y_br_t hv c46
    refine lv_iconst (v := (-1 : Int32)) hx hb dX12_next_17 (by decide) ?_
    replace hv := Option.some.inj hv
    subst hv
    obtain ⟨e1, e2⟩ := y_pr kt
    rw [← e1, ← e2]
    exact z_iret hc hB hr dX12_next_18
theorem dX12_fails_0 : decode cX12_fails 0 = .ok (.aload_n 0, 1) := by decide +kernel
theorem dX12_fails_1 : decode cX12_fails 1 = .ok (.aload_n 0, 1) := by decide +kernel
theorem dX12_fails_2 : decode cX12_fails 2 = .ok (.iload_n 1, 1) := by decide +kernel
theorem dX12_fails_3 : decode cX12_fails 3 = .ok (.invokevirtual 298, 3) := by decide +kernel
theorem dX12_fails_6 : decode cX12_fails 6 = .ok (.ifCond .eq 10, 3) := by decide +kernel
theorem dX12_fails_9 : decode cX12_fails 9 = .ok (.iload_n 2, 1) := by decide +kernel
theorem dX12_fails_10 : decode cX12_fails 10 = .ok (.invokestatic 275, 3) := by decide +kernel
theorem dX12_fails_13 : decode cX12_fails 13 = .ok (.ifCond .ne 7, 3) := by decide +kernel
theorem dX12_fails_16 : decode cX12_fails 16 = .ok (.iconst 1, 1) := by decide +kernel
theorem dX12_fails_17 : decode cX12_fails 17 = .ok (.goto 4, 3) := by decide +kernel
theorem dX12_fails_20 : decode cX12_fails 20 = .ok (.iconst 0, 1) := by decide +kernel
theorem dX12_fails_21 : decode cX12_fails 21 = .ok (.invokevirtual 278, 3) := by decide +kernel
theorem dX12_fails_24 : decode cX12_fails 24 = .ok (.ifCond .eq 5, 3) := by decide +kernel
theorem dX12_fails_27 : decode cX12_fails 27 = .ok (.lconst 0, 1) := by decide +kernel
theorem dX12_fails_28 : decode cX12_fails 28 = .ok (.lreturn, 1) := by decide +kernel
theorem dX12_fails_29 : decode cX12_fails 29 = .ok (.aload_n 0, 1) := by decide +kernel
theorem dX12_fails_30 : decode cX12_fails 30 = .ok (.bipush 9, 2) := by decide +kernel
theorem dX12_fails_32 : decode cX12_fails 32 = .ok (.iload_n 1, 1) := by decide +kernel
theorem dX12_fails_33 : decode cX12_fails 33 = .ok (.invokestatic 292, 3) := by decide +kernel
theorem dX12_fails_36 : decode cX12_fails 36 = .ok (.invokevirtual 307, 3) := by decide +kernel
theorem dX12_fails_39 : decode cX12_fails 39 = .ok (.lstore_n 3, 1) := by decide +kernel
theorem dX12_fails_40 : decode cX12_fails 40 = .ok (.lconst 1, 1) := by decide +kernel
theorem dX12_fails_41 : decode cX12_fails 41 = .ok (.lstore 5, 2) := by decide +kernel
theorem dX12_fails_43 : decode cX12_fails 43 = .ok (.iconst 0, 1) := by decide +kernel
theorem dX12_fails_44 : decode cX12_fails 44 = .ok (.istore 7, 2) := by decide +kernel
theorem dX12_fails_46 : decode cX12_fails 46 = .ok (.iload 7, 2) := by decide +kernel
theorem dX12_fails_48 : decode cX12_fails 48 = .ok (.aload_n 0, 1) := by decide +kernel
theorem dX12_fails_49 : decode cX12_fails 49 = .ok (.getfield 33, 3) := by decide +kernel
theorem dX12_fails_52 : decode cX12_fails 52 = .ok (.iconst 0, 1) := by decide +kernel
theorem dX12_fails_53 : decode cX12_fails 53 = .ok (.iaload, 1) := by decide +kernel
theorem dX12_fails_54 : decode cX12_fails 54 = .ok (.if_icmp .ge 34, 3) := by decide +kernel
theorem dX12_fails_57 : decode cX12_fails 57 = .ok (.iload_n 1, 1) := by decide +kernel
theorem dX12_fails_58 : decode cX12_fails 58 = .ok (.iload 7, 2) := by decide +kernel
theorem dX12_fails_60 : decode cX12_fails 60 = .ok (.invokestatic 210, 3) := by decide +kernel
theorem dX12_fails_63 : decode cX12_fails 63 = .ok (.ifCond .eq 19, 3) := by decide +kernel
theorem dX12_fails_66 : decode cX12_fails 66 = .ok (.lload 5, 2) := by decide +kernel
theorem dX12_fails_68 : decode cX12_fails 68 = .ok (.aload_n 0, 1) := by decide +kernel
theorem dX12_fails_69 : decode cX12_fails 69 = .ok (.getfield 33, 3) := by decide +kernel
theorem dX12_fails_72 : decode cX12_fails 72 = .ok (.bipush 8, 2) := by decide +kernel
theorem dX12_fails_74 : decode cX12_fails 74 = .ok (.iload 7, 2) := by decide +kernel
theorem dX12_fails_76 : decode cX12_fails 76 = .ok (.iadd, 1) := by decide +kernel
theorem dX12_fails_77 : decode cX12_fails 77 = .ok (.iaload, 1) := by decide +kernel
theorem dX12_fails_78 : decode cX12_fails 78 = .ok (.i2l, 1) := by decide +kernel
theorem dX12_fails_79 : decode cX12_fails 79 = .ok (.lmul, 1) := by decide +kernel
theorem dX12_fails_80 : decode cX12_fails 80 = .ok (.lstore 5, 2) := by decide +kernel
theorem dX12_fails_82 : decode cX12_fails 82 = .ok (.iinc 7 1, 3) := by decide +kernel
theorem dX12_fails_85 : decode cX12_fails 85 = .ok (.goto (-39), 3) := by decide +kernel
theorem dX12_fails_88 : decode cX12_fails 88 = .ok (.lload_n 3, 1) := by decide +kernel
theorem dX12_fails_89 : decode cX12_fails 89 = .ok (.lload 5, 2) := by decide +kernel
theorem dX12_fails_91 : decode cX12_fails 91 = .ok (.lsub, 1) := by decide +kernel
theorem dX12_fails_92 : decode cX12_fails 92 = .ok (.lload_n 3, 1) := by decide +kernel
theorem dX12_fails_93 : decode cX12_fails 93 = .ok (.iload_n 2, 1) := by decide +kernel
theorem dX12_fails_94 : decode cX12_fails 94 = .ok (.invokestatic 282, 3) := by decide +kernel
theorem dX12_fails_97 : decode cX12_fails 97 = .ok (.lreturn, 1) := by decide +kernel
abbrev rm_X12_fails : Room := { frames := 2, cells := 0, slots := 0, locals := 53 }
noncomputable def fX12_fails_b82 (o0 : Nat) (x1 : Int32) (x2 : Int32) (l3 : Int64) (l5 : Int64) (x7 : Int32) (h : z_T) : Option ((Int64 × Int32) ⊕ (Int64 × z_T)) :=
  y_nm (x7 + 1) fun v1 =>
  some (.inl (l5, v1))
noncomputable def fX12_fails_b46_i (o0 : Nat) (x1 : Int32) (x2 : Int32) (l3 : Int64) (h : z_T) (l5 : Int64) (x7 : Int32) : Option ((Int64 × Int32) ⊕ (Int64 × z_T)) :=
  y_gd (z_ok h o0 11) <|
  y_bi (z_R h o0 6) fun o3 =>
  y_gd (z_ok h o3 13) <|
  y_gd (z_ix (0 : Int32) (z_N h o3)) <|
  y_br ((z_I h o3 (0 : Int32).toNatClampNeg) ≤ x7)
    (y_mp <|
    y_bi (fX12_part (l3 - l5) l3 x2) fun r10 =>
    some (r10, h))
    (y_bi (fX12_bitOf x1 x7) fun r14 =>
    y_br (r14 = 0)
      (fX12_fails_b82 o0 x1 x2 l3 l5 x7 h)
      (y_gd (z_ix ((8 : Int32) + x7) (z_N h o3)) <|
      y_nm ((l5 * ((z_I h o3 ((8 : Int32) + x7).toNatClampNeg)).toInt64)) fun v20 =>
      fX12_fails_b82 o0 x1 x2 l3 v20 x7 h))
noncomputable def fX12_fails_b46 (o0 : Nat) (x1 : Int32) (x2 : Int32) (l3 : Int64) (l5 : Int64) (x7 : Int32) (h : z_T) : Option (Int64 × z_T) := y_lp (fun q : Int64 × Int32 => fX12_fails_b46_i o0 x1 x2 l3 h q.1 q.2) (l5, x7)
noncomputable def fX12_fails_b21 (o0 : Nat) (x1 : Int32) (x2 : Int32) (s0 : Nat) (s1 : Int32) (h : z_T) : Option (Int64 × z_T) :=
  y_gd (z_ok h s0 11) <|
  y_bi (fX12_throwsIf s0 s1 h) fun ⟨r22, h26⟩ =>
  y_br (r22 = 0)
    (y_bi (fX12_bits x1) fun r30 =>
    y_gd (z_ok h26 o0 11) <|
    y_bi (fX12_power o0 (9 : Int32) r30) fun r36 =>
    fX12_fails_b46 o0 x1 x2 r36 (1 : Int64) (0 : Int32) h26)
    (some ((0 : Int64), h26))
noncomputable def fX12_fails_b16 (o0 : Nat) (x1 : Int32) (x2 : Int32) (s0 : Nat) (h : z_T) : Option (Int64 × z_T) :=
  fX12_fails_b21 o0 x1 x2 s0 (1 : Int32) h
noncomputable def fX12_fails (o0 : Nat) (x1 : Int32) (x2 : Int32) (h : z_T) : Option (Int64 × z_T) :=
  y_gd (z_ok h o0 11) <|
  y_bi (fX12_areTests o0 x1 h) fun r41 =>
  y_br (r41 = 0)
    (fX12_fails_b16 o0 x1 x2 o0 h)
    (y_bi (fX12_isPart x2) fun r48 =>
    y_br (r48 = 0)
      (fX12_fails_b16 o0 x1 x2 o0 h)
      (fX12_fails_b21 o0 x1 x2 o0 (0 : Int32) h))
set_option maxHeartbeats 4000000 in
set_option maxRecDepth 100000 in
theorem mm_X12_fails {G : z_Gt} {S : State → Prop} (hSK : z_SK S) (l : Launch) (ad : Nat → Nat) (o0 : Nat) (x1 : Int32) (x2 : Int32) (h : z_T) {r0 : Int64} {h9 : z_T} (hv : fX12_fails o0 x1 x2 h = some (r0, h9)) : z_Ml G S l yX12_fails cX12_fails 8 (.long) rm_X12_fails 0 0 [.ref (ad o0), .int x1, .int x2] ad h h9 r0 := by
  refine z_ofW hSK (by decide) (Nat.le_of_ble_eq_true rfl) ?_
  intro p e s m args below meth c ls hc hr hnm hB hl
  have hx := hc.1.1
  have hb := hc.1.2.1
  have hown := hc.1.2.2.2.1
  have hts := hc.1.2.2.2.2
  replace hc : z_C G S ad (z_n h) p m c cX12_fails 8 s args RX12 meth := hc
  replace hown : s.vm.findClass RX12 = some m.cls := hown
  replace hl : lv_has ls 8 [(0, .ref (ad o0)), (1, .int x1), (2, .int x2)] := hl
  show W p l e rm_X12_fails s m args below meth c s.heap [] 0 0 (MQ below (z_Ql G ad h9 (z_n h) s.heap.size r0) args s 0 0 (z_A ad (z_n h) s.heap.size)) (F0 m 0 ls [])
  obtain ⟨rs, kt⟩ : ∃ rs : Int64 × z_T, rs = (r0, h9) := ⟨_, rfl⟩
  generalize hn0 : z_n h = n0 at hc hB ⊢
  have L46 : ∀ (l3 : Int64) (h : z_T) (nn46 : Nat) (l5 : Int64) (x7 : Int32) (H : Heap) (locs : List Loc) (ls : Array Slot), z_B G ad n0 s h H locs → lv_has ls 8 [(0, .ref (ad o0)), (1, .int x1), (2, .int x2), (3, .long l3), (5, .long l5), (7, .int x7)] → ∀ vv46, y_lpN (fun q : Int64 × Int32 => fX12_fails_b46_i o0 x1 x2 l3 h q.1 q.2) nn46 (l5, x7) = some vv46 → vv46 = (r0, h9) → W p l e rm_X12_fails s m args below meth c H locs 0 0 (MQ below (z_Ql G ad h9 n0 s.heap.size r0) args s 0 0 (z_A ad n0 s.heap.size)) (F0 m 46 ls []) := by
    intro l3 h nn46
    induction nn46 with
    | zero => intro l5 x7 H locs ls hB hl vv46 hv kv46; exact absurd hv (fun q => y_lpN_0 q)
    | succ nn46 ih46 =>
      intro l5 x7 H locs ls hB hl vv46 hv kv46
      obtain ⟨w, hq, kw46⟩ := y_lpN_e hv
      clear hv
      have hv : fX12_fails_b46_i o0 x1 x2 l3 h l5 x7 = some w := hq
      clear hq
      have b82 : ∀ (l5 : Int64) (x7 : Int32) (H : Heap) (locs : List Loc) (ls : Array Slot), z_B G ad n0 s h H locs → lv_has ls 8 [(0, .ref (ad o0)), (1, .int x1), (2, .int x2), (3, .long l3), (5, .long l5), (7, .int x7)] → ∀ w, fX12_fails_b82 o0 x1 x2 l3 l5 x7 h = some w → y_lq (fun q : Int64 × Int32 => fX12_fails_b46_i o0 x1 x2 l3 h q.1 q.2) nn46 vv46 w → W p l e rm_X12_fails s m args below meth c H locs 0 0 (MQ below (z_Ql G ad h9 n0 s.heap.size r0) args s 0 0 (z_A ad n0 s.heap.size)) (F0 m 82 ls []) := by
        intro l5 x7 H locs ls hB hl w hv kw46
        obtain ⟨v1, ev1, hv⟩ := y_nm_e hv
        refine lv_iinc (v := v1) (lv' := [(7, .int v1), (0, .ref (ad o0)), (1, .int x1), (2, .int x2), (3, .long l3), (5, .long l5)]) hx hb dX12_fails_82 hl (k := 5) rfl (by rw [ev1]; rfl) (by decide) rfl (fun ls hl => ?_)
        refine lv_goto (tgt := 46) hx hb dX12_fails_85 (by decide) ?_
        replace hv := Option.some.inj hv
        subst hv
        exact ih46 l5 v1 _ _ _ hB (lv_sub hl [1, 2, 3, 4, 5, 0] rfl) _ kw46 kv46
      refine lv_iload hx hb dX12_fails_46 (lv_at hl 5 rfl) ?_
      refine lv_aload_n hx hb dX12_fails_48 rfl (lv_at hl 0 rfl) ?_
      obtain ⟨g2, hv⟩ := y_gd_e hv
      obtain ⟨o3, eo3, hv⟩ := y_bi_e hv
      refine z_getR hc hB 11 6 g2 eo3 (by decide) (by decide) rfl (z_l1 hc qfX12_33) dX12_fails_49 ?_
      refine lv_iconst (v := (0 : Int32)) hx hb dX12_fails_52 (by decide) ?_
      obtain ⟨g4, hv⟩ := y_gd_e hv
      obtain ⟨i5, hv⟩ := y_gd_e hv
      refine z_iald hc hB g4 i5 dX12_fails_53 ?_
      refine lv_icmp_ge (tgt := 88) hx hb dX12_fails_54 (by decide) (fun c6 => ?_) (fun c6 => ?_)
      · replace hv := y_br_t hv c6
        obtain ⟨t7, hq, ew⟩ := y_mp_e hv
        clear hv; subst ew
        replace kw46 : t7 = _ := kw46
        subst kw46
        have hv := hq
        clear hq
        refine lv_lload_n hx hb dX12_fails_88 rfl (lv_at hl 3 rfl) ?_
        refine lv_lload hx hb dX12_fails_89 (lv_at hl 4 rfl) ?_
        refine lv_lsub hx hb dX12_fails_91 ?_
        refine lv_lload_n hx hb dX12_fails_92 rfl (lv_at hl 3 rfl) ?_
        refine lv_iload_n hx hb dX12_fails_93 rfl (lv_at hl 2 rfl) ?_
        obtain ⟨r10, c8, hv⟩ := y_bi_e hv
        refine z_thL hc hB (z_runS hc hB (mm_X12_part hSK l ad (l3 - l5) l3 x2 h c8) md_X12_part qmX12_282 rfl rfl ⟨Nat.le_of_ble_eq_true rfl, Nat.le_of_ble_eq_true rfl⟩ rfl hl.1 rfl (Nat.le_of_ble_eq_true rfl) dX12_fails_94 ⟨Nat.le_of_ble_eq_true rfl, Nat.le_of_ble_eq_true rfl⟩) (fun H locs hB => ?_)
        replace hv := Option.some.inj hv
        subst hv
        obtain ⟨e1, e2⟩ := y_pr kv46
        rw [← e1, ← e2]
        exact z_lret hc hB hr dX12_fails_97
      · replace hv := y_br_f hv c6
        refine lv_iload_n hx hb dX12_fails_57 rfl (lv_at hl 1 rfl) ?_
        refine lv_iload hx hb dX12_fails_58 (lv_at hl 5 rfl) ?_
        obtain ⟨r14, c13, hv⟩ := y_bi_e hv
        refine z_thI hc hB (z_runS hc hB (mm_X12_bitOf hSK l ad x1 x7 h c13) md_X12_bitOf qmX12_210 rfl rfl ⟨Nat.le_of_ble_eq_true rfl, Nat.le_of_ble_eq_true rfl⟩ rfl hl.1 rfl (Nat.le_of_ble_eq_true rfl) dX12_fails_60 ⟨Nat.le_of_ble_eq_true rfl, Nat.le_of_ble_eq_true rfl⟩) (fun H locs hB => ?_)
        refine lv_if_eq (tgt := 82) hx hb dX12_fails_63 (by decide) (fun c18 => ?_) (fun c18 => ?_)
        · replace hv := y_br_t hv c18
          exact b82 l5 x7 _ _ _ hB (lv_sub hl [0, 1, 2, 3, 4, 5] rfl) _ hv kw46
        · replace hv := y_br_f hv c18
          refine lv_lload hx hb dX12_fails_66 (lv_at hl 4 rfl) ?_
          refine lv_aload_n hx hb dX12_fails_68 rfl (lv_at hl 0 rfl) ?_
          refine z_getR hc hB 11 6 g2 eo3 (by decide) (by decide) rfl (z_l1 hc qfX12_33) dX12_fails_69 ?_
          refine lv_bipush (v := (8 : Int32)) hx hb dX12_fails_72 (by decide) ?_
          refine lv_iload hx hb dX12_fails_74 (lv_at hl 5 rfl) ?_
          refine lv_iadd hx hb dX12_fails_76 ?_
          obtain ⟨i19, hv⟩ := y_gd_e hv
          refine z_iald hc hB g4 i19 dX12_fails_77 ?_
          refine lv_i2l hx hb dX12_fails_78 rfl ?_
          refine lv_lmul hx hb dX12_fails_79 ?_
          obtain ⟨v20, ev20, hv⟩ := y_nm_e hv
          rw [← ev20]
          refine lv_lstore (lv' := [(5, .long v20), (0, .ref (ad o0)), (1, .int x1), (2, .int x2), (3, .long l3), (7, .int x7)]) hx hb dX12_fails_80 hl (by decide) rfl (fun ls hl => ?_)
          exact b82 v20 x7 _ _ _ hB (lv_sub hl [1, 2, 3, 4, 0, 5] rfl) _ hv kw46
  have b21 : ∀ (s0 : Nat) (s1 : Int32) (h : z_T) (H : Heap) (locs : List Loc) (ls : Array Slot), z_B G ad n0 s h H locs → lv_has ls 8 [(0, .ref (ad o0)), (1, .int x1), (2, .int x2)] → ∀ w, fX12_fails_b21 o0 x1 x2 s0 s1 h = some w → w = (r0, h9) → W p l e rm_X12_fails s m args below meth c H locs 0 0 (MQ below (z_Ql G ad h9 n0 s.heap.size r0) args s 0 0 (z_A ad n0 s.heap.size)) (F0 m 21 ls [.int s1, .ref (ad s0)]) := by
    intro s0 s1 h H locs ls hB hl w hv kb
    obtain ⟨g27, hv⟩ := y_gd_e hv
    obtain ⟨⟨r22, h26⟩, c21, hv⟩ := y_bi_e hv
    refine z_thI hc hB (z_runV hc hB 11 (mm_X12_throwsIf hSK l ad s0 s1 h c21) md_X12_throwsIf qmX12_278 g27 (by decide) rfl rfl rfl ⟨Nat.le_of_ble_eq_true rfl, Nat.le_of_ble_eq_true rfl⟩ rfl hl.1 rfl (Nat.le_of_ble_eq_true rfl) dX12_fails_21 ⟨Nat.le_of_ble_eq_true rfl, Nat.le_of_ble_eq_true rfl⟩) (fun H locs hB => ?_)
    refine lv_if_eq (tgt := 29) hx hb dX12_fails_24 (by decide) (fun c28 => ?_) (fun c28 => ?_)
    · replace hv := y_br_t hv c28
      refine lv_aload_n hx hb dX12_fails_29 rfl (lv_at hl 0 rfl) ?_
      refine lv_bipush (v := (9 : Int32)) hx hb dX12_fails_30 (by decide) ?_
      refine lv_iload_n hx hb dX12_fails_32 rfl (lv_at hl 1 rfl) ?_
      obtain ⟨r30, c29, hv⟩ := y_bi_e hv
      refine z_thI hc hB (z_runS hc hB (mm_X12_bits hSK l ad x1 h26 c29) md_X12_bits qmX12_292 rfl rfl ⟨Nat.le_of_ble_eq_true rfl, Nat.le_of_ble_eq_true rfl⟩ rfl hl.1 rfl (Nat.le_of_ble_eq_true rfl) dX12_fails_33 ⟨Nat.le_of_ble_eq_true rfl, Nat.le_of_ble_eq_true rfl⟩) (fun H locs hB => ?_)
      obtain ⟨g39, hv⟩ := y_gd_e hv
      obtain ⟨r36, c34, hv⟩ := y_bi_e hv
      refine z_thL hc hB (z_runV hc hB 11 (mm_X12_power hSK l ad o0 (9 : Int32) r30 h26 c34) md_X12_power qmX12_307 g39 (by decide) rfl rfl rfl ⟨Nat.le_of_ble_eq_true rfl, Nat.le_of_ble_eq_true rfl⟩ rfl hl.1 rfl (Nat.le_of_ble_eq_true rfl) dX12_fails_36 ⟨Nat.le_of_ble_eq_true rfl, Nat.le_of_ble_eq_true rfl⟩) (fun H locs hB => ?_)
      refine lv_lstore_n (lv' := [(3, .long r36), (0, .ref (ad o0)), (1, .int x1), (2, .int x2)]) hx hb dX12_fails_39 rfl hl (by decide) rfl (fun ls hl => ?_)
      refine lv_lconst (v := (1 : Int64)) hx hb dX12_fails_40 (by decide) ?_
      refine lv_lstore (lv' := [(5, .long (1 : Int64)), (3, .long r36), (0, .ref (ad o0)), (1, .int x1), (2, .int x2)]) hx hb dX12_fails_41 hl (by decide) rfl (fun ls hl => ?_)
      refine lv_iconst (v := (0 : Int32)) hx hb dX12_fails_43 (by decide) ?_
      refine lv_istore (lv' := [(7, .int (0 : Int32)), (5, .long (1 : Int64)), (3, .long r36), (0, .ref (ad o0)), (1, .int x1), (2, .int x2)]) hx hb dX12_fails_44 hl (by decide) rfl (fun ls hl => ?_)
      obtain ⟨n, hv⟩ := y_lp_e hv
      exact L46 r36 h26 n (1 : Int64) (0 : Int32) _ _ _ hB (lv_sub hl [3, 4, 5, 2, 1, 0] rfl) _ hv kb
    · replace hv := y_br_f hv c28
      refine lv_lconst (v := (0 : Int64)) hx hb dX12_fails_27 (by decide) ?_
      replace hv := Option.some.inj hv
      subst hv
      obtain ⟨e1, e2⟩ := y_pr kb
      rw [← e1, ← e2]
      exact z_lret hc hB hr dX12_fails_28
  have b16 : ∀ (s0 : Nat) (h : z_T) (H : Heap) (locs : List Loc) (ls : Array Slot), z_B G ad n0 s h H locs → lv_has ls 8 [(0, .ref (ad o0)), (1, .int x1), (2, .int x2)] → ∀ w, fX12_fails_b16 o0 x1 x2 s0 h = some w → w = (r0, h9) → W p l e rm_X12_fails s m args below meth c H locs 0 0 (MQ below (z_Ql G ad h9 n0 s.heap.size r0) args s 0 0 (z_A ad n0 s.heap.size)) (F0 m 16 ls [.ref (ad s0)]) := by
    intro s0 h H locs ls hB hl w hv kb
    refine lv_iconst (v := (1 : Int32)) hx hb dX12_fails_16 (by decide) ?_
    refine lv_goto (tgt := 21) hx hb dX12_fails_17 (by decide) ?_
    exact b21 s0 (1 : Int32) h _ _ _ hB (lv_sub hl [0, 1, 2] rfl) _ hv kb
  rw [← kt] at hv
  refine lv_aload_n hx hb dX12_fails_0 rfl (lv_at hl 0 rfl) ?_
  refine lv_aload_n hx hb dX12_fails_1 rfl (lv_at hl 0 rfl) ?_
  refine lv_iload_n hx hb dX12_fails_2 rfl (lv_at hl 1 rfl) ?_
  obtain ⟨g45, hv⟩ := y_gd_e hv
  obtain ⟨r41, c40, hv⟩ := y_bi_e hv
  refine z_thI hc hB (z_runV hc hB 11 (mm_X12_areTests hSK l ad o0 x1 h c40) md_X12_areTests qmX12_298 g45 (by decide) rfl rfl rfl ⟨Nat.le_of_ble_eq_true rfl, Nat.le_of_ble_eq_true rfl⟩ rfl hl.1 rfl (Nat.le_of_ble_eq_true rfl) dX12_fails_3 ⟨Nat.le_of_ble_eq_true rfl, Nat.le_of_ble_eq_true rfl⟩) (fun H locs hB => ?_)
  refine lv_if_eq (tgt := 16) hx hb dX12_fails_6 (by decide) (fun c46 => ?_) (fun c46 => ?_)
  · replace hv := y_br_t hv c46
    exact b16 o0 h _ _ _ hB (lv_sub hl [0, 1, 2] rfl) _ hv kt
  · replace hv := y_br_f hv c46
    refine lv_iload_n hx hb dX12_fails_9 rfl (lv_at hl 2 rfl) ?_
    obtain ⟨r48, c47, hv⟩ := y_bi_e hv
    refine z_thI hc hB (z_runS hc hB (mm_X12_isPart hSK l ad x2 h c47) md_X12_isPart qmX12_275 rfl rfl ⟨Nat.le_of_ble_eq_true rfl, Nat.le_of_ble_eq_true rfl⟩ rfl hl.1 rfl (Nat.le_of_ble_eq_true rfl) dX12_fails_10 ⟨Nat.le_of_ble_eq_true rfl, Nat.le_of_ble_eq_true rfl⟩) (fun H locs hB => ?_)
    refine lv_if_ne (tgt := 20) hx hb dX12_fails_13 (by decide) (fun c52 => ?_) (fun c52 => ?_)
    · replace hv := y_br_f hv c52
      refine lv_iconst (v := (0 : Int32)) hx hb dX12_fails_20 (by decide) ?_
      exact b21 o0 (0 : Int32) h _ _ _ hB (lv_sub hl [0, 1, 2] rfl) _ hv kt
    · replace hv := y_br_t hv c52
      exact b16 o0 h _ _ _ hB (lv_sub hl [0, 1, 2] rfl) _ hv kt
theorem dX12_deep_0 : decode cX12_deep 0 = .ok (.aload_n 0, 1) := by decide +kernel
theorem dX12_deep_1 : decode cX12_deep 1 = .ok (.iload_n 1, 1) := by decide +kernel
theorem dX12_deep_2 : decode cX12_deep 2 = .ok (.iconst 0, 1) := by decide +kernel
theorem dX12_deep_3 : decode cX12_deep 3 = .ok (.bipush 8, 2) := by decide +kernel
theorem dX12_deep_5 : decode cX12_deep 5 = .ok (.invokestatic 188, 3) := by decide +kernel
theorem dX12_deep_8 : decode cX12_deep 8 = .ok (.ifCond .eq 10, 3) := by decide +kernel
theorem dX12_deep_11 : decode cX12_deep 11 = .ok (.iload_n 2, 1) := by decide +kernel
theorem dX12_deep_12 : decode cX12_deep 12 = .ok (.invokestatic 275, 3) := by decide +kernel
theorem dX12_deep_15 : decode cX12_deep 15 = .ok (.ifCond .ne 7, 3) := by decide +kernel
theorem dX12_deep_18 : decode cX12_deep 18 = .ok (.iconst 1, 1) := by decide +kernel
theorem dX12_deep_19 : decode cX12_deep 19 = .ok (.goto 4, 3) := by decide +kernel
theorem dX12_deep_22 : decode cX12_deep 22 = .ok (.iconst 0, 1) := by decide +kernel
theorem dX12_deep_23 : decode cX12_deep 23 = .ok (.invokevirtual 278, 3) := by decide +kernel
theorem dX12_deep_26 : decode cX12_deep 26 = .ok (.ifCond .eq 5, 3) := by decide +kernel
theorem dX12_deep_29 : decode cX12_deep 29 = .ok (.lconst 0, 1) := by decide +kernel
theorem dX12_deep_30 : decode cX12_deep 30 = .ok (.lreturn, 1) := by decide +kernel
theorem dX12_deep_31 : decode cX12_deep 31 = .ok (.aload_n 0, 1) := by decide +kernel
theorem dX12_deep_32 : decode cX12_deep 32 = .ok (.aload_n 0, 1) := by decide +kernel
theorem dX12_deep_33 : decode cX12_deep 33 = .ok (.invokevirtual 304, 3) := by decide +kernel
theorem dX12_deep_36 : decode cX12_deep 36 = .ok (.aload_n 0, 1) := by decide +kernel
theorem dX12_deep_37 : decode cX12_deep 37 = .ok (.getfield 33, 3) := by decide +kernel
theorem dX12_deep_40 : decode cX12_deep 40 = .ok (.iconst 2, 1) := by decide +kernel
theorem dX12_deep_41 : decode cX12_deep 41 = .ok (.iaload, 1) := by decide +kernel
theorem dX12_deep_42 : decode cX12_deep 42 = .ok (.isub, 1) := by decide +kernel
theorem dX12_deep_43 : decode cX12_deep 43 = .ok (.iload_n 1, 1) := by decide +kernel
theorem dX12_deep_44 : decode cX12_deep 44 = .ok (.invokevirtual 307, 3) := by decide +kernel
theorem dX12_deep_47 : decode cX12_deep 47 = .ok (.aload_n 0, 1) := by decide +kernel
theorem dX12_deep_48 : decode cX12_deep 48 = .ok (.aload_n 0, 1) := by decide +kernel
theorem dX12_deep_49 : decode cX12_deep 49 = .ok (.invokevirtual 304, 3) := by decide +kernel
theorem dX12_deep_52 : decode cX12_deep 52 = .ok (.iload_n 1, 1) := by decide +kernel
theorem dX12_deep_53 : decode cX12_deep 53 = .ok (.invokevirtual 307, 3) := by decide +kernel
theorem dX12_deep_56 : decode cX12_deep 56 = .ok (.iload_n 2, 1) := by decide +kernel
theorem dX12_deep_57 : decode cX12_deep 57 = .ok (.invokestatic 282, 3) := by decide +kernel
theorem dX12_deep_60 : decode cX12_deep 60 = .ok (.lreturn, 1) := by decide +kernel
abbrev rm_X12_deep : Room := { frames := 2, cells := 0, slots := 0, locals := 53 }
noncomputable def fX12_deep_b23 (o0 : Nat) (x1 : Int32) (x2 : Int32) (s0 : Nat) (s1 : Int32) (h : z_T) : Option (Int64 × z_T) :=
  y_gd (z_ok h s0 11) <|
  y_bi (fX12_throwsIf s0 s1 h) fun ⟨r2, h6⟩ =>
  y_br (r2 = 0)
    (y_gd (z_ok h6 o0 11) <|
    y_bi (fX12_allWeights o0 h6) fun r10 =>
    y_bi (z_R h6 o0 6) fun o15 =>
    y_gd (z_ok h6 o15 13) <|
    y_gd (z_ix (2 : Int32) (z_N h6 o15)) <|
    y_bi (fX12_power o0 (r10 - (z_I h6 o15 (2 : Int32).toNatClampNeg)) x1) fun r20 =>
    y_bi (fX12_allWeights o0 h6) fun r24 =>
    y_bi (fX12_power o0 r24 x1) fun r30 =>
    y_bi (fX12_part r20 r30 x2) fun r35 =>
    some (r35, h6))
    (some ((0 : Int64), h6))
noncomputable def fX12_deep_b18 (o0 : Nat) (x1 : Int32) (x2 : Int32) (s0 : Nat) (h : z_T) : Option (Int64 × z_T) :=
  fX12_deep_b23 o0 x1 x2 s0 (1 : Int32) h
noncomputable def fX12_deep (o0 : Nat) (x1 : Int32) (x2 : Int32) (h : z_T) : Option (Int64 × z_T) :=
  y_bi (fX12_isIn x1 (0 : Int32) (8 : Int32)) fun r39 =>
  y_br (r39 = 0)
    (fX12_deep_b18 o0 x1 x2 o0 h)
    (y_bi (fX12_isPart x2) fun r45 =>
    y_br (r45 = 0)
      (fX12_deep_b18 o0 x1 x2 o0 h)
      (fX12_deep_b23 o0 x1 x2 o0 (0 : Int32) h))
set_option maxHeartbeats 4000000 in
set_option maxRecDepth 100000 in
theorem mm_X12_deep {G : z_Gt} {S : State → Prop} (hSK : z_SK S) (l : Launch) (ad : Nat → Nat) (o0 : Nat) (x1 : Int32) (x2 : Int32) (h : z_T) {r0 : Int64} {h9 : z_T} (hv : fX12_deep o0 x1 x2 h = some (r0, h9)) : z_Ml G S l yX12_deep cX12_deep 3 (.long) rm_X12_deep 0 0 [.ref (ad o0), .int x1, .int x2] ad h h9 r0 := by
  refine z_ofW hSK (by decide) (Nat.le_of_ble_eq_true rfl) ?_
  intro p e s m args below meth c ls hc hr hnm hB hl
  have hx := hc.1.1
  have hb := hc.1.2.1
  have hown := hc.1.2.2.2.1
  have hts := hc.1.2.2.2.2
  replace hc : z_C G S ad (z_n h) p m c cX12_deep 3 s args RX12 meth := hc
  replace hown : s.vm.findClass RX12 = some m.cls := hown
  replace hl : lv_has ls 3 [(0, .ref (ad o0)), (1, .int x1), (2, .int x2)] := hl
  show W p l e rm_X12_deep s m args below meth c s.heap [] 0 0 (MQ below (z_Ql G ad h9 (z_n h) s.heap.size r0) args s 0 0 (z_A ad (z_n h) s.heap.size)) (F0 m 0 ls [])
  obtain ⟨rs, kt⟩ : ∃ rs : Int64 × z_T, rs = (r0, h9) := ⟨_, rfl⟩
  generalize hn0 : z_n h = n0 at hc hB ⊢
  have b23 : ∀ (s0 : Nat) (s1 : Int32) (h : z_T) (H : Heap) (locs : List Loc) (ls : Array Slot), z_B G ad n0 s h H locs → lv_has ls 3 [(0, .ref (ad o0)), (1, .int x1), (2, .int x2)] → ∀ w, fX12_deep_b23 o0 x1 x2 s0 s1 h = some w → w = (r0, h9) → W p l e rm_X12_deep s m args below meth c H locs 0 0 (MQ below (z_Ql G ad h9 n0 s.heap.size r0) args s 0 0 (z_A ad n0 s.heap.size)) (F0 m 23 ls [.int s1, .ref (ad s0)]) := by
    intro s0 s1 h H locs ls hB hl w hv kb
    obtain ⟨g7, hv⟩ := y_gd_e hv
    obtain ⟨⟨r2, h6⟩, c1, hv⟩ := y_bi_e hv
    refine z_thI hc hB (z_runV hc hB 11 (mm_X12_throwsIf hSK l ad s0 s1 h c1) md_X12_throwsIf qmX12_278 g7 (by decide) rfl rfl rfl ⟨Nat.le_of_ble_eq_true rfl, Nat.le_of_ble_eq_true rfl⟩ rfl hl.1 rfl (Nat.le_of_ble_eq_true rfl) dX12_deep_23 ⟨Nat.le_of_ble_eq_true rfl, Nat.le_of_ble_eq_true rfl⟩) (fun H locs hB => ?_)
    refine lv_if_eq (tgt := 31) hx hb dX12_deep_26 (by decide) (fun c8 => ?_) (fun c8 => ?_)
    · replace hv := y_br_t hv c8
      refine lv_aload_n hx hb dX12_deep_31 rfl (lv_at hl 0 rfl) ?_
      refine lv_aload_n hx hb dX12_deep_32 rfl (lv_at hl 0 rfl) ?_
      obtain ⟨g14, hv⟩ := y_gd_e hv
      obtain ⟨r10, c9, hv⟩ := y_bi_e hv
      refine z_thI hc hB (z_runV hc hB 11 (mm_X12_allWeights hSK l ad o0 h6 c9) md_X12_allWeights qmX12_304 g14 (by decide) rfl rfl rfl ⟨Nat.le_of_ble_eq_true rfl, Nat.le_of_ble_eq_true rfl⟩ rfl hl.1 rfl (Nat.le_of_ble_eq_true rfl) dX12_deep_33 ⟨Nat.le_of_ble_eq_true rfl, Nat.le_of_ble_eq_true rfl⟩) (fun H locs hB => ?_)
      refine lv_aload_n hx hb dX12_deep_36 rfl (lv_at hl 0 rfl) ?_
      obtain ⟨o15, eo15, hv⟩ := y_bi_e hv
      refine z_getR hc hB 11 6 g14 eo15 (by decide) (by decide) rfl (z_l1 hc qfX12_33) dX12_deep_37 ?_
      refine lv_iconst (v := (2 : Int32)) hx hb dX12_deep_40 (by decide) ?_
      obtain ⟨g16, hv⟩ := y_gd_e hv
      obtain ⟨i17, hv⟩ := y_gd_e hv
      refine z_iald hc hB g16 i17 dX12_deep_41 ?_
      refine lv_isub hx hb dX12_deep_42 ?_
      refine lv_iload_n hx hb dX12_deep_43 rfl (lv_at hl 1 rfl) ?_
      obtain ⟨r20, c18, hv⟩ := y_bi_e hv
      refine z_thL hc hB (z_runV hc hB 11 (mm_X12_power hSK l ad o0 (r10 - (z_I h6 o15 (2 : Int32).toNatClampNeg)) x1 h6 c18) md_X12_power qmX12_307 g14 (by decide) rfl rfl rfl ⟨Nat.le_of_ble_eq_true rfl, Nat.le_of_ble_eq_true rfl⟩ rfl hl.1 rfl (Nat.le_of_ble_eq_true rfl) dX12_deep_44 ⟨Nat.le_of_ble_eq_true rfl, Nat.le_of_ble_eq_true rfl⟩) (fun H locs hB => ?_)
      refine lv_aload_n hx hb dX12_deep_47 rfl (lv_at hl 0 rfl) ?_
      refine lv_aload_n hx hb dX12_deep_48 rfl (lv_at hl 0 rfl) ?_
      obtain ⟨r24, c23, hv⟩ := y_bi_e hv
      refine z_thI hc hB (z_runV hc hB 11 (mm_X12_allWeights hSK l ad o0 h6 c23) md_X12_allWeights qmX12_304 g14 (by decide) rfl rfl rfl ⟨Nat.le_of_ble_eq_true rfl, Nat.le_of_ble_eq_true rfl⟩ rfl hl.1 rfl (Nat.le_of_ble_eq_true rfl) dX12_deep_49 ⟨Nat.le_of_ble_eq_true rfl, Nat.le_of_ble_eq_true rfl⟩) (fun H locs hB => ?_)
      refine lv_iload_n hx hb dX12_deep_52 rfl (lv_at hl 1 rfl) ?_
      obtain ⟨r30, c28, hv⟩ := y_bi_e hv
      refine z_thL hc hB (z_runV hc hB 11 (mm_X12_power hSK l ad o0 r24 x1 h6 c28) md_X12_power qmX12_307 g14 (by decide) rfl rfl rfl ⟨Nat.le_of_ble_eq_true rfl, Nat.le_of_ble_eq_true rfl⟩ rfl hl.1 rfl (Nat.le_of_ble_eq_true rfl) dX12_deep_53 ⟨Nat.le_of_ble_eq_true rfl, Nat.le_of_ble_eq_true rfl⟩) (fun H locs hB => ?_)
      refine lv_iload_n hx hb dX12_deep_56 rfl (lv_at hl 2 rfl) ?_
      obtain ⟨r35, c33, hv⟩ := y_bi_e hv
      refine z_thL hc hB (z_runS hc hB (mm_X12_part hSK l ad r20 r30 x2 h6 c33) md_X12_part qmX12_282 rfl rfl ⟨Nat.le_of_ble_eq_true rfl, Nat.le_of_ble_eq_true rfl⟩ rfl hl.1 rfl (Nat.le_of_ble_eq_true rfl) dX12_deep_57 ⟨Nat.le_of_ble_eq_true rfl, Nat.le_of_ble_eq_true rfl⟩) (fun H locs hB => ?_)
      replace hv := Option.some.inj hv
      subst hv
      obtain ⟨e1, e2⟩ := y_pr kb
      rw [← e1, ← e2]
      exact z_lret hc hB hr dX12_deep_60
    · replace hv := y_br_f hv c8
      refine lv_lconst (v := (0 : Int64)) hx hb dX12_deep_29 (by decide) ?_
      replace hv := Option.some.inj hv
      subst hv
      obtain ⟨e1, e2⟩ := y_pr kb
      rw [← e1, ← e2]
      exact z_lret hc hB hr dX12_deep_30
  have b18 : ∀ (s0 : Nat) (h : z_T) (H : Heap) (locs : List Loc) (ls : Array Slot), z_B G ad n0 s h H locs → lv_has ls 3 [(0, .ref (ad o0)), (1, .int x1), (2, .int x2)] → ∀ w, fX12_deep_b18 o0 x1 x2 s0 h = some w → w = (r0, h9) → W p l e rm_X12_deep s m args below meth c H locs 0 0 (MQ below (z_Ql G ad h9 n0 s.heap.size r0) args s 0 0 (z_A ad n0 s.heap.size)) (F0 m 18 ls [.ref (ad s0)]) := by
    intro s0 h H locs ls hB hl w hv kb
    refine lv_iconst (v := (1 : Int32)) hx hb dX12_deep_18 (by decide) ?_
    refine lv_goto (tgt := 23) hx hb dX12_deep_19 (by decide) ?_
    exact b23 s0 (1 : Int32) h _ _ _ hB (lv_sub hl [0, 1, 2] rfl) _ hv kb
  rw [← kt] at hv
  refine lv_aload_n hx hb dX12_deep_0 rfl (lv_at hl 0 rfl) ?_
  refine lv_iload_n hx hb dX12_deep_1 rfl (lv_at hl 1 rfl) ?_
  refine lv_iconst (v := (0 : Int32)) hx hb dX12_deep_2 (by decide) ?_
  refine lv_bipush (v := (8 : Int32)) hx hb dX12_deep_3 (by decide) ?_
  obtain ⟨r39, c38, hv⟩ := y_bi_e hv
  refine z_thI hc hB (z_runS hc hB (mm_X12_isIn hSK l ad x1 (0 : Int32) (8 : Int32) h c38) md_X12_isIn qmX12_188 rfl rfl ⟨Nat.le_of_ble_eq_true rfl, Nat.le_of_ble_eq_true rfl⟩ rfl hl.1 rfl (Nat.le_of_ble_eq_true rfl) dX12_deep_5 ⟨Nat.le_of_ble_eq_true rfl, Nat.le_of_ble_eq_true rfl⟩) (fun H locs hB => ?_)
  refine lv_if_eq (tgt := 18) hx hb dX12_deep_8 (by decide) (fun c43 => ?_) (fun c43 => ?_)
  · replace hv := y_br_t hv c43
    exact b18 o0 h _ _ _ hB (lv_sub hl [0, 1, 2] rfl) _ hv kt
  · replace hv := y_br_f hv c43
    refine lv_iload_n hx hb dX12_deep_11 rfl (lv_at hl 2 rfl) ?_
    obtain ⟨r45, c44, hv⟩ := y_bi_e hv
    refine z_thI hc hB (z_runS hc hB (mm_X12_isPart hSK l ad x2 h c44) md_X12_isPart qmX12_275 rfl rfl ⟨Nat.le_of_ble_eq_true rfl, Nat.le_of_ble_eq_true rfl⟩ rfl hl.1 rfl (Nat.le_of_ble_eq_true rfl) dX12_deep_12 ⟨Nat.le_of_ble_eq_true rfl, Nat.le_of_ble_eq_true rfl⟩) (fun H locs hB => ?_)
    refine lv_if_ne (tgt := 22) hx hb dX12_deep_15 (by decide) (fun c49 => ?_) (fun c49 => ?_)
    · replace hv := y_br_f hv c49
      refine lv_iconst (v := (0 : Int32)) hx hb dX12_deep_22 (by decide) ?_
      exact b23 o0 (0 : Int32) h _ _ _ hB (lv_sub hl [0, 1, 2] rfl) _ hv kt
    · replace hv := y_br_t hv c49
      exact b18 o0 h _ _ _ hB (lv_sub hl [0, 1, 2] rfl) _ hv kt
theorem dX12_tells_0 : decode cX12_tells 0 = .ok (.aload_n 0, 1) := by decide +kernel
theorem dX12_tells_1 : decode cX12_tells 1 = .ok (.aload_n 0, 1) := by decide +kernel
theorem dX12_tells_2 : decode cX12_tells 2 = .ok (.iload_n 1, 1) := by decide +kernel
theorem dX12_tells_3 : decode cX12_tells 3 = .ok (.invokevirtual 241, 3) := by decide +kernel
theorem dX12_tells_6 : decode cX12_tells 6 = .ok (.ifCond .eq 10, 3) := by decide +kernel
theorem dX12_tells_9 : decode cX12_tells 9 = .ok (.iload_n 2, 1) := by decide +kernel
theorem dX12_tells_10 : decode cX12_tells 10 = .ok (.invokestatic 275, 3) := by decide +kernel
theorem dX12_tells_13 : decode cX12_tells 13 = .ok (.ifCond .ne 7, 3) := by decide +kernel
theorem dX12_tells_16 : decode cX12_tells 16 = .ok (.iconst 1, 1) := by decide +kernel
theorem dX12_tells_17 : decode cX12_tells 17 = .ok (.goto 4, 3) := by decide +kernel
theorem dX12_tells_20 : decode cX12_tells 20 = .ok (.iconst 0, 1) := by decide +kernel
theorem dX12_tells_21 : decode cX12_tells 21 = .ok (.invokevirtual 278, 3) := by decide +kernel
theorem dX12_tells_24 : decode cX12_tells 24 = .ok (.ifCond .eq 5, 3) := by decide +kernel
theorem dX12_tells_27 : decode cX12_tells 27 = .ok (.lconst 0, 1) := by decide +kernel
theorem dX12_tells_28 : decode cX12_tells 28 = .ok (.lreturn, 1) := by decide +kernel
theorem dX12_tells_29 : decode cX12_tells 29 = .ok (.aload_n 0, 1) := by decide +kernel
theorem dX12_tells_30 : decode cX12_tells 30 = .ok (.aload_n 0, 1) := by decide +kernel
theorem dX12_tells_31 : decode cX12_tells 31 = .ok (.getfield 33, 3) := by decide +kernel
theorem dX12_tells_34 : decode cX12_tells 34 = .ok (.bipush 36, 2) := by decide +kernel
theorem dX12_tells_36 : decode cX12_tells 36 = .ok (.iaload, 1) := by decide +kernel
theorem dX12_tells_37 : decode cX12_tells 37 = .ok (.invokevirtual 264, 3) := by decide +kernel
theorem dX12_tells_40 : decode cX12_tells 40 = .ok (.lstore_n 3, 1) := by decide +kernel
theorem dX12_tells_41 : decode cX12_tells 41 = .ok (.lconst 0, 1) := by decide +kernel
theorem dX12_tells_42 : decode cX12_tells 42 = .ok (.lstore 5, 2) := by decide +kernel
theorem dX12_tells_44 : decode cX12_tells 44 = .ok (.iconst 0, 1) := by decide +kernel
theorem dX12_tells_45 : decode cX12_tells 45 = .ok (.istore 7, 2) := by decide +kernel
theorem dX12_tells_47 : decode cX12_tells 47 = .ok (.iload 7, 2) := by decide +kernel
theorem dX12_tells_49 : decode cX12_tells 49 = .ok (.aload_n 0, 1) := by decide +kernel
theorem dX12_tells_50 : decode cX12_tells 50 = .ok (.invokevirtual 253, 3) := by decide +kernel
theorem dX12_tells_53 : decode cX12_tells 53 = .ok (.if_icmp .ge 37, 3) := by decide +kernel
theorem dX12_tells_56 : decode cX12_tells 56 = .ok (.lload 5, 2) := by decide +kernel
theorem dX12_tells_58 : decode cX12_tells 58 = .ok (.aload_n 0, 1) := by decide +kernel
theorem dX12_tells_59 : decode cX12_tells 59 = .ok (.getfield 50, 3) := by decide +kernel
theorem dX12_tells_62 : decode cX12_tells 62 = .ok (.iload 7, 2) := by decide +kernel
theorem dX12_tells_64 : decode cX12_tells 64 = .ok (.laload, 1) := by decide +kernel
theorem dX12_tells_65 : decode cX12_tells 65 = .ok (.aload_n 0, 1) := by decide +kernel
theorem dX12_tells_66 : decode cX12_tells 66 = .ok (.iload 7, 2) := by decide +kernel
theorem dX12_tells_68 : decode cX12_tells 68 = .ok (.iload_n 1, 1) := by decide +kernel
theorem dX12_tells_69 : decode cX12_tells 69 = .ok (.aload_n 0, 1) := by decide +kernel
theorem dX12_tells_70 : decode cX12_tells 70 = .ok (.getfield 33, 3) := by decide +kernel
theorem dX12_tells_73 : decode cX12_tells 73 = .ok (.bipush 36, 2) := by decide +kernel
theorem dX12_tells_75 : decode cX12_tells 75 = .ok (.iaload, 1) := by decide +kernel
theorem dX12_tells_76 : decode cX12_tells 76 = .ok (.invokevirtual 260, 3) := by decide +kernel
theorem dX12_tells_79 : decode cX12_tells 79 = .ok (.i2l, 1) := by decide +kernel
theorem dX12_tells_80 : decode cX12_tells 80 = .ok (.lmul, 1) := by decide +kernel
theorem dX12_tells_81 : decode cX12_tells 81 = .ok (.ladd, 1) := by decide +kernel
theorem dX12_tells_82 : decode cX12_tells 82 = .ok (.lstore 5, 2) := by decide +kernel
theorem dX12_tells_84 : decode cX12_tells 84 = .ok (.iinc 7 1, 3) := by decide +kernel
theorem dX12_tells_87 : decode cX12_tells 87 = .ok (.goto (-40), 3) := by decide +kernel
theorem dX12_tells_90 : decode cX12_tells 90 = .ok (.lload 5, 2) := by decide +kernel
theorem dX12_tells_92 : decode cX12_tells 92 = .ok (.ldc2_w 379, 3) := by decide +kernel
theorem dX12_tells_95 : decode cX12_tells 95 = .ok (.lload_n 3, 1) := by decide +kernel
theorem dX12_tells_96 : decode cX12_tells 96 = .ok (.lmul, 1) := by decide +kernel
theorem dX12_tells_97 : decode cX12_tells 97 = .ok (.iload_n 2, 1) := by decide +kernel
theorem dX12_tells_98 : decode cX12_tells 98 = .ok (.invokestatic 282, 3) := by decide +kernel
theorem dX12_tells_101 : decode cX12_tells 101 = .ok (.lreturn, 1) := by decide +kernel
abbrev rm_X12_tells : Room := { frames := 4, cells := 0, slots := 0, locals := 92 }
noncomputable def fX12_tells_b47_i (o0 : Nat) (x1 : Int32) (x2 : Int32) (l3 : Int64) (h : z_T) (l5 : Int64) (x7 : Int32) : Option ((Int64 × Int32) ⊕ (Int64 × z_T)) :=
  y_gd (z_ok h o0 11) <|
  y_bi (fX12_places o0 h) fun r2 =>
  y_br (r2 ≤ x7)
    (y_mp <|
    y_bi (fX12_part l5 ((9 : Int64) * l3) x2) fun r11 =>
    some (r11, h))
    (y_bi (z_R h o0 21) fun o14 =>
    y_gd (z_ok h o14 14) <|
    y_gd (z_ix x7 (z_N h o14)) <|
    y_bi (z_R h o0 6) fun o17 =>
    y_gd (z_ok h o17 13) <|
    y_gd (z_ix (36 : Int32) (z_N h o17)) <|
    y_bi (fX12_oddsOf o0 x7 x1 (z_I h o17 (36 : Int32).toNatClampNeg) h) fun r21 =>
    y_nm ((l5 + ((z_L h o14 x7.toNatClampNeg) * (r21).toInt64))) fun v25 =>
    y_nm (x7 + 1) fun v26 =>
    some (.inl (v25, v26)))
noncomputable def fX12_tells_b47 (o0 : Nat) (x1 : Int32) (x2 : Int32) (l3 : Int64) (l5 : Int64) (x7 : Int32) (h : z_T) : Option (Int64 × z_T) := y_lp (fun q : Int64 × Int32 => fX12_tells_b47_i o0 x1 x2 l3 h q.1 q.2) (l5, x7)
noncomputable def fX12_tells_b21 (o0 : Nat) (x1 : Int32) (x2 : Int32) (s0 : Nat) (s1 : Int32) (h : z_T) : Option (Int64 × z_T) :=
  y_gd (z_ok h s0 11) <|
  y_bi (fX12_throwsIf s0 s1 h) fun ⟨r28, h32⟩ =>
  y_br (r28 = 0)
    (y_gd (z_ok h32 o0 11) <|
    y_bi (z_R h32 o0 6) fun o36 =>
    y_gd (z_ok h32 o36 13) <|
    y_gd (z_ix (36 : Int32) (z_N h32 o36)) <|
    y_bi (fX12_likes o0 (z_I h32 o36 (36 : Int32).toNatClampNeg) h32) fun ⟨r41, h44⟩ =>
    fX12_tells_b47 o0 x1 x2 r41 (0 : Int64) (0 : Int32) h44)
    (some ((0 : Int64), h32))
noncomputable def fX12_tells_b16 (o0 : Nat) (x1 : Int32) (x2 : Int32) (s0 : Nat) (h : z_T) : Option (Int64 × z_T) :=
  fX12_tells_b21 o0 x1 x2 s0 (1 : Int32) h
noncomputable def fX12_tells (o0 : Nat) (x1 : Int32) (x2 : Int32) (h : z_T) : Option (Int64 × z_T) :=
  y_gd (z_ok h o0 11) <|
  y_bi (fX12_isTest o0 x1 h) fun r46 =>
  y_br (r46 = 0)
    (fX12_tells_b16 o0 x1 x2 o0 h)
    (y_bi (fX12_isPart x2) fun r53 =>
    y_br (r53 = 0)
      (fX12_tells_b16 o0 x1 x2 o0 h)
      (fX12_tells_b21 o0 x1 x2 o0 (0 : Int32) h))
set_option maxHeartbeats 4000000 in
set_option maxRecDepth 100000 in
theorem mm_X12_tells {G : z_Gt} {S : State → Prop} (hSK : z_SK S) (l : Launch) (ad : Nat → Nat) (o0 : Nat) (x1 : Int32) (x2 : Int32) (h : z_T) {r0 : Int64} {h9 : z_T} (hv : fX12_tells o0 x1 x2 h = some (r0, h9)) : z_Ml G S l yX12_tells cX12_tells 8 (.long) rm_X12_tells 0 0 [.ref (ad o0), .int x1, .int x2] ad h h9 r0 := by
  refine z_ofW hSK (by decide) (Nat.le_of_ble_eq_true rfl) ?_
  intro p e s m args below meth c ls hc hr hnm hB hl
  have hx := hc.1.1
  have hb := hc.1.2.1
  have hown := hc.1.2.2.2.1
  have hts := hc.1.2.2.2.2
  replace hc : z_C G S ad (z_n h) p m c cX12_tells 8 s args RX12 meth := hc
  replace hown : s.vm.findClass RX12 = some m.cls := hown
  replace hl : lv_has ls 8 [(0, .ref (ad o0)), (1, .int x1), (2, .int x2)] := hl
  show W p l e rm_X12_tells s m args below meth c s.heap [] 0 0 (MQ below (z_Ql G ad h9 (z_n h) s.heap.size r0) args s 0 0 (z_A ad (z_n h) s.heap.size)) (F0 m 0 ls [])
  obtain ⟨rs, kt⟩ : ∃ rs : Int64 × z_T, rs = (r0, h9) := ⟨_, rfl⟩
  generalize hn0 : z_n h = n0 at hc hB ⊢
  have L47 : ∀ (l3 : Int64) (h : z_T) (nn47 : Nat) (l5 : Int64) (x7 : Int32) (H : Heap) (locs : List Loc) (ls : Array Slot), z_B G ad n0 s h H locs → lv_has ls 8 [(0, .ref (ad o0)), (1, .int x1), (2, .int x2), (3, .long l3), (5, .long l5), (7, .int x7)] → ∀ vv47, y_lpN (fun q : Int64 × Int32 => fX12_tells_b47_i o0 x1 x2 l3 h q.1 q.2) nn47 (l5, x7) = some vv47 → vv47 = (r0, h9) → W p l e rm_X12_tells s m args below meth c H locs 0 0 (MQ below (z_Ql G ad h9 n0 s.heap.size r0) args s 0 0 (z_A ad n0 s.heap.size)) (F0 m 47 ls []) := by
    intro l3 h nn47
    induction nn47 with
    | zero => intro l5 x7 H locs ls hB hl vv47 hv kv47; exact absurd hv (fun q => y_lpN_0 q)
    | succ nn47 ih47 =>
      intro l5 x7 H locs ls hB hl vv47 hv kv47
      obtain ⟨w, hq, kw47⟩ := y_lpN_e hv
      clear hv
      have hv : fX12_tells_b47_i o0 x1 x2 l3 h l5 x7 = some w := hq
      clear hq
      refine lv_iload hx hb dX12_tells_47 (lv_at hl 5 rfl) ?_
      refine lv_aload_n hx hb dX12_tells_49 rfl (lv_at hl 0 rfl) ?_
      obtain ⟨g6, hv⟩ := y_gd_e hv
      obtain ⟨r2, c1, hv⟩ := y_bi_e hv
      refine z_thI hc hB (z_runV hc hB 11 (mm_X12_places hSK l ad o0 h c1) md_X12_places qmX12_253 g6 (by decide) rfl rfl rfl ⟨Nat.le_of_ble_eq_true rfl, Nat.le_of_ble_eq_true rfl⟩ rfl hl.1 rfl (Nat.le_of_ble_eq_true rfl) dX12_tells_50 ⟨Nat.le_of_ble_eq_true rfl, Nat.le_of_ble_eq_true rfl⟩) (fun H locs hB => ?_)
      refine lv_icmp_ge (tgt := 90) hx hb dX12_tells_53 (by decide) (fun c7 => ?_) (fun c7 => ?_)
      · replace hv := y_br_t hv c7
        obtain ⟨t8, hq, ew⟩ := y_mp_e hv
        clear hv; subst ew
        replace kw47 : t8 = _ := kw47
        subst kw47
        have hv := hq
        clear hq
        refine lv_lload hx hb dX12_tells_90 (lv_at hl 4 rfl) ?_
        refine lv_ldc2 (v := (9 : Int64)) hx hb hown (hts _ qkX12_379) dX12_tells_92 ?_
        refine lv_lload_n hx hb dX12_tells_95 rfl (lv_at hl 3 rfl) ?_
        refine lv_lmul hx hb dX12_tells_96 ?_
        refine lv_iload_n hx hb dX12_tells_97 rfl (lv_at hl 2 rfl) ?_
        obtain ⟨r11, c9, hv⟩ := y_bi_e hv
        refine z_thL hc hB (z_runS hc hB (mm_X12_part hSK l ad l5 ((9 : Int64) * l3) x2 h c9) md_X12_part qmX12_282 rfl rfl ⟨Nat.le_of_ble_eq_true rfl, Nat.le_of_ble_eq_true rfl⟩ rfl hl.1 rfl (Nat.le_of_ble_eq_true rfl) dX12_tells_98 ⟨Nat.le_of_ble_eq_true rfl, Nat.le_of_ble_eq_true rfl⟩) (fun H locs hB => ?_)
        replace hv := Option.some.inj hv
        subst hv
        obtain ⟨e1, e2⟩ := y_pr kv47
        rw [← e1, ← e2]
        exact z_lret hc hB hr dX12_tells_101
      · replace hv := y_br_f hv c7
        refine lv_lload hx hb dX12_tells_56 (lv_at hl 4 rfl) ?_
        refine lv_aload_n hx hb dX12_tells_58 rfl (lv_at hl 0 rfl) ?_
        obtain ⟨o14, eo14, hv⟩ := y_bi_e hv
        refine z_getR hc hB 11 21 g6 eo14 (by decide) (by decide) rfl (z_l1 hc qfX12_50) dX12_tells_59 ?_
        refine lv_iload hx hb dX12_tells_62 (lv_at hl 5 rfl) ?_
        obtain ⟨g15, hv⟩ := y_gd_e hv
        obtain ⟨i16, hv⟩ := y_gd_e hv
        refine z_lald hc hB g15 i16 dX12_tells_64 ?_
        refine lv_aload_n hx hb dX12_tells_65 rfl (lv_at hl 0 rfl) ?_
        refine lv_iload hx hb dX12_tells_66 (lv_at hl 5 rfl) ?_
        refine lv_iload_n hx hb dX12_tells_68 rfl (lv_at hl 1 rfl) ?_
        refine lv_aload_n hx hb dX12_tells_69 rfl (lv_at hl 0 rfl) ?_
        obtain ⟨o17, eo17, hv⟩ := y_bi_e hv
        refine z_getR hc hB 11 6 g6 eo17 (by decide) (by decide) rfl (z_l1 hc qfX12_33) dX12_tells_70 ?_
        refine lv_bipush (v := (36 : Int32)) hx hb dX12_tells_73 (by decide) ?_
        obtain ⟨g18, hv⟩ := y_gd_e hv
        obtain ⟨i19, hv⟩ := y_gd_e hv
        refine z_iald hc hB g18 i19 dX12_tells_75 ?_
        obtain ⟨r21, c20, hv⟩ := y_bi_e hv
        refine z_thI hc hB (z_runV hc hB 11 (mm_X12_oddsOf hSK l ad o0 x7 x1 (z_I h o17 (36 : Int32).toNatClampNeg) h c20) md_X12_oddsOf qmX12_260 g6 (by decide) rfl rfl rfl ⟨Nat.le_of_ble_eq_true rfl, Nat.le_of_ble_eq_true rfl⟩ rfl hl.1 rfl (Nat.le_of_ble_eq_true rfl) dX12_tells_76 ⟨Nat.le_of_ble_eq_true rfl, Nat.le_of_ble_eq_true rfl⟩) (fun H locs hB => ?_)
        refine lv_i2l hx hb dX12_tells_79 rfl ?_
        refine lv_lmul hx hb dX12_tells_80 ?_
        refine lv_ladd hx hb dX12_tells_81 ?_
        obtain ⟨v25, ev25, hv⟩ := y_nm_e hv
        rw [← ev25]
        refine lv_lstore (lv' := [(5, .long v25), (0, .ref (ad o0)), (1, .int x1), (2, .int x2), (3, .long l3), (7, .int x7)]) hx hb dX12_tells_82 hl (by decide) rfl (fun ls hl => ?_)
        obtain ⟨v26, ev26, hv⟩ := y_nm_e hv
        refine lv_iinc (v := v26) (lv' := [(7, .int v26), (5, .long v25), (0, .ref (ad o0)), (1, .int x1), (2, .int x2), (3, .long l3)]) hx hb dX12_tells_84 hl (k := 5) rfl (by rw [ev26]; rfl) (by decide) rfl (fun ls hl => ?_)
        refine lv_goto (tgt := 47) hx hb dX12_tells_87 (by decide) ?_
        replace hv := Option.some.inj hv
        subst hv
        exact ih47 v25 v26 _ _ _ hB (lv_sub hl [2, 3, 4, 5, 1, 0] rfl) _ kw47 kv47
  have b21 : ∀ (s0 : Nat) (s1 : Int32) (h : z_T) (H : Heap) (locs : List Loc) (ls : Array Slot), z_B G ad n0 s h H locs → lv_has ls 8 [(0, .ref (ad o0)), (1, .int x1), (2, .int x2)] → ∀ w, fX12_tells_b21 o0 x1 x2 s0 s1 h = some w → w = (r0, h9) → W p l e rm_X12_tells s m args below meth c H locs 0 0 (MQ below (z_Ql G ad h9 n0 s.heap.size r0) args s 0 0 (z_A ad n0 s.heap.size)) (F0 m 21 ls [.int s1, .ref (ad s0)]) := by
    intro s0 s1 h H locs ls hB hl w hv kb
    obtain ⟨g33, hv⟩ := y_gd_e hv
    obtain ⟨⟨r28, h32⟩, c27, hv⟩ := y_bi_e hv
    refine z_thI hc hB (z_runV hc hB 11 (mm_X12_throwsIf hSK l ad s0 s1 h c27) md_X12_throwsIf qmX12_278 g33 (by decide) rfl rfl rfl ⟨Nat.le_of_ble_eq_true rfl, Nat.le_of_ble_eq_true rfl⟩ rfl hl.1 rfl (Nat.le_of_ble_eq_true rfl) dX12_tells_21 ⟨Nat.le_of_ble_eq_true rfl, Nat.le_of_ble_eq_true rfl⟩) (fun H locs hB => ?_)
    refine lv_if_eq (tgt := 29) hx hb dX12_tells_24 (by decide) (fun c34 => ?_) (fun c34 => ?_)
    · replace hv := y_br_t hv c34
      refine lv_aload_n hx hb dX12_tells_29 rfl (lv_at hl 0 rfl) ?_
      refine lv_aload_n hx hb dX12_tells_30 rfl (lv_at hl 0 rfl) ?_
      obtain ⟨g35, hv⟩ := y_gd_e hv
      obtain ⟨o36, eo36, hv⟩ := y_bi_e hv
      refine z_getR hc hB 11 6 g35 eo36 (by decide) (by decide) rfl (z_l1 hc qfX12_33) dX12_tells_31 ?_
      refine lv_bipush (v := (36 : Int32)) hx hb dX12_tells_34 (by decide) ?_
      obtain ⟨g37, hv⟩ := y_gd_e hv
      obtain ⟨i38, hv⟩ := y_gd_e hv
      refine z_iald hc hB g37 i38 dX12_tells_36 ?_
      obtain ⟨⟨r41, h44⟩, c39, hv⟩ := y_bi_e hv
      refine z_thL hc hB (z_runV hc hB 11 (mm_X12_likes hSK l ad o0 (z_I h32 o36 (36 : Int32).toNatClampNeg) h32 c39) md_X12_likes qmX12_264 g35 (by decide) rfl rfl rfl ⟨Nat.le_of_ble_eq_true rfl, Nat.le_of_ble_eq_true rfl⟩ rfl hl.1 rfl (Nat.le_of_ble_eq_true rfl) dX12_tells_37 ⟨Nat.le_of_ble_eq_true rfl, Nat.le_of_ble_eq_true rfl⟩) (fun H locs hB => ?_)
      refine lv_lstore_n (lv' := [(3, .long r41), (0, .ref (ad o0)), (1, .int x1), (2, .int x2)]) hx hb dX12_tells_40 rfl hl (by decide) rfl (fun ls hl => ?_)
      refine lv_lconst (v := (0 : Int64)) hx hb dX12_tells_41 (by decide) ?_
      refine lv_lstore (lv' := [(5, .long (0 : Int64)), (3, .long r41), (0, .ref (ad o0)), (1, .int x1), (2, .int x2)]) hx hb dX12_tells_42 hl (by decide) rfl (fun ls hl => ?_)
      refine lv_iconst (v := (0 : Int32)) hx hb dX12_tells_44 (by decide) ?_
      refine lv_istore (lv' := [(7, .int (0 : Int32)), (5, .long (0 : Int64)), (3, .long r41), (0, .ref (ad o0)), (1, .int x1), (2, .int x2)]) hx hb dX12_tells_45 hl (by decide) rfl (fun ls hl => ?_)
      obtain ⟨n, hv⟩ := y_lp_e hv
      exact L47 r41 h44 n (0 : Int64) (0 : Int32) _ _ _ hB (lv_sub hl [3, 4, 5, 2, 1, 0] rfl) _ hv kb
    · replace hv := y_br_f hv c34
      refine lv_lconst (v := (0 : Int64)) hx hb dX12_tells_27 (by decide) ?_
      replace hv := Option.some.inj hv
      subst hv
      obtain ⟨e1, e2⟩ := y_pr kb
      rw [← e1, ← e2]
      exact z_lret hc hB hr dX12_tells_28
  have b16 : ∀ (s0 : Nat) (h : z_T) (H : Heap) (locs : List Loc) (ls : Array Slot), z_B G ad n0 s h H locs → lv_has ls 8 [(0, .ref (ad o0)), (1, .int x1), (2, .int x2)] → ∀ w, fX12_tells_b16 o0 x1 x2 s0 h = some w → w = (r0, h9) → W p l e rm_X12_tells s m args below meth c H locs 0 0 (MQ below (z_Ql G ad h9 n0 s.heap.size r0) args s 0 0 (z_A ad n0 s.heap.size)) (F0 m 16 ls [.ref (ad s0)]) := by
    intro s0 h H locs ls hB hl w hv kb
    refine lv_iconst (v := (1 : Int32)) hx hb dX12_tells_16 (by decide) ?_
    refine lv_goto (tgt := 21) hx hb dX12_tells_17 (by decide) ?_
    exact b21 s0 (1 : Int32) h _ _ _ hB (lv_sub hl [0, 1, 2] rfl) _ hv kb
  rw [← kt] at hv
  refine lv_aload_n hx hb dX12_tells_0 rfl (lv_at hl 0 rfl) ?_
  refine lv_aload_n hx hb dX12_tells_1 rfl (lv_at hl 0 rfl) ?_
  refine lv_iload_n hx hb dX12_tells_2 rfl (lv_at hl 1 rfl) ?_
  obtain ⟨g50, hv⟩ := y_gd_e hv
  obtain ⟨r46, c45, hv⟩ := y_bi_e hv
  refine z_thI hc hB (z_runV hc hB 11 (mm_X12_isTest hSK l ad o0 x1 h c45) md_X12_isTest qmX12_241 g50 (by decide) rfl rfl rfl ⟨Nat.le_of_ble_eq_true rfl, Nat.le_of_ble_eq_true rfl⟩ rfl hl.1 rfl (Nat.le_of_ble_eq_true rfl) dX12_tells_3 ⟨Nat.le_of_ble_eq_true rfl, Nat.le_of_ble_eq_true rfl⟩) (fun H locs hB => ?_)
  refine lv_if_eq (tgt := 16) hx hb dX12_tells_6 (by decide) (fun c51 => ?_) (fun c51 => ?_)
  · replace hv := y_br_t hv c51
    exact b16 o0 h _ _ _ hB (lv_sub hl [0, 1, 2] rfl) _ hv kt
  · replace hv := y_br_f hv c51
    refine lv_iload_n hx hb dX12_tells_9 rfl (lv_at hl 2 rfl) ?_
    obtain ⟨r53, c52, hv⟩ := y_bi_e hv
    refine z_thI hc hB (z_runS hc hB (mm_X12_isPart hSK l ad x2 h c52) md_X12_isPart qmX12_275 rfl rfl ⟨Nat.le_of_ble_eq_true rfl, Nat.le_of_ble_eq_true rfl⟩ rfl hl.1 rfl (Nat.le_of_ble_eq_true rfl) dX12_tells_10 ⟨Nat.le_of_ble_eq_true rfl, Nat.le_of_ble_eq_true rfl⟩) (fun H locs hB => ?_)
    refine lv_if_ne (tgt := 20) hx hb dX12_tells_13 (by decide) (fun c57 => ?_) (fun c57 => ?_)
    · replace hv := y_br_f hv c57
      refine lv_iconst (v := (0 : Int32)) hx hb dX12_tells_20 (by decide) ?_
      exact b21 o0 (0 : Int32) h _ _ _ hB (lv_sub hl [0, 1, 2] rfl) _ hv kt
    · replace hv := y_br_t hv c57
      exact b16 o0 h _ _ _ hB (lv_sub hl [0, 1, 2] rfl) _ hv kt
theorem dX12_apart_0 : decode cX12_apart 0 = .ok (.aload_n 0, 1) := by decide +kernel
theorem dX12_apart_1 : decode cX12_apart 1 = .ok (.iconst 0, 1) := by decide +kernel
theorem dX12_apart_2 : decode cX12_apart 2 = .ok (.putfield 1, 3) := by decide +kernel
theorem dX12_apart_5 : decode cX12_apart 5 = .ok (.aload_n 0, 1) := by decide +kernel
theorem dX12_apart_6 : decode cX12_apart 6 = .ok (.iload_n 1, 1) := by decide +kernel
theorem dX12_apart_7 : decode cX12_apart 7 = .ok (.invokevirtual 247, 3) := by decide +kernel
theorem dX12_apart_10 : decode cX12_apart 10 = .ok (.ifCond .eq 36, 3) := by decide +kernel
theorem dX12_apart_13 : decode cX12_apart 13 = .ok (.aload_n 0, 1) := by decide +kernel
theorem dX12_apart_14 : decode cX12_apart 14 = .ok (.iload_n 2, 1) := by decide +kernel
theorem dX12_apart_15 : decode cX12_apart 15 = .ok (.invokevirtual 247, 3) := by decide +kernel
theorem dX12_apart_18 : decode cX12_apart 18 = .ok (.ifCond .eq 28, 3) := by decide +kernel
theorem dX12_apart_21 : decode cX12_apart 21 = .ok (.aload_n 0, 1) := by decide +kernel
theorem dX12_apart_22 : decode cX12_apart 22 = .ok (.getfield 33, 3) := by decide +kernel
theorem dX12_apart_25 : decode cX12_apart 25 = .ok (.bipush 30, 2) := by decide +kernel
theorem dX12_apart_27 : decode cX12_apart 27 = .ok (.iload_n 1, 1) := by decide +kernel
theorem dX12_apart_28 : decode cX12_apart 28 = .ok (.iadd, 1) := by decide +kernel
theorem dX12_apart_29 : decode cX12_apart 29 = .ok (.iaload, 1) := by decide +kernel
theorem dX12_apart_30 : decode cX12_apart 30 = .ok (.aload_n 0, 1) := by decide +kernel
theorem dX12_apart_31 : decode cX12_apart 31 = .ok (.getfield 33, 3) := by decide +kernel
theorem dX12_apart_34 : decode cX12_apart 34 = .ok (.bipush 30, 2) := by decide +kernel
theorem dX12_apart_36 : decode cX12_apart 36 = .ok (.iload_n 2, 1) := by decide +kernel
theorem dX12_apart_37 : decode cX12_apart 37 = .ok (.iadd, 1) := by decide +kernel
theorem dX12_apart_38 : decode cX12_apart 38 = .ok (.iaload, 1) := by decide +kernel
theorem dX12_apart_39 : decode cX12_apart 39 = .ok (.ixor, 1) := by decide +kernel
theorem dX12_apart_40 : decode cX12_apart 40 = .ok (.invokestatic 292, 3) := by decide +kernel
theorem dX12_apart_43 : decode cX12_apart 43 = .ok (.goto 4, 3) := by decide +kernel
theorem dX12_apart_46 : decode cX12_apart 46 = .ok (.iconst (-1), 1) := by decide +kernel
theorem dX12_apart_47 : decode cX12_apart 47 = .ok (.ireturn, 1) := by decide +kernel
abbrev rm_X12_apart : Room := { frames := 2, cells := 0, slots := 0, locals := 43 }
noncomputable def fX12_apart_b46  (h : z_T) : Option (Int32 × z_T) :=
  some ((-1 : Int32), h)
noncomputable def fX12_apart (o0 : Nat) (x1 : Int32) (x2 : Int32) (h : z_T) : Option (Int32 × z_T) :=
  y_gd (z_ok h o0 11) <|
  y_nm (z_sI h o0 0 (0 : Int32)) fun h2 =>
  y_bi (fX12_isDream o0 x1 h2) fun r4 =>
  y_br (r4 = 0)
    (fX12_apart_b46 h2)
    (y_bi (fX12_isDream o0 x2 h2) fun r10 =>
    y_br (r10 = 0)
      (fX12_apart_b46 h2)
      (y_bi (z_R h2 o0 6) fun o15 =>
      y_gd (z_ok h2 o15 13) <|
      y_gd (z_ix ((30 : Int32) + x1) (z_N h2 o15)) <|
      y_gd (z_ix ((30 : Int32) + x2) (z_N h2 o15)) <|
      y_bi (fX12_bits ((z_I h2 o15 ((30 : Int32) + x1).toNatClampNeg) ^^^ (z_I h2 o15 ((30 : Int32) + x2).toNatClampNeg))) fun r20 =>
      some (r20, h2)))
set_option maxHeartbeats 4000000 in
set_option maxRecDepth 100000 in
theorem mm_X12_apart {G : z_Gt} {S : State → Prop} (hSK : z_SK S) (l : Launch) (ad : Nat → Nat) (o0 : Nat) (x1 : Int32) (x2 : Int32) (h : z_T) {r0 : Int32} {h9 : z_T} (hv : fX12_apart o0 x1 x2 h = some (r0, h9)) : z_Mi G S l yX12_apart cX12_apart 3 (.int) rm_X12_apart 0 0 [.ref (ad o0), .int x1, .int x2] ad h h9 r0 := by
  refine z_ofW hSK (by decide) (Nat.le_of_ble_eq_true rfl) ?_
  intro p e s m args below meth c ls hc hr hnm hB hl
  have hx := hc.1.1
  have hb := hc.1.2.1
  have hown := hc.1.2.2.2.1
  have hts := hc.1.2.2.2.2
  replace hc : z_C G S ad (z_n h) p m c cX12_apart 3 s args RX12 meth := hc
  replace hown : s.vm.findClass RX12 = some m.cls := hown
  replace hl : lv_has ls 3 [(0, .ref (ad o0)), (1, .int x1), (2, .int x2)] := hl
  show W p l e rm_X12_apart s m args below meth c s.heap [] 0 0 (MQ below (z_Qi G ad h9 (z_n h) s.heap.size r0) args s 0 0 (z_A ad (z_n h) s.heap.size)) (F0 m 0 ls [])
  obtain ⟨rs, kt⟩ : ∃ rs : Int32 × z_T, rs = (r0, h9) := ⟨_, rfl⟩
  generalize hn0 : z_n h = n0 at hc hB ⊢
  have b46 : ∀ (h : z_T) (H : Heap) (locs : List Loc) (ls : Array Slot), z_B G ad n0 s h H locs → lv_has ls 3 [] → ∀ w, fX12_apart_b46 h = some w → w = (r0, h9) → W p l e rm_X12_apart s m args below meth c H locs 0 0 (MQ below (z_Qi G ad h9 n0 s.heap.size r0) args s 0 0 (z_A ad n0 s.heap.size)) (F0 m 46 ls []) := by
    intro h H locs ls hB hl w hv kb
    refine lv_iconst (v := (-1 : Int32)) hx hb dX12_apart_46 (by decide) ?_
    replace hv := Option.some.inj hv
    subst hv
    obtain ⟨e1, e2⟩ := y_pr kb
    rw [← e1, ← e2]
    exact z_iret hc hB hr dX12_apart_47
  rw [← kt] at hv
  refine lv_aload_n hx hb dX12_apart_0 rfl (lv_at hl 0 rfl) ?_
  refine lv_iconst (v := (0 : Int32)) hx hb dX12_apart_1 (by decide) ?_
  obtain ⟨g1, hv⟩ := y_gd_e hv
  obtain ⟨h2, eh2, hv⟩ := y_nm_e hv
  refine y_putI hc hB 11 0 eh2 g1 (z_l1 hc qfX12_1) dX12_apart_2 (by decide) (by decide) rfl rfl rfl rfl (fun H locs hB => ?_)
  refine lv_aload_n hx hb dX12_apart_5 rfl (lv_at hl 0 rfl) ?_
  refine lv_iload_n hx hb dX12_apart_6 rfl (lv_at hl 1 rfl) ?_
  obtain ⟨r4, c3, hv⟩ := y_bi_e hv
  refine z_thI hc hB (z_runV hc hB 11 (mm_X12_isDream hSK l ad o0 x1 h2 c3) md_X12_isDream qmX12_247 (by rw [eh2]; exact g1) (by decide) rfl rfl rfl ⟨Nat.le_of_ble_eq_true rfl, Nat.le_of_ble_eq_true rfl⟩ rfl hl.1 rfl (Nat.le_of_ble_eq_true rfl) dX12_apart_7 ⟨Nat.le_of_ble_eq_true rfl, Nat.le_of_ble_eq_true rfl⟩) (fun H locs hB => ?_)
  refine lv_if_eq (tgt := 46) hx hb dX12_apart_10 (by decide) (fun c8 => ?_) (fun c8 => ?_)
  · replace hv := y_br_t hv c8
    exact b46 h2 _ _ _ hB (lv_sub hl [] rfl) _ hv kt
  · replace hv := y_br_f hv c8
    refine lv_aload_n hx hb dX12_apart_13 rfl (lv_at hl 0 rfl) ?_
    refine lv_iload_n hx hb dX12_apart_14 rfl (lv_at hl 2 rfl) ?_
    obtain ⟨r10, c9, hv⟩ := y_bi_e hv
    refine z_thI hc hB (z_runV hc hB 11 (mm_X12_isDream hSK l ad o0 x2 h2 c9) md_X12_isDream qmX12_247 (by rw [eh2]; exact g1) (by decide) rfl rfl rfl ⟨Nat.le_of_ble_eq_true rfl, Nat.le_of_ble_eq_true rfl⟩ rfl hl.1 rfl (Nat.le_of_ble_eq_true rfl) dX12_apart_15 ⟨Nat.le_of_ble_eq_true rfl, Nat.le_of_ble_eq_true rfl⟩) (fun H locs hB => ?_)
    refine lv_if_eq (tgt := 46) hx hb dX12_apart_18 (by decide) (fun c14 => ?_) (fun c14 => ?_)
    · replace hv := y_br_t hv c14
      exact b46 h2 _ _ _ hB (lv_sub hl [] rfl) _ hv kt
    · replace hv := y_br_f hv c14
      refine lv_aload_n hx hb dX12_apart_21 rfl (lv_at hl 0 rfl) ?_
      obtain ⟨o15, eo15, hv⟩ := y_bi_e hv
      refine z_getR hc hB 11 6 (by rw [eh2]; exact g1) eo15 (by decide) (by decide) rfl (z_l1 hc qfX12_33) dX12_apart_22 ?_
      refine lv_bipush (v := (30 : Int32)) hx hb dX12_apart_25 (by decide) ?_
      refine lv_iload_n hx hb dX12_apart_27 rfl (lv_at hl 1 rfl) ?_
      refine lv_iadd hx hb dX12_apart_28 ?_
      obtain ⟨g16, hv⟩ := y_gd_e hv
      obtain ⟨i17, hv⟩ := y_gd_e hv
      refine z_iald hc hB g16 i17 dX12_apart_29 ?_
      refine lv_aload_n hx hb dX12_apart_30 rfl (lv_at hl 0 rfl) ?_
      refine z_getR hc hB 11 6 (by rw [eh2]; exact g1) eo15 (by decide) (by decide) rfl (z_l1 hc qfX12_33) dX12_apart_31 ?_
      refine lv_bipush (v := (30 : Int32)) hx hb dX12_apart_34 (by decide) ?_
      refine lv_iload_n hx hb dX12_apart_36 rfl (lv_at hl 2 rfl) ?_
      refine lv_iadd hx hb dX12_apart_37 ?_
      obtain ⟨i18, hv⟩ := y_gd_e hv
      refine z_iald hc hB g16 i18 dX12_apart_38 ?_
      refine lv_ixor hx hb dX12_apart_39 ?_
      obtain ⟨r20, c19, hv⟩ := y_bi_e hv
      refine z_thI hc hB (z_runS hc hB (mm_X12_bits hSK l ad ((z_I h2 o15 ((30 : Int32) + x1).toNatClampNeg) ^^^ (z_I h2 o15 ((30 : Int32) + x2).toNatClampNeg)) h2 c19) md_X12_bits qmX12_292 rfl rfl ⟨Nat.le_of_ble_eq_true rfl, Nat.le_of_ble_eq_true rfl⟩ rfl hl.1 rfl (Nat.le_of_ble_eq_true rfl) dX12_apart_40 ⟨Nat.le_of_ble_eq_true rfl, Nat.le_of_ble_eq_true rfl⟩) (fun H locs hB => ?_)
      refine lv_goto (tgt := 47) hx hb dX12_apart_43 (by decide) ?_
      replace hv := Option.some.inj hv
      subst hv
      obtain ⟨e1, e2⟩ := y_pr kt
      rw [← e1, ← e2]
      exact z_iret hc hB hr dX12_apart_47
theorem qfX12_384 : Cond.fieldLink RX12 384 "DreamTestsModel" "told" "I" ∈ z_ws := List.mem_filter.mpr ⟨List.mem_append_right _ (List.mem_of_getElem? (i := 1341) (by decide +kernel)), rfl⟩
theorem qfX12_40 : Cond.fieldLink RX12 40 "DreamTestsModel" "read" "[I" ∈ z_ws := List.mem_filter.mpr ⟨List.mem_append_right _ (List.mem_of_getElem? (i := 1308) (by decide +kernel)), rfl⟩
theorem qkX12_117 : Cond.constantLong RX12 117 (495873784179 : Int64) ∈ z_ws := List.mem_filter.mpr ⟨List.mem_append_right _ (List.mem_of_getElem? (i := 1283) (by decide +kernel)), rfl⟩
theorem qkX12_115 : Cond.constantLong RX12 115 (26990 : Int64) ∈ z_ws := List.mem_filter.mpr ⟨List.mem_append_right _ (List.mem_of_getElem? (i := 1282) (by decide +kernel)), rfl⟩
theorem qfX12_387 : Cond.fieldLink RX12 387 "DreamTestsModel" "toldAsked" "I" ∈ z_ws := List.mem_filter.mpr ⟨List.mem_append_right _ (List.mem_of_getElem? (i := 1342) (by decide +kernel)), rfl⟩
theorem qkX12_119 : Cond.constantLong RX12 119 (470021465459 : Int64) ∈ z_ws := List.mem_filter.mpr ⟨List.mem_append_right _ (List.mem_of_getElem? (i := 1284) (by decide +kernel)), rfl⟩
theorem dX12_nightLine_0 : decode cX12_nightLine 0 = .ok (.iconst 2, 1) := by decide +kernel
theorem dX12_nightLine_1 : decode cX12_nightLine 1 = .ok (.aload_n 0, 1) := by decide +kernel
theorem dX12_nightLine_2 : decode cX12_nightLine 2 = .ok (.getfield 384, 3) := by decide +kernel
theorem dX12_nightLine_5 : decode cX12_nightLine 5 = .ok (.imul, 1) := by decide +kernel
theorem dX12_nightLine_6 : decode cX12_nightLine 6 = .ok (.istore_n 1, 1) := by decide +kernel
theorem dX12_nightLine_7 : decode cX12_nightLine 7 = .ok (.aload_n 0, 1) := by decide +kernel
theorem dX12_nightLine_8 : decode cX12_nightLine 8 = .ok (.ldc2_w 115, 3) := by decide +kernel
theorem dX12_nightLine_11 : decode cX12_nightLine 11 = .ok (.invokevirtual 203, 3) := by decide +kernel
theorem dX12_nightLine_14 : decode cX12_nightLine 14 = .ok (.ifCond .eq 112, 3) := by decide +kernel
theorem dX12_nightLine_17 : decode cX12_nightLine 17 = .ok (.aload_n 0, 1) := by decide +kernel
theorem dX12_nightLine_18 : decode cX12_nightLine 18 = .ok (.getfield 384, 3) := by decide +kernel
theorem dX12_nightLine_21 : decode cX12_nightLine 21 = .ok (.bipush 40, 2) := by decide +kernel
theorem dX12_nightLine_23 : decode cX12_nightLine 23 = .ok (.if_icmp .ne 9, 3) := by decide +kernel
theorem dX12_nightLine_26 : decode cX12_nightLine 26 = .ok (.aload_n 0, 1) := by decide +kernel
theorem dX12_nightLine_27 : decode cX12_nightLine 27 = .ok (.iconst 4, 1) := by decide +kernel
theorem dX12_nightLine_28 : decode cX12_nightLine 28 = .ok (.invokevirtual 182, 3) := by decide +kernel
theorem dX12_nightLine_31 : decode cX12_nightLine 31 = .ok (.ireturn, 1) := by decide +kernel
theorem dX12_nightLine_32 : decode cX12_nightLine 32 = .ok (.aload_n 0, 1) := by decide +kernel
theorem dX12_nightLine_33 : decode cX12_nightLine 33 = .ok (.invokevirtual 185, 3) := by decide +kernel
theorem dX12_nightLine_36 : decode cX12_nightLine 36 = .ok (.aload_n 0, 1) := by decide +kernel
theorem dX12_nightLine_37 : decode cX12_nightLine 37 = .ok (.getfield 40, 3) := by decide +kernel
theorem dX12_nightLine_40 : decode cX12_nightLine 40 = .ok (.iload_n 1, 1) := by decide +kernel
theorem dX12_nightLine_41 : decode cX12_nightLine 41 = .ok (.iconst 0, 1) := by decide +kernel
theorem dX12_nightLine_42 : decode cX12_nightLine 42 = .ok (.iastore, 1) := by decide +kernel
theorem dX12_nightLine_43 : decode cX12_nightLine 43 = .ok (.aload_n 0, 1) := by decide +kernel
theorem dX12_nightLine_44 : decode cX12_nightLine 44 = .ok (.getfield 40, 3) := by decide +kernel
theorem dX12_nightLine_47 : decode cX12_nightLine 47 = .ok (.iload_n 1, 1) := by decide +kernel
theorem dX12_nightLine_48 : decode cX12_nightLine 48 = .ok (.iconst 1, 1) := by decide +kernel
theorem dX12_nightLine_49 : decode cX12_nightLine 49 = .ok (.iadd, 1) := by decide +kernel
theorem dX12_nightLine_50 : decode cX12_nightLine 50 = .ok (.iconst 0, 1) := by decide +kernel
theorem dX12_nightLine_51 : decode cX12_nightLine 51 = .ok (.iastore, 1) := by decide +kernel
theorem dX12_nightLine_52 : decode cX12_nightLine 52 = .ok (.aload_n 0, 1) := by decide +kernel
theorem dX12_nightLine_53 : decode cX12_nightLine 53 = .ok (.iconst 0, 1) := by decide +kernel
theorem dX12_nightLine_54 : decode cX12_nightLine 54 = .ok (.putfield 387, 3) := by decide +kernel
theorem dX12_nightLine_57 : decode cX12_nightLine 57 = .ok (.aload_n 0, 1) := by decide +kernel
theorem dX12_nightLine_58 : decode cX12_nightLine 58 = .ok (.ldc2_w 103, 3) := by decide +kernel
theorem dX12_nightLine_61 : decode cX12_nightLine 61 = .ok (.invokevirtual 203, 3) := by decide +kernel
theorem dX12_nightLine_64 : decode cX12_nightLine 64 = .ok (.ifCond .eq 9, 3) := by decide +kernel
theorem dX12_nightLine_67 : decode cX12_nightLine 67 = .ok (.aload_n 0, 1) := by decide +kernel
theorem dX12_nightLine_68 : decode cX12_nightLine 68 = .ok (.invokevirtual 185, 3) := by decide +kernel
theorem dX12_nightLine_71 : decode cX12_nightLine 71 = .ok (.iconst 1, 1) := by decide +kernel
theorem dX12_nightLine_72 : decode cX12_nightLine 72 = .ok (.ireturn, 1) := by decide +kernel
theorem dX12_nightLine_73 : decode cX12_nightLine 73 = .ok (.aload_n 0, 1) := by decide +kernel
theorem dX12_nightLine_74 : decode cX12_nightLine 74 = .ok (.invokevirtual 195, 3) := by decide +kernel
theorem dX12_nightLine_77 : decode cX12_nightLine 77 = .ok (.ifCond .ne 9, 3) := by decide +kernel
theorem dX12_nightLine_80 : decode cX12_nightLine 80 = .ok (.aload_n 0, 1) := by decide +kernel
theorem dX12_nightLine_81 : decode cX12_nightLine 81 = .ok (.iconst 1, 1) := by decide +kernel
theorem dX12_nightLine_82 : decode cX12_nightLine 82 = .ok (.invokevirtual 182, 3) := by decide +kernel
theorem dX12_nightLine_85 : decode cX12_nightLine 85 = .ok (.ireturn, 1) := by decide +kernel
theorem dX12_nightLine_86 : decode cX12_nightLine 86 = .ok (.aload_n 0, 1) := by decide +kernel
theorem dX12_nightLine_87 : decode cX12_nightLine 87 = .ok (.bipush 8, 2) := by decide +kernel
theorem dX12_nightLine_89 : decode cX12_nightLine 89 = .ok (.aload_n 0, 1) := by decide +kernel
theorem dX12_nightLine_90 : decode cX12_nightLine 90 = .ok (.getfield 33, 3) := by decide +kernel
theorem dX12_nightLine_93 : decode cX12_nightLine 93 = .ok (.iconst 1, 1) := by decide +kernel
theorem dX12_nightLine_94 : decode cX12_nightLine 94 = .ok (.iaload, 1) := by decide +kernel
theorem dX12_nightLine_95 : decode cX12_nightLine 95 = .ok (.invokevirtual 199, 3) := by decide +kernel
theorem dX12_nightLine_98 : decode cX12_nightLine 98 = .ok (.istore_n 2, 1) := by decide +kernel
theorem dX12_nightLine_99 : decode cX12_nightLine 99 = .ok (.iload_n 2, 1) := by decide +kernel
theorem dX12_nightLine_100 : decode cX12_nightLine 100 = .ok (.ifCond .ge 9, 3) := by decide +kernel
theorem dX12_nightLine_103 : decode cX12_nightLine 103 = .ok (.aload_n 0, 1) := by decide +kernel
theorem dX12_nightLine_104 : decode cX12_nightLine 104 = .ok (.iconst 3, 1) := by decide +kernel
theorem dX12_nightLine_105 : decode cX12_nightLine 105 = .ok (.invokevirtual 182, 3) := by decide +kernel
theorem dX12_nightLine_108 : decode cX12_nightLine 108 = .ok (.ireturn, 1) := by decide +kernel
theorem dX12_nightLine_109 : decode cX12_nightLine 109 = .ok (.aload_n 0, 1) := by decide +kernel
theorem dX12_nightLine_110 : decode cX12_nightLine 110 = .ok (.getfield 40, 3) := by decide +kernel
theorem dX12_nightLine_113 : decode cX12_nightLine 113 = .ok (.iload_n 1, 1) := by decide +kernel
theorem dX12_nightLine_114 : decode cX12_nightLine 114 = .ok (.iconst 1, 1) := by decide +kernel
theorem dX12_nightLine_115 : decode cX12_nightLine 115 = .ok (.iadd, 1) := by decide +kernel
theorem dX12_nightLine_116 : decode cX12_nightLine 116 = .ok (.iload_n 2, 1) := by decide +kernel
theorem dX12_nightLine_117 : decode cX12_nightLine 117 = .ok (.iconst 1, 1) := by decide +kernel
theorem dX12_nightLine_118 : decode cX12_nightLine 118 = .ok (.iadd, 1) := by decide +kernel
theorem dX12_nightLine_119 : decode cX12_nightLine 119 = .ok (.iastore, 1) := by decide +kernel
theorem dX12_nightLine_120 : decode cX12_nightLine 120 = .ok (.aload_n 0, 1) := by decide +kernel
theorem dX12_nightLine_121 : decode cX12_nightLine 121 = .ok (.invokevirtual 185, 3) := by decide +kernel
theorem dX12_nightLine_124 : decode cX12_nightLine 124 = .ok (.iconst 1, 1) := by decide +kernel
theorem dX12_nightLine_125 : decode cX12_nightLine 125 = .ok (.ireturn, 1) := by decide +kernel
theorem dX12_nightLine_126 : decode cX12_nightLine 126 = .ok (.aload_n 0, 1) := by decide +kernel
theorem dX12_nightLine_127 : decode cX12_nightLine 127 = .ok (.getfield 384, 3) := by decide +kernel
theorem dX12_nightLine_130 : decode cX12_nightLine 130 = .ok (.ifCond .ne 9, 3) := by decide +kernel
theorem dX12_nightLine_133 : decode cX12_nightLine 133 = .ok (.aload_n 0, 1) := by decide +kernel
theorem dX12_nightLine_134 : decode cX12_nightLine 134 = .ok (.iconst 1, 1) := by decide +kernel
theorem dX12_nightLine_135 : decode cX12_nightLine 135 = .ok (.invokevirtual 182, 3) := by decide +kernel
theorem dX12_nightLine_138 : decode cX12_nightLine 138 = .ok (.ireturn, 1) := by decide +kernel
theorem dX12_nightLine_139 : decode cX12_nightLine 139 = .ok (.aload_n 0, 1) := by decide +kernel
theorem dX12_nightLine_140 : decode cX12_nightLine 140 = .ok (.ldc2_w 121, 3) := by decide +kernel
theorem dX12_nightLine_143 : decode cX12_nightLine 143 = .ok (.invokevirtual 203, 3) := by decide +kernel
theorem dX12_nightLine_146 : decode cX12_nightLine 146 = .ok (.ifCond .ne 13, 3) := by decide +kernel
theorem dX12_nightLine_149 : decode cX12_nightLine 149 = .ok (.aload_n 0, 1) := by decide +kernel
theorem dX12_nightLine_150 : decode cX12_nightLine 150 = .ok (.ldc2_w 123, 3) := by decide +kernel
theorem dX12_nightLine_153 : decode cX12_nightLine 153 = .ok (.invokevirtual 203, 3) := by decide +kernel
theorem dX12_nightLine_156 : decode cX12_nightLine 156 = .ok (.ifCond .eq 45, 3) := by decide +kernel
theorem dX12_nightLine_159 : decode cX12_nightLine 159 = .ok (.aload_n 0, 1) := by decide +kernel
theorem dX12_nightLine_160 : decode cX12_nightLine 160 = .ok (.getfield 384, 3) := by decide +kernel
theorem dX12_nightLine_163 : decode cX12_nightLine 163 = .ok (.bipush 40, 2) := by decide +kernel
theorem dX12_nightLine_165 : decode cX12_nightLine 165 = .ok (.if_icmp .ne 9, 3) := by decide +kernel
theorem dX12_nightLine_168 : decode cX12_nightLine 168 = .ok (.aload_n 0, 1) := by decide +kernel
theorem dX12_nightLine_169 : decode cX12_nightLine 169 = .ok (.iconst 4, 1) := by decide +kernel
theorem dX12_nightLine_170 : decode cX12_nightLine 170 = .ok (.invokevirtual 182, 3) := by decide +kernel
theorem dX12_nightLine_173 : decode cX12_nightLine 173 = .ok (.ireturn, 1) := by decide +kernel
theorem dX12_nightLine_174 : decode cX12_nightLine 174 = .ok (.aload_n 0, 1) := by decide +kernel
theorem dX12_nightLine_175 : decode cX12_nightLine 175 = .ok (.getfield 40, 3) := by decide +kernel
theorem dX12_nightLine_178 : decode cX12_nightLine 178 = .ok (.iload_n 1, 1) := by decide +kernel
theorem dX12_nightLine_179 : decode cX12_nightLine 179 = .ok (.aload_n 0, 1) := by decide +kernel
theorem dX12_nightLine_180 : decode cX12_nightLine 180 = .ok (.ldc2_w 121, 3) := by decide +kernel
theorem dX12_nightLine_183 : decode cX12_nightLine 183 = .ok (.invokevirtual 203, 3) := by decide +kernel
theorem dX12_nightLine_186 : decode cX12_nightLine 186 = .ok (.ifCond .eq 7, 3) := by decide +kernel
theorem dX12_nightLine_189 : decode cX12_nightLine 189 = .ok (.iconst 2, 1) := by decide +kernel
theorem dX12_nightLine_190 : decode cX12_nightLine 190 = .ok (.goto 4, 3) := by decide +kernel
theorem dX12_nightLine_193 : decode cX12_nightLine 193 = .ok (.iconst 3, 1) := by decide +kernel
theorem dX12_nightLine_194 : decode cX12_nightLine 194 = .ok (.iastore, 1) := by decide +kernel
theorem dX12_nightLine_195 : decode cX12_nightLine 195 = .ok (.aload_n 0, 1) := by decide +kernel
theorem dX12_nightLine_196 : decode cX12_nightLine 196 = .ok (.invokevirtual 185, 3) := by decide +kernel
theorem dX12_nightLine_199 : decode cX12_nightLine 199 = .ok (.iconst 1, 1) := by decide +kernel
theorem dX12_nightLine_200 : decode cX12_nightLine 200 = .ok (.ireturn, 1) := by decide +kernel
theorem dX12_nightLine_201 : decode cX12_nightLine 201 = .ok (.aload_n 0, 1) := by decide +kernel
theorem dX12_nightLine_202 : decode cX12_nightLine 202 = .ok (.invokevirtual 195, 3) := by decide +kernel
theorem dX12_nightLine_205 : decode cX12_nightLine 205 = .ok (.ifCond .ne 9, 3) := by decide +kernel
theorem dX12_nightLine_208 : decode cX12_nightLine 208 = .ok (.aload_n 0, 1) := by decide +kernel
theorem dX12_nightLine_209 : decode cX12_nightLine 209 = .ok (.iconst 1, 1) := by decide +kernel
theorem dX12_nightLine_210 : decode cX12_nightLine 210 = .ok (.invokevirtual 182, 3) := by decide +kernel
theorem dX12_nightLine_213 : decode cX12_nightLine 213 = .ok (.ireturn, 1) := by decide +kernel
theorem dX12_nightLine_214 : decode cX12_nightLine 214 = .ok (.aload_n 0, 1) := by decide +kernel
theorem dX12_nightLine_215 : decode cX12_nightLine 215 = .ok (.iconst 0, 1) := by decide +kernel
theorem dX12_nightLine_216 : decode cX12_nightLine 216 = .ok (.aload_n 0, 1) := by decide +kernel
theorem dX12_nightLine_217 : decode cX12_nightLine 217 = .ok (.getfield 33, 3) := by decide +kernel
theorem dX12_nightLine_220 : decode cX12_nightLine 220 = .ok (.iconst 0, 1) := by decide +kernel
theorem dX12_nightLine_221 : decode cX12_nightLine 221 = .ok (.iaload, 1) := by decide +kernel
theorem dX12_nightLine_222 : decode cX12_nightLine 222 = .ok (.invokevirtual 199, 3) := by decide +kernel
theorem dX12_nightLine_225 : decode cX12_nightLine 225 = .ok (.istore_n 2, 1) := by decide +kernel
theorem dX12_nightLine_226 : decode cX12_nightLine 226 = .ok (.iload_n 2, 1) := by decide +kernel
theorem dX12_nightLine_227 : decode cX12_nightLine 227 = .ok (.ifCond .ge 9, 3) := by decide +kernel
theorem dX12_nightLine_230 : decode cX12_nightLine 230 = .ok (.aload_n 0, 1) := by decide +kernel
theorem dX12_nightLine_231 : decode cX12_nightLine 231 = .ok (.iconst 3, 1) := by decide +kernel
theorem dX12_nightLine_232 : decode cX12_nightLine 232 = .ok (.invokevirtual 182, 3) := by decide +kernel
theorem dX12_nightLine_235 : decode cX12_nightLine 235 = .ok (.ireturn, 1) := by decide +kernel
theorem dX12_nightLine_236 : decode cX12_nightLine 236 = .ok (.aload_n 0, 1) := by decide +kernel
theorem dX12_nightLine_237 : decode cX12_nightLine 237 = .ok (.getfield 384, 3) := by decide +kernel
theorem dX12_nightLine_240 : decode cX12_nightLine 240 = .ok (.bipush 40, 2) := by decide +kernel
theorem dX12_nightLine_242 : decode cX12_nightLine 242 = .ok (.if_icmp .eq 12, 3) := by decide +kernel
theorem dX12_nightLine_245 : decode cX12_nightLine 245 = .ok (.aload_n 0, 1) := by decide +kernel
theorem dX12_nightLine_246 : decode cX12_nightLine 246 = .ok (.getfield 387, 3) := by decide +kernel
theorem dX12_nightLine_249 : decode cX12_nightLine 249 = .ok (.bipush 12, 2) := by decide +kernel
theorem dX12_nightLine_251 : decode cX12_nightLine 251 = .ok (.if_icmp .ne 9, 3) := by decide +kernel
theorem dX12_nightLine_254 : decode cX12_nightLine 254 = .ok (.aload_n 0, 1) := by decide +kernel
theorem dX12_nightLine_255 : decode cX12_nightLine 255 = .ok (.iconst 4, 1) := by decide +kernel
theorem dX12_nightLine_256 : decode cX12_nightLine 256 = .ok (.invokevirtual 182, 3) := by decide +kernel
theorem dX12_nightLine_259 : decode cX12_nightLine 259 = .ok (.ireturn, 1) := by decide +kernel
theorem dX12_nightLine_260 : decode cX12_nightLine 260 = .ok (.aload_n 0, 1) := by decide +kernel
theorem dX12_nightLine_261 : decode cX12_nightLine 261 = .ok (.dup, 1) := by decide +kernel
theorem dX12_nightLine_262 : decode cX12_nightLine 262 = .ok (.getfield 387, 3) := by decide +kernel
theorem dX12_nightLine_265 : decode cX12_nightLine 265 = .ok (.iconst 1, 1) := by decide +kernel
theorem dX12_nightLine_266 : decode cX12_nightLine 266 = .ok (.iadd, 1) := by decide +kernel
theorem dX12_nightLine_267 : decode cX12_nightLine 267 = .ok (.putfield 387, 3) := by decide +kernel
theorem dX12_nightLine_270 : decode cX12_nightLine 270 = .ok (.aload_n 0, 1) := by decide +kernel
theorem dX12_nightLine_271 : decode cX12_nightLine 271 = .ok (.invokevirtual 185, 3) := by decide +kernel
theorem dX12_nightLine_274 : decode cX12_nightLine 274 = .ok (.aload_n 0, 1) := by decide +kernel
theorem dX12_nightLine_275 : decode cX12_nightLine 275 = .ok (.ldc2_w 117, 3) := by decide +kernel
theorem dX12_nightLine_278 : decode cX12_nightLine 278 = .ok (.invokevirtual 203, 3) := by decide +kernel
theorem dX12_nightLine_281 : decode cX12_nightLine 281 = .ok (.ifCond .ne 19, 3) := by decide +kernel
theorem dX12_nightLine_284 : decode cX12_nightLine 284 = .ok (.aload_n 0, 1) := by decide +kernel
theorem dX12_nightLine_285 : decode cX12_nightLine 285 = .ok (.ldc2_w 119, 3) := by decide +kernel
theorem dX12_nightLine_288 : decode cX12_nightLine 288 = .ok (.invokevirtual 203, 3) := by decide +kernel
theorem dX12_nightLine_291 : decode cX12_nightLine 291 = .ok (.ifCond .ne 9, 3) := by decide +kernel
theorem dX12_nightLine_294 : decode cX12_nightLine 294 = .ok (.aload_n 0, 1) := by decide +kernel
theorem dX12_nightLine_295 : decode cX12_nightLine 295 = .ok (.iconst 1, 1) := by decide +kernel
theorem dX12_nightLine_296 : decode cX12_nightLine 296 = .ok (.invokevirtual 182, 3) := by decide +kernel
theorem dX12_nightLine_299 : decode cX12_nightLine 299 = .ok (.ireturn, 1) := by decide +kernel
theorem dX12_nightLine_300 : decode cX12_nightLine 300 = .ok (.aload_n 0, 1) := by decide +kernel
theorem dX12_nightLine_301 : decode cX12_nightLine 301 = .ok (.getfield 40, 3) := by decide +kernel
theorem dX12_nightLine_304 : decode cX12_nightLine 304 = .ok (.iload_n 1, 1) := by decide +kernel
theorem dX12_nightLine_305 : decode cX12_nightLine 305 = .ok (.iconst 1, 1) := by decide +kernel
theorem dX12_nightLine_306 : decode cX12_nightLine 306 = .ok (.iastore, 1) := by decide +kernel
theorem dX12_nightLine_307 : decode cX12_nightLine 307 = .ok (.aload_n 0, 1) := by decide +kernel
theorem dX12_nightLine_308 : decode cX12_nightLine 308 = .ok (.getfield 40, 3) := by decide +kernel
theorem dX12_nightLine_311 : decode cX12_nightLine 311 = .ok (.iload_n 1, 1) := by decide +kernel
theorem dX12_nightLine_312 : decode cX12_nightLine 312 = .ok (.iconst 1, 1) := by decide +kernel
theorem dX12_nightLine_313 : decode cX12_nightLine 313 = .ok (.iadd, 1) := by decide +kernel
theorem dX12_nightLine_314 : decode cX12_nightLine 314 = .ok (.iconst 2, 1) := by decide +kernel
theorem dX12_nightLine_315 : decode cX12_nightLine 315 = .ok (.iload_n 2, 1) := by decide +kernel
theorem dX12_nightLine_316 : decode cX12_nightLine 316 = .ok (.imul, 1) := by decide +kernel
theorem dX12_nightLine_317 : decode cX12_nightLine 317 = .ok (.aload_n 0, 1) := by decide +kernel
theorem dX12_nightLine_318 : decode cX12_nightLine 318 = .ok (.ldc2_w 117, 3) := by decide +kernel
theorem dX12_nightLine_321 : decode cX12_nightLine 321 = .ok (.invokevirtual 203, 3) := by decide +kernel
theorem dX12_nightLine_324 : decode cX12_nightLine 324 = .ok (.ifCond .eq 7, 3) := by decide +kernel
theorem dX12_nightLine_327 : decode cX12_nightLine 327 = .ok (.iconst 1, 1) := by decide +kernel
theorem dX12_nightLine_328 : decode cX12_nightLine 328 = .ok (.goto 4, 3) := by decide +kernel
theorem dX12_nightLine_331 : decode cX12_nightLine 331 = .ok (.iconst 0, 1) := by decide +kernel
theorem dX12_nightLine_332 : decode cX12_nightLine 332 = .ok (.iadd, 1) := by decide +kernel
theorem dX12_nightLine_333 : decode cX12_nightLine 333 = .ok (.iastore, 1) := by decide +kernel
theorem dX12_nightLine_334 : decode cX12_nightLine 334 = .ok (.aload_n 0, 1) := by decide +kernel
theorem dX12_nightLine_335 : decode cX12_nightLine 335 = .ok (.invokevirtual 185, 3) := by decide +kernel
theorem dX12_nightLine_338 : decode cX12_nightLine 338 = .ok (.iconst 1, 1) := by decide +kernel
theorem dX12_nightLine_339 : decode cX12_nightLine 339 = .ok (.ireturn, 1) := by decide +kernel
abbrev rm_X12_nightLine : Room := { frames := 2, cells := 0, slots := 0, locals := 43 }
noncomputable def fX12_nightLine_b194 (o0 : Nat) (s0 : Nat) (s1 : Int32) (s2 : Int32) (h : z_T) : Option (Int32 × z_T) :=
  y_gd (z_ok h s0 13) <|
  y_gd (z_ix s1 (z_N h s0)) <|
  y_nm (z_sI h s0 s1.toNatClampNeg s2) fun h3 =>
  y_gd (z_ok h3 o0 11) <|
  y_bi (fX12_go o0 h3) fun h5 =>
  some ((1 : Int32), h5)
noncomputable def fX12_nightLine_b159 (o0 : Nat) (x1 : Int32) (h : z_T) : Option (Int32 × z_T) :=
  y_gd (z_ok h o0 11) <|
  y_br ((z_I h o0 41) = (40 : Int32))
    (y_bi (fX12_bad o0 (4 : Int32) h) fun ⟨r17, h21⟩ =>
    y_gd (y_b r17) <|
    some (r17, h21))
    (y_bi (z_R h o0 8) fun o9 =>
    y_bi (fX12_isWord o0 (30064 : Int64) h) fun r11 =>
    y_br (r11 = 0)
      (fX12_nightLine_b194 o0 o9 x1 (3 : Int32) h)
      (fX12_nightLine_b194 o0 o9 x1 (2 : Int32) h))
noncomputable def fX12_nightLine_b254 (o0 : Nat) (h : z_T) : Option (Int32 × z_T) :=
  y_gd (z_ok h o0 11) <|
  y_bi (fX12_bad o0 (4 : Int32) h) fun ⟨r24, h28⟩ =>
  y_gd (y_b r24) <|
  some (r24, h28)
noncomputable def fX12_nightLine_b332 (o0 : Nat) (s0 : Nat) (s1 : Int32) (s2 : Int32) (s3 : Int32) (h : z_T) : Option (Int32 × z_T) :=
  y_gd (z_ok h s0 13) <|
  y_gd (z_ix s1 (z_N h s0)) <|
  y_nm (z_sI h s0 s1.toNatClampNeg (s2 + s3)) fun h33 =>
  y_gd (z_ok h33 o0 11) <|
  y_bi (fX12_go o0 h33) fun h35 =>
  some ((1 : Int32), h35)
noncomputable def fX12_nightLine_b300 (o0 : Nat) (x1 : Int32) (x2 : Int32) (h : z_T) : Option (Int32 × z_T) :=
  y_gd (z_ok h o0 11) <|
  y_bi (z_R h o0 8) fun o38 =>
  y_gd (z_ok h o38 13) <|
  y_gd (z_ix x1 (z_N h o38)) <|
  y_nm (z_sI h o38 x1.toNatClampNeg (1 : Int32)) fun h41 =>
  y_bi (fX12_isWord o0 (495873784179 : Int64) h41) fun r43 =>
  y_br (r43 = 0)
    (fX12_nightLine_b332 o0 o38 (x1 + (1 : Int32)) ((2 : Int32) * x2) (0 : Int32) h41)
    (fX12_nightLine_b332 o0 o38 (x1 + (1 : Int32)) ((2 : Int32) * x2) (1 : Int32) h41)
noncomputable def fX12_nightLine (o0 : Nat) (h : z_T) : Option (Int32 × z_T) :=
  y_gd (z_ok h o0 11) <|
  y_nm (((2 : Int32) * (z_I h o0 41))) fun v49 =>
  y_bi (fX12_isWord o0 (26990 : Int64) h) fun r51 =>
  y_br (r51 = 0)
    (y_br ((z_I h o0 41) = 0)
      (y_bi (fX12_bad o0 (1 : Int32) h) fun ⟨r124, h128⟩ =>
      y_gd (y_b r124) <|
      some (r124, h128))
      (y_bi (fX12_isWord o0 (30064 : Int64) h) fun r58 =>
      y_br (r58 = 0)
        (y_bi (fX12_isWord o0 (6448484 : Int64) h) fun r64 =>
        y_br (r64 = 0)
          (y_bi (fX12_isName o0 h) fun r70 =>
          y_br (r70 = 0)
            (y_bi (fX12_bad o0 (1 : Int32) h) fun ⟨r117, h121⟩ =>
            y_gd (y_b r117) <|
            some (r117, h121))
            (y_bi (z_R h o0 6) fun o75 =>
            y_gd (z_ok h o75 13) <|
            y_gd (z_ix (0 : Int32) (z_N h o75)) <|
            y_bi (fX12_find o0 (0 : Int32) (z_I h o75 (0 : Int32).toNatClampNeg) h) fun r79 =>
            y_br (0 ≤ r79)
              (y_br ((z_I h o0 41) = (40 : Int32))
                (fX12_nightLine_b254 o0 h)
                (y_br ((z_I h o0 42) = (12 : Int32))
                  (fX12_nightLine_b254 o0 h)
                  (y_nm (z_sI h o0 42 ((z_I h o0 42) + (1 : Int32))) fun h86 =>
                  y_bi (fX12_go o0 h86) fun h88 =>
                  y_gd (z_ok h88 o0 11) <|
                  y_bi (fX12_isWord o0 (495873784179 : Int64) h88) fun r90 =>
                  y_br (r90 = 0)
                    (y_bi (fX12_isWord o0 (470021465459 : Int64) h88) fun r97 =>
                    y_br (r97 = 0)
                      (y_bi (fX12_bad o0 (1 : Int32) h88) fun ⟨r103, h107⟩ =>
                      y_gd (y_b r103) <|
                      some (r103, h107))
                      (fX12_nightLine_b300 o0 v49 r79 h88))
                    (fX12_nightLine_b300 o0 v49 r79 h88))))
              (y_bi (fX12_bad o0 (3 : Int32) h) fun ⟨r110, h114⟩ =>
              y_gd (y_b r110) <|
              some (r110, h114))))
          (fX12_nightLine_b159 o0 v49 h))
        (fX12_nightLine_b159 o0 v49 h)))
    (y_br ((z_I h o0 41) = (40 : Int32))
      (y_bi (fX12_bad o0 (4 : Int32) h) fun ⟨r183, h187⟩ =>
      y_gd (y_b r183) <|
      some (r183, h187))
      (y_bi (fX12_go o0 h) fun h132 =>
      y_gd (z_ok h132 o0 11) <|
      y_bi (z_R h132 o0 8) fun o134 =>
      y_gd (z_ok h132 o134 13) <|
      y_gd (z_ix v49 (z_N h132 o134)) <|
      y_nm (z_sI h132 o134 v49.toNatClampNeg (0 : Int32)) fun h137 =>
      y_gd (z_ix (v49 + (1 : Int32)) (z_N h137 o134)) <|
      y_nm (z_sI h137 o134 (v49 + (1 : Int32)).toNatClampNeg (0 : Int32)) fun h139 =>
      y_nm (z_sI h139 o0 42 (0 : Int32)) fun h140 =>
      y_bi (fX12_isWord o0 (1919905645 : Int64) h140) fun r142 =>
      y_br (r142 = 0)
        (y_bi (fX12_isName o0 h140) fun r148 =>
        y_br (r148 = 0)
          (y_bi (fX12_bad o0 (1 : Int32) h140) fun ⟨r174, h178⟩ =>
          y_gd (y_b r174) <|
          some (r174, h178))
          (y_bi (z_R h140 o0 6) fun o153 =>
          y_gd (z_ok h140 o153 13) <|
          y_gd (z_ix (1 : Int32) (z_N h140 o153)) <|
          y_bi (fX12_find o0 (8 : Int32) (z_I h140 o153 (1 : Int32).toNatClampNeg) h140) fun r157 =>
          y_br (0 ≤ r157)
            (y_gd (z_ix (v49 + (1 : Int32)) (z_N h140 o134)) <|
            y_nm (z_sI h140 o134 (v49 + (1 : Int32)).toNatClampNeg (r157 + (1 : Int32))) fun h163 =>
            y_bi (fX12_go o0 h163) fun h165 =>
            some ((1 : Int32), h165))
            (y_bi (fX12_bad o0 (3 : Int32) h140) fun ⟨r167, h171⟩ =>
            y_gd (y_b r167) <|
            some (r167, h171))))
        (y_bi (fX12_go o0 h140) fun h181 =>
        some ((1 : Int32), h181))))
set_option maxHeartbeats 4000000 in
set_option maxRecDepth 100000 in
theorem mm_X12_nightLine {G : z_Gt} {S : State → Prop} (hSK : z_SK S) (l : Launch) (ad : Nat → Nat) (o0 : Nat) (h : z_T) {r0 : Int32} {h9 : z_T} (hv : fX12_nightLine o0 h = some (r0, h9)) : z_Mi G S l yX12_nightLine cX12_nightLine 3 (.boolean) rm_X12_nightLine 0 0 [.ref (ad o0)] ad h h9 r0 := by
  refine z_ofW hSK (by decide) (Nat.le_of_ble_eq_true rfl) ?_
  intro p e s m args below meth c ls hc hr hnm hB hl
  have hx := hc.1.1
  have hb := hc.1.2.1
  have hown := hc.1.2.2.2.1
  have hts := hc.1.2.2.2.2
  replace hc : z_C G S ad (z_n h) p m c cX12_nightLine 3 s args RX12 meth := hc
  replace hown : s.vm.findClass RX12 = some m.cls := hown
  replace hl : lv_has ls 3 [(0, .ref (ad o0))] := hl
  show W p l e rm_X12_nightLine s m args below meth c s.heap [] 0 0 (MQ below (z_Qi G ad h9 (z_n h) s.heap.size r0) args s 0 0 (z_A ad (z_n h) s.heap.size)) (F0 m 0 ls [])
  obtain ⟨rs, kt⟩ : ∃ rs : Int32 × z_T, rs = (r0, h9) := ⟨_, rfl⟩
  generalize hn0 : z_n h = n0 at hc hB ⊢
  have b194 : ∀ (s0 : Nat) (s1 : Int32) (s2 : Int32) (h : z_T) (H : Heap) (locs : List Loc) (ls : Array Slot), z_B G ad n0 s h H locs → lv_has ls 3 [(0, .ref (ad o0))] → ∀ w, fX12_nightLine_b194 o0 s0 s1 s2 h = some w → w = (r0, h9) → W p l e rm_X12_nightLine s m args below meth c H locs 0 0 (MQ below (z_Qi G ad h9 n0 s.heap.size r0) args s 0 0 (z_A ad n0 s.heap.size)) (F0 m 194 ls [.int s2, .int s1, .ref (ad s0)]) := by
    intro s0 s1 s2 h H locs ls hB hl w hv kb
    obtain ⟨g1, hv⟩ := y_gd_e hv
    obtain ⟨i2, hv⟩ := y_gd_e hv
    obtain ⟨h3, eh3, hv⟩ := y_nm_e hv
    refine y_iast hc hB eh3 g1 i2 dX12_nightLine_194 (fun H locs hB => ?_)
    refine lv_aload_n hx hb dX12_nightLine_195 rfl (lv_at hl 0 rfl) ?_
    obtain ⟨g6, hv⟩ := y_gd_e hv
    obtain ⟨h5, c4, hv⟩ := y_bi_e hv
    refine z_thV hc hB (z_runV hc hB 11 (mm_X12_go hSK l ad o0 h3 c4) md_X12_go qmX12_185 g6 (by decide) rfl rfl rfl ⟨Nat.le_of_ble_eq_true rfl, Nat.le_of_ble_eq_true rfl⟩ rfl hl.1 rfl (Nat.le_of_ble_eq_true rfl) dX12_nightLine_196 ⟨Nat.le_of_ble_eq_true rfl, Nat.le_of_ble_eq_true rfl⟩) (fun H locs hB => ?_)
    refine lv_iconst (v := (1 : Int32)) hx hb dX12_nightLine_199 (by decide) ?_
    replace hv := Option.some.inj hv
    subst hv
    obtain ⟨e1, e2⟩ := y_pr kb
    rw [← e1, ← e2]
    exact z_zret hc hB hr rfl dX12_nightLine_200
  have b159 : ∀ (x1 : Int32) (h : z_T) (H : Heap) (locs : List Loc) (ls : Array Slot), z_B G ad n0 s h H locs → lv_has ls 3 [(0, .ref (ad o0)), (1, .int x1)] → ∀ w, fX12_nightLine_b159 o0 x1 h = some w → w = (r0, h9) → W p l e rm_X12_nightLine s m args below meth c H locs 0 0 (MQ below (z_Qi G ad h9 n0 s.heap.size r0) args s 0 0 (z_A ad n0 s.heap.size)) (F0 m 159 ls []) := by
    intro x1 h H locs ls hB hl w hv kb
    refine lv_aload_n hx hb dX12_nightLine_159 rfl (lv_at hl 0 rfl) ?_
    obtain ⟨g7, hv⟩ := y_gd_e hv
    refine z_getI hc hB 11 41 g7 (by decide) (by decide) rfl (z_l1 hc qfX12_384) dX12_nightLine_160 ?_
    refine lv_bipush (v := (40 : Int32)) hx hb dX12_nightLine_163 (by decide) ?_
    refine lv_icmp_ne (tgt := 174) hx hb dX12_nightLine_165 (by decide) (fun c8 => ?_) (fun c8 => ?_)
    · replace hv := y_br_f hv c8
      refine lv_aload_n hx hb dX12_nightLine_174 rfl (lv_at hl 0 rfl) ?_
      obtain ⟨o9, eo9, hv⟩ := y_bi_e hv
      refine z_getR hc hB 11 8 g7 eo9 (by decide) (by decide) rfl (z_l1 hc qfX12_40) dX12_nightLine_175 ?_
      refine lv_iload_n hx hb dX12_nightLine_178 rfl (lv_at hl 1 rfl) ?_
      refine lv_aload_n hx hb dX12_nightLine_179 rfl (lv_at hl 0 rfl) ?_
      refine lv_ldc2 (v := (30064 : Int64)) hx hb hown (hts _ qkX12_121) dX12_nightLine_180 ?_
      obtain ⟨r11, c10, hv⟩ := y_bi_e hv
      refine z_thI hc hB (z_runV hc hB 11 (mm_X12_isWord hSK l ad o0 (30064 : Int64) h c10) md_X12_isWord qmX12_203 g7 (by decide) rfl rfl rfl ⟨Nat.le_of_ble_eq_true rfl, Nat.le_of_ble_eq_true rfl⟩ rfl hl.1 rfl (Nat.le_of_ble_eq_true rfl) dX12_nightLine_183 ⟨Nat.le_of_ble_eq_true rfl, Nat.le_of_ble_eq_true rfl⟩) (fun H locs hB => ?_)
      refine lv_if_eq (tgt := 193) hx hb dX12_nightLine_186 (by decide) (fun c15 => ?_) (fun c15 => ?_)
      · replace hv := y_br_t hv c15
        refine lv_iconst (v := (3 : Int32)) hx hb dX12_nightLine_193 (by decide) ?_
        exact b194 o9 x1 (3 : Int32) h _ _ _ hB (lv_sub hl [0] rfl) _ hv kb
      · replace hv := y_br_f hv c15
        refine lv_iconst (v := (2 : Int32)) hx hb dX12_nightLine_189 (by decide) ?_
        refine lv_goto (tgt := 194) hx hb dX12_nightLine_190 (by decide) ?_
        exact b194 o9 x1 (2 : Int32) h _ _ _ hB (lv_sub hl [0] rfl) _ hv kb
    · replace hv := y_br_t hv c8
      refine lv_aload_n hx hb dX12_nightLine_168 rfl (lv_at hl 0 rfl) ?_
      refine lv_iconst (v := (4 : Int32)) hx hb dX12_nightLine_169 (by decide) ?_
      obtain ⟨⟨r17, h21⟩, c16, hv⟩ := y_bi_e hv
      refine z_thI hc hB (z_runV hc hB 11 (mm_X12_bad hSK l ad o0 (4 : Int32) h c16) md_X12_bad qmX12_182 g7 (by decide) rfl rfl rfl ⟨Nat.le_of_ble_eq_true rfl, Nat.le_of_ble_eq_true rfl⟩ rfl hl.1 rfl (Nat.le_of_ble_eq_true rfl) dX12_nightLine_170 ⟨Nat.le_of_ble_eq_true rfl, Nat.le_of_ble_eq_true rfl⟩) (fun H locs hB => ?_)
      obtain ⟨y22, hv⟩ := y_gd_e hv
      replace hv := Option.some.inj hv
      subst hv
      obtain ⟨e1, e2⟩ := y_pr kb
      rw [← e1, ← e2]
      exact z_zret hc hB hr (y_b_n y22) dX12_nightLine_173
  have b254 : ∀ (h : z_T) (H : Heap) (locs : List Loc) (ls : Array Slot), z_B G ad n0 s h H locs → lv_has ls 3 [(0, .ref (ad o0))] → ∀ w, fX12_nightLine_b254 o0 h = some w → w = (r0, h9) → W p l e rm_X12_nightLine s m args below meth c H locs 0 0 (MQ below (z_Qi G ad h9 n0 s.heap.size r0) args s 0 0 (z_A ad n0 s.heap.size)) (F0 m 254 ls []) := by
    intro h H locs ls hB hl w hv kb
    refine lv_aload_n hx hb dX12_nightLine_254 rfl (lv_at hl 0 rfl) ?_
    refine lv_iconst (v := (4 : Int32)) hx hb dX12_nightLine_255 (by decide) ?_
    obtain ⟨g29, hv⟩ := y_gd_e hv
    obtain ⟨⟨r24, h28⟩, c23, hv⟩ := y_bi_e hv
    refine z_thI hc hB (z_runV hc hB 11 (mm_X12_bad hSK l ad o0 (4 : Int32) h c23) md_X12_bad qmX12_182 g29 (by decide) rfl rfl rfl ⟨Nat.le_of_ble_eq_true rfl, Nat.le_of_ble_eq_true rfl⟩ rfl hl.1 rfl (Nat.le_of_ble_eq_true rfl) dX12_nightLine_256 ⟨Nat.le_of_ble_eq_true rfl, Nat.le_of_ble_eq_true rfl⟩) (fun H locs hB => ?_)
    obtain ⟨y30, hv⟩ := y_gd_e hv
    replace hv := Option.some.inj hv
    subst hv
    obtain ⟨e1, e2⟩ := y_pr kb
    rw [← e1, ← e2]
    exact z_zret hc hB hr (y_b_n y30) dX12_nightLine_259
  have b332 : ∀ (s0 : Nat) (s1 : Int32) (s2 : Int32) (s3 : Int32) (h : z_T) (H : Heap) (locs : List Loc) (ls : Array Slot), z_B G ad n0 s h H locs → lv_has ls 3 [(0, .ref (ad o0))] → ∀ w, fX12_nightLine_b332 o0 s0 s1 s2 s3 h = some w → w = (r0, h9) → W p l e rm_X12_nightLine s m args below meth c H locs 0 0 (MQ below (z_Qi G ad h9 n0 s.heap.size r0) args s 0 0 (z_A ad n0 s.heap.size)) (F0 m 332 ls [.int s3, .int s2, .int s1, .ref (ad s0)]) := by
    intro s0 s1 s2 s3 h H locs ls hB hl w hv kb
    refine lv_iadd hx hb dX12_nightLine_332 ?_
    obtain ⟨g31, hv⟩ := y_gd_e hv
    obtain ⟨i32, hv⟩ := y_gd_e hv
    obtain ⟨h33, eh33, hv⟩ := y_nm_e hv
    refine y_iast hc hB eh33 g31 i32 dX12_nightLine_333 (fun H locs hB => ?_)
    refine lv_aload_n hx hb dX12_nightLine_334 rfl (lv_at hl 0 rfl) ?_
    obtain ⟨g36, hv⟩ := y_gd_e hv
    obtain ⟨h35, c34, hv⟩ := y_bi_e hv
    refine z_thV hc hB (z_runV hc hB 11 (mm_X12_go hSK l ad o0 h33 c34) md_X12_go qmX12_185 g36 (by decide) rfl rfl rfl ⟨Nat.le_of_ble_eq_true rfl, Nat.le_of_ble_eq_true rfl⟩ rfl hl.1 rfl (Nat.le_of_ble_eq_true rfl) dX12_nightLine_335 ⟨Nat.le_of_ble_eq_true rfl, Nat.le_of_ble_eq_true rfl⟩) (fun H locs hB => ?_)
    refine lv_iconst (v := (1 : Int32)) hx hb dX12_nightLine_338 (by decide) ?_
    replace hv := Option.some.inj hv
    subst hv
    obtain ⟨e1, e2⟩ := y_pr kb
    rw [← e1, ← e2]
    exact z_zret hc hB hr rfl dX12_nightLine_339
  have b300 : ∀ (x1 : Int32) (x2 : Int32) (h : z_T) (H : Heap) (locs : List Loc) (ls : Array Slot), z_B G ad n0 s h H locs → lv_has ls 3 [(0, .ref (ad o0)), (1, .int x1), (2, .int x2)] → ∀ w, fX12_nightLine_b300 o0 x1 x2 h = some w → w = (r0, h9) → W p l e rm_X12_nightLine s m args below meth c H locs 0 0 (MQ below (z_Qi G ad h9 n0 s.heap.size r0) args s 0 0 (z_A ad n0 s.heap.size)) (F0 m 300 ls []) := by
    intro x1 x2 h H locs ls hB hl w hv kb
    refine lv_aload_n hx hb dX12_nightLine_300 rfl (lv_at hl 0 rfl) ?_
    obtain ⟨g37, hv⟩ := y_gd_e hv
    obtain ⟨o38, eo38, hv⟩ := y_bi_e hv
    refine z_getR hc hB 11 8 g37 eo38 (by decide) (by decide) rfl (z_l1 hc qfX12_40) dX12_nightLine_301 ?_
    refine lv_iload_n hx hb dX12_nightLine_304 rfl (lv_at hl 1 rfl) ?_
    refine lv_iconst (v := (1 : Int32)) hx hb dX12_nightLine_305 (by decide) ?_
    obtain ⟨g39, hv⟩ := y_gd_e hv
    obtain ⟨i40, hv⟩ := y_gd_e hv
    obtain ⟨h41, eh41, hv⟩ := y_nm_e hv
    refine y_iast hc hB eh41 g39 i40 dX12_nightLine_306 (fun H locs hB => ?_)
    refine lv_aload_n hx hb dX12_nightLine_307 rfl (lv_at hl 0 rfl) ?_
    refine z_getR hc hB 11 8 (by rw [eh41]; exact g37) (by rw [eh41]; exact eo38) (by decide) (by decide) rfl (z_l1 hc qfX12_40) dX12_nightLine_308 ?_
    refine lv_iload_n hx hb dX12_nightLine_311 rfl (lv_at hl 1 rfl) ?_
    refine lv_iconst (v := (1 : Int32)) hx hb dX12_nightLine_312 (by decide) ?_
    refine lv_iadd hx hb dX12_nightLine_313 ?_
    refine lv_iconst (v := (2 : Int32)) hx hb dX12_nightLine_314 (by decide) ?_
    refine lv_iload_n hx hb dX12_nightLine_315 rfl (lv_at hl 2 rfl) ?_
    refine lv_imul hx hb dX12_nightLine_316 ?_
    refine lv_aload_n hx hb dX12_nightLine_317 rfl (lv_at hl 0 rfl) ?_
    refine lv_ldc2 (v := (495873784179 : Int64)) hx hb hown (hts _ qkX12_117) dX12_nightLine_318 ?_
    obtain ⟨r43, c42, hv⟩ := y_bi_e hv
    refine z_thI hc hB (z_runV hc hB 11 (mm_X12_isWord hSK l ad o0 (495873784179 : Int64) h41 c42) md_X12_isWord qmX12_203 (by rw [eh41]; exact g37) (by decide) rfl rfl rfl ⟨Nat.le_of_ble_eq_true rfl, Nat.le_of_ble_eq_true rfl⟩ rfl hl.1 rfl (Nat.le_of_ble_eq_true rfl) dX12_nightLine_321 ⟨Nat.le_of_ble_eq_true rfl, Nat.le_of_ble_eq_true rfl⟩) (fun H locs hB => ?_)
    refine lv_if_eq (tgt := 331) hx hb dX12_nightLine_324 (by decide) (fun c47 => ?_) (fun c47 => ?_)
    · replace hv := y_br_t hv c47
      refine lv_iconst (v := (0 : Int32)) hx hb dX12_nightLine_331 (by decide) ?_
      exact b332 o38 (x1 + (1 : Int32)) ((2 : Int32) * x2) (0 : Int32) h41 _ _ _ hB (lv_sub hl [0] rfl) _ hv kb
    · replace hv := y_br_f hv c47
      refine lv_iconst (v := (1 : Int32)) hx hb dX12_nightLine_327 (by decide) ?_
      refine lv_goto (tgt := 332) hx hb dX12_nightLine_328 (by decide) ?_
      exact b332 o38 (x1 + (1 : Int32)) ((2 : Int32) * x2) (1 : Int32) h41 _ _ _ hB (lv_sub hl [0] rfl) _ hv kb
  rw [← kt] at hv
  refine lv_iconst (v := (2 : Int32)) hx hb dX12_nightLine_0 (by decide) ?_
  refine lv_aload_n hx hb dX12_nightLine_1 rfl (lv_at hl 0 rfl) ?_
  obtain ⟨g48, hv⟩ := y_gd_e hv
  refine z_getI hc hB 11 41 g48 (by decide) (by decide) rfl (z_l1 hc qfX12_384) dX12_nightLine_2 ?_
  refine lv_imul hx hb dX12_nightLine_5 ?_
  obtain ⟨v49, ev49, hv⟩ := y_nm_e hv
  rw [← ev49]
  refine lv_istore_n (lv' := [(1, .int v49), (0, .ref (ad o0))]) hx hb dX12_nightLine_6 rfl hl (by decide) rfl (fun ls hl => ?_)
  refine lv_aload_n hx hb dX12_nightLine_7 rfl (lv_at hl 1 rfl) ?_
  refine lv_ldc2 (v := (26990 : Int64)) hx hb hown (hts _ qkX12_115) dX12_nightLine_8 ?_
  obtain ⟨r51, c50, hv⟩ := y_bi_e hv
  refine z_thI hc hB (z_runV hc hB 11 (mm_X12_isWord hSK l ad o0 (26990 : Int64) h c50) md_X12_isWord qmX12_203 g48 (by decide) rfl rfl rfl ⟨Nat.le_of_ble_eq_true rfl, Nat.le_of_ble_eq_true rfl⟩ rfl hl.1 rfl (Nat.le_of_ble_eq_true rfl) dX12_nightLine_11 ⟨Nat.le_of_ble_eq_true rfl, Nat.le_of_ble_eq_true rfl⟩) (fun H locs hB => ?_)
  refine lv_if_eq (tgt := 126) hx hb dX12_nightLine_14 (by decide) (fun c55 => ?_) (fun c55 => ?_)
  · replace hv := y_br_t hv c55
    refine lv_aload_n hx hb dX12_nightLine_126 rfl (lv_at hl 1 rfl) ?_
    refine z_getI hc hB 11 41 g48 (by decide) (by decide) rfl (z_l1 hc qfX12_384) dX12_nightLine_127 ?_
    refine lv_if_ne (tgt := 139) hx hb dX12_nightLine_130 (by decide) (fun c56 => ?_) (fun c56 => ?_)
    · replace hv := y_br_f hv c56
      refine lv_aload_n hx hb dX12_nightLine_139 rfl (lv_at hl 1 rfl) ?_
      refine lv_ldc2 (v := (30064 : Int64)) hx hb hown (hts _ qkX12_121) dX12_nightLine_140 ?_
      obtain ⟨r58, c57, hv⟩ := y_bi_e hv
      refine z_thI hc hB (z_runV hc hB 11 (mm_X12_isWord hSK l ad o0 (30064 : Int64) h c57) md_X12_isWord qmX12_203 g48 (by decide) rfl rfl rfl ⟨Nat.le_of_ble_eq_true rfl, Nat.le_of_ble_eq_true rfl⟩ rfl hl.1 rfl (Nat.le_of_ble_eq_true rfl) dX12_nightLine_143 ⟨Nat.le_of_ble_eq_true rfl, Nat.le_of_ble_eq_true rfl⟩) (fun H locs hB => ?_)
      refine lv_if_ne (tgt := 159) hx hb dX12_nightLine_146 (by decide) (fun c62 => ?_) (fun c62 => ?_)
      · replace hv := y_br_f hv c62
        exact b159 v49 h _ _ _ hB (lv_sub hl [1, 0] rfl) _ hv kt
      · replace hv := y_br_t hv c62
        refine lv_aload_n hx hb dX12_nightLine_149 rfl (lv_at hl 1 rfl) ?_
        refine lv_ldc2 (v := (6448484 : Int64)) hx hb hown (hts _ qkX12_123) dX12_nightLine_150 ?_
        obtain ⟨r64, c63, hv⟩ := y_bi_e hv
        refine z_thI hc hB (z_runV hc hB 11 (mm_X12_isWord hSK l ad o0 (6448484 : Int64) h c63) md_X12_isWord qmX12_203 g48 (by decide) rfl rfl rfl ⟨Nat.le_of_ble_eq_true rfl, Nat.le_of_ble_eq_true rfl⟩ rfl hl.1 rfl (Nat.le_of_ble_eq_true rfl) dX12_nightLine_153 ⟨Nat.le_of_ble_eq_true rfl, Nat.le_of_ble_eq_true rfl⟩) (fun H locs hB => ?_)
        refine lv_if_eq (tgt := 201) hx hb dX12_nightLine_156 (by decide) (fun c68 => ?_) (fun c68 => ?_)
        · replace hv := y_br_t hv c68
          refine lv_aload_n hx hb dX12_nightLine_201 rfl (lv_at hl 1 rfl) ?_
          obtain ⟨r70, c69, hv⟩ := y_bi_e hv
          refine z_thI hc hB (z_runV hc hB 11 (mm_X12_isName hSK l ad o0 h c69) md_X12_isName qmX12_195 g48 (by decide) rfl rfl rfl ⟨Nat.le_of_ble_eq_true rfl, Nat.le_of_ble_eq_true rfl⟩ rfl hl.1 rfl (Nat.le_of_ble_eq_true rfl) dX12_nightLine_202 ⟨Nat.le_of_ble_eq_true rfl, Nat.le_of_ble_eq_true rfl⟩) (fun H locs hB => ?_)
          refine lv_if_ne (tgt := 214) hx hb dX12_nightLine_205 (by decide) (fun c74 => ?_) (fun c74 => ?_)
          · replace hv := y_br_f hv c74
            refine lv_aload_n hx hb dX12_nightLine_214 rfl (lv_at hl 1 rfl) ?_
            refine lv_iconst (v := (0 : Int32)) hx hb dX12_nightLine_215 (by decide) ?_
            refine lv_aload_n hx hb dX12_nightLine_216 rfl (lv_at hl 1 rfl) ?_
            obtain ⟨o75, eo75, hv⟩ := y_bi_e hv
            refine z_getR hc hB 11 6 g48 eo75 (by decide) (by decide) rfl (z_l1 hc qfX12_33) dX12_nightLine_217 ?_
            refine lv_iconst (v := (0 : Int32)) hx hb dX12_nightLine_220 (by decide) ?_
            obtain ⟨g76, hv⟩ := y_gd_e hv
            obtain ⟨i77, hv⟩ := y_gd_e hv
            refine z_iald hc hB g76 i77 dX12_nightLine_221 ?_
            obtain ⟨r79, c78, hv⟩ := y_bi_e hv
            refine z_thI hc hB (z_runV hc hB 11 (mm_X12_find hSK l ad o0 (0 : Int32) (z_I h o75 (0 : Int32).toNatClampNeg) h c78) md_X12_find qmX12_199 g48 (by decide) rfl rfl rfl ⟨Nat.le_of_ble_eq_true rfl, Nat.le_of_ble_eq_true rfl⟩ rfl hl.1 rfl (Nat.le_of_ble_eq_true rfl) dX12_nightLine_222 ⟨Nat.le_of_ble_eq_true rfl, Nat.le_of_ble_eq_true rfl⟩) (fun H locs hB => ?_)
            refine lv_istore_n (lv' := [(2, .int r79), (1, .int v49), (0, .ref (ad o0))]) hx hb dX12_nightLine_225 rfl hl (by decide) rfl (fun ls hl => ?_)
            refine lv_iload_n hx hb dX12_nightLine_226 rfl (lv_at hl 0 rfl) ?_
            refine lv_if_ge (tgt := 236) hx hb dX12_nightLine_227 (by decide) (fun c83 => ?_) (fun c83 => ?_)
            · replace hv := y_br_t hv c83
              refine lv_aload_n hx hb dX12_nightLine_236 rfl (lv_at hl 2 rfl) ?_
              refine z_getI hc hB 11 41 g48 (by decide) (by decide) rfl (z_l1 hc qfX12_384) dX12_nightLine_237 ?_
              refine lv_bipush (v := (40 : Int32)) hx hb dX12_nightLine_240 (by decide) ?_
              refine lv_icmp_eq (tgt := 254) hx hb dX12_nightLine_242 (by decide) (fun c84 => ?_) (fun c84 => ?_)
              · replace hv := y_br_t hv c84
                exact b254 h _ _ _ hB (lv_sub hl [2] rfl) _ hv kt
              · replace hv := y_br_f hv c84
                refine lv_aload_n hx hb dX12_nightLine_245 rfl (lv_at hl 2 rfl) ?_
                refine z_getI hc hB 11 42 g48 (by decide) (by decide) rfl (z_l1 hc qfX12_387) dX12_nightLine_246 ?_
                refine lv_bipush (v := (12 : Int32)) hx hb dX12_nightLine_249 (by decide) ?_
                refine lv_icmp_ne (tgt := 260) hx hb dX12_nightLine_251 (by decide) (fun c85 => ?_) (fun c85 => ?_)
                · replace hv := y_br_f hv c85
                  refine lv_aload_n hx hb dX12_nightLine_260 rfl (lv_at hl 2 rfl) ?_
                  refine lv_dup hx hb dX12_nightLine_261 rfl ?_
                  refine z_getI hc hB 11 42 g48 (by decide) (by decide) rfl (z_l1 hc qfX12_387) dX12_nightLine_262 ?_
                  refine lv_iconst (v := (1 : Int32)) hx hb dX12_nightLine_265 (by decide) ?_
                  refine lv_iadd hx hb dX12_nightLine_266 ?_
                  obtain ⟨h86, eh86, hv⟩ := y_nm_e hv
                  refine y_putI hc hB 11 42 eh86 g48 (z_l1 hc qfX12_387) dX12_nightLine_267 (by decide) (by decide) rfl rfl rfl rfl (fun H locs hB => ?_)
                  refine lv_aload_n hx hb dX12_nightLine_270 rfl (lv_at hl 2 rfl) ?_
                  obtain ⟨h88, c87, hv⟩ := y_bi_e hv
                  refine z_thV hc hB (z_runV hc hB 11 (mm_X12_go hSK l ad o0 h86 c87) md_X12_go qmX12_185 (by rw [eh86]; exact g48) (by decide) rfl rfl rfl ⟨Nat.le_of_ble_eq_true rfl, Nat.le_of_ble_eq_true rfl⟩ rfl hl.1 rfl (Nat.le_of_ble_eq_true rfl) dX12_nightLine_271 ⟨Nat.le_of_ble_eq_true rfl, Nat.le_of_ble_eq_true rfl⟩) (fun H locs hB => ?_)
                  refine lv_aload_n hx hb dX12_nightLine_274 rfl (lv_at hl 2 rfl) ?_
                  refine lv_ldc2 (v := (495873784179 : Int64)) hx hb hown (hts _ qkX12_117) dX12_nightLine_275 ?_
                  obtain ⟨g94, hv⟩ := y_gd_e hv
                  obtain ⟨r90, c89, hv⟩ := y_bi_e hv
                  refine z_thI hc hB (z_runV hc hB 11 (mm_X12_isWord hSK l ad o0 (495873784179 : Int64) h88 c89) md_X12_isWord qmX12_203 g94 (by decide) rfl rfl rfl ⟨Nat.le_of_ble_eq_true rfl, Nat.le_of_ble_eq_true rfl⟩ rfl hl.1 rfl (Nat.le_of_ble_eq_true rfl) dX12_nightLine_278 ⟨Nat.le_of_ble_eq_true rfl, Nat.le_of_ble_eq_true rfl⟩) (fun H locs hB => ?_)
                  refine lv_if_ne (tgt := 300) hx hb dX12_nightLine_281 (by decide) (fun c95 => ?_) (fun c95 => ?_)
                  · replace hv := y_br_f hv c95
                    exact b300 v49 r79 h88 _ _ _ hB (lv_sub hl [2, 1, 0] rfl) _ hv kt
                  · replace hv := y_br_t hv c95
                    refine lv_aload_n hx hb dX12_nightLine_284 rfl (lv_at hl 2 rfl) ?_
                    refine lv_ldc2 (v := (470021465459 : Int64)) hx hb hown (hts _ qkX12_119) dX12_nightLine_285 ?_
                    obtain ⟨r97, c96, hv⟩ := y_bi_e hv
                    refine z_thI hc hB (z_runV hc hB 11 (mm_X12_isWord hSK l ad o0 (470021465459 : Int64) h88 c96) md_X12_isWord qmX12_203 g94 (by decide) rfl rfl rfl ⟨Nat.le_of_ble_eq_true rfl, Nat.le_of_ble_eq_true rfl⟩ rfl hl.1 rfl (Nat.le_of_ble_eq_true rfl) dX12_nightLine_288 ⟨Nat.le_of_ble_eq_true rfl, Nat.le_of_ble_eq_true rfl⟩) (fun H locs hB => ?_)
                    refine lv_if_ne (tgt := 300) hx hb dX12_nightLine_291 (by decide) (fun c101 => ?_) (fun c101 => ?_)
                    · replace hv := y_br_f hv c101
                      exact b300 v49 r79 h88 _ _ _ hB (lv_sub hl [2, 1, 0] rfl) _ hv kt
                    · replace hv := y_br_t hv c101
                      refine lv_aload_n hx hb dX12_nightLine_294 rfl (lv_at hl 2 rfl) ?_
                      refine lv_iconst (v := (1 : Int32)) hx hb dX12_nightLine_295 (by decide) ?_
                      obtain ⟨⟨r103, h107⟩, c102, hv⟩ := y_bi_e hv
                      refine z_thI hc hB (z_runV hc hB 11 (mm_X12_bad hSK l ad o0 (1 : Int32) h88 c102) md_X12_bad qmX12_182 g94 (by decide) rfl rfl rfl ⟨Nat.le_of_ble_eq_true rfl, Nat.le_of_ble_eq_true rfl⟩ rfl hl.1 rfl (Nat.le_of_ble_eq_true rfl) dX12_nightLine_296 ⟨Nat.le_of_ble_eq_true rfl, Nat.le_of_ble_eq_true rfl⟩) (fun H locs hB => ?_)
                      obtain ⟨y108, hv⟩ := y_gd_e hv
                      replace hv := Option.some.inj hv
                      subst hv
                      obtain ⟨e1, e2⟩ := y_pr kt
                      rw [← e1, ← e2]
                      exact z_zret hc hB hr (y_b_n y108) dX12_nightLine_299
                · replace hv := y_br_t hv c85
                  exact b254 h _ _ _ hB (lv_sub hl [2] rfl) _ hv kt
            · replace hv := y_br_f hv c83
              refine lv_aload_n hx hb dX12_nightLine_230 rfl (lv_at hl 2 rfl) ?_
              refine lv_iconst (v := (3 : Int32)) hx hb dX12_nightLine_231 (by decide) ?_
              obtain ⟨⟨r110, h114⟩, c109, hv⟩ := y_bi_e hv
              refine z_thI hc hB (z_runV hc hB 11 (mm_X12_bad hSK l ad o0 (3 : Int32) h c109) md_X12_bad qmX12_182 g48 (by decide) rfl rfl rfl ⟨Nat.le_of_ble_eq_true rfl, Nat.le_of_ble_eq_true rfl⟩ rfl hl.1 rfl (Nat.le_of_ble_eq_true rfl) dX12_nightLine_232 ⟨Nat.le_of_ble_eq_true rfl, Nat.le_of_ble_eq_true rfl⟩) (fun H locs hB => ?_)
              obtain ⟨y115, hv⟩ := y_gd_e hv
              replace hv := Option.some.inj hv
              subst hv
              obtain ⟨e1, e2⟩ := y_pr kt
              rw [← e1, ← e2]
              exact z_zret hc hB hr (y_b_n y115) dX12_nightLine_235
          · replace hv := y_br_t hv c74
            refine lv_aload_n hx hb dX12_nightLine_208 rfl (lv_at hl 1 rfl) ?_
            refine lv_iconst (v := (1 : Int32)) hx hb dX12_nightLine_209 (by decide) ?_
            obtain ⟨⟨r117, h121⟩, c116, hv⟩ := y_bi_e hv
            refine z_thI hc hB (z_runV hc hB 11 (mm_X12_bad hSK l ad o0 (1 : Int32) h c116) md_X12_bad qmX12_182 g48 (by decide) rfl rfl rfl ⟨Nat.le_of_ble_eq_true rfl, Nat.le_of_ble_eq_true rfl⟩ rfl hl.1 rfl (Nat.le_of_ble_eq_true rfl) dX12_nightLine_210 ⟨Nat.le_of_ble_eq_true rfl, Nat.le_of_ble_eq_true rfl⟩) (fun H locs hB => ?_)
            obtain ⟨y122, hv⟩ := y_gd_e hv
            replace hv := Option.some.inj hv
            subst hv
            obtain ⟨e1, e2⟩ := y_pr kt
            rw [← e1, ← e2]
            exact z_zret hc hB hr (y_b_n y122) dX12_nightLine_213
        · replace hv := y_br_f hv c68
          exact b159 v49 h _ _ _ hB (lv_sub hl [1, 0] rfl) _ hv kt
    · replace hv := y_br_t hv c56
      refine lv_aload_n hx hb dX12_nightLine_133 rfl (lv_at hl 1 rfl) ?_
      refine lv_iconst (v := (1 : Int32)) hx hb dX12_nightLine_134 (by decide) ?_
      obtain ⟨⟨r124, h128⟩, c123, hv⟩ := y_bi_e hv
      refine z_thI hc hB (z_runV hc hB 11 (mm_X12_bad hSK l ad o0 (1 : Int32) h c123) md_X12_bad qmX12_182 g48 (by decide) rfl rfl rfl ⟨Nat.le_of_ble_eq_true rfl, Nat.le_of_ble_eq_true rfl⟩ rfl hl.1 rfl (Nat.le_of_ble_eq_true rfl) dX12_nightLine_135 ⟨Nat.le_of_ble_eq_true rfl, Nat.le_of_ble_eq_true rfl⟩) (fun H locs hB => ?_)
      obtain ⟨y129, hv⟩ := y_gd_e hv
      replace hv := Option.some.inj hv
      subst hv
      obtain ⟨e1, e2⟩ := y_pr kt
      rw [← e1, ← e2]
      exact z_zret hc hB hr (y_b_n y129) dX12_nightLine_138
  · replace hv := y_br_f hv c55
    refine lv_aload_n hx hb dX12_nightLine_17 rfl (lv_at hl 1 rfl) ?_
    refine z_getI hc hB 11 41 g48 (by decide) (by decide) rfl (z_l1 hc qfX12_384) dX12_nightLine_18 ?_
    refine lv_bipush (v := (40 : Int32)) hx hb dX12_nightLine_21 (by decide) ?_
    refine lv_icmp_ne (tgt := 32) hx hb dX12_nightLine_23 (by decide) (fun c130 => ?_) (fun c130 => ?_)
    · replace hv := y_br_f hv c130
      refine lv_aload_n hx hb dX12_nightLine_32 rfl (lv_at hl 1 rfl) ?_
      obtain ⟨h132, c131, hv⟩ := y_bi_e hv
      refine z_thV hc hB (z_runV hc hB 11 (mm_X12_go hSK l ad o0 h c131) md_X12_go qmX12_185 g48 (by decide) rfl rfl rfl ⟨Nat.le_of_ble_eq_true rfl, Nat.le_of_ble_eq_true rfl⟩ rfl hl.1 rfl (Nat.le_of_ble_eq_true rfl) dX12_nightLine_33 ⟨Nat.le_of_ble_eq_true rfl, Nat.le_of_ble_eq_true rfl⟩) (fun H locs hB => ?_)
      refine lv_aload_n hx hb dX12_nightLine_36 rfl (lv_at hl 1 rfl) ?_
      obtain ⟨g133, hv⟩ := y_gd_e hv
      obtain ⟨o134, eo134, hv⟩ := y_bi_e hv
      refine z_getR hc hB 11 8 g133 eo134 (by decide) (by decide) rfl (z_l1 hc qfX12_40) dX12_nightLine_37 ?_
      refine lv_iload_n hx hb dX12_nightLine_40 rfl (lv_at hl 0 rfl) ?_
      refine lv_iconst (v := (0 : Int32)) hx hb dX12_nightLine_41 (by decide) ?_
      obtain ⟨g135, hv⟩ := y_gd_e hv
      obtain ⟨i136, hv⟩ := y_gd_e hv
      obtain ⟨h137, eh137, hv⟩ := y_nm_e hv
      refine y_iast hc hB eh137 g135 i136 dX12_nightLine_42 (fun H locs hB => ?_)
      refine lv_aload_n hx hb dX12_nightLine_43 rfl (lv_at hl 1 rfl) ?_
      refine z_getR hc hB 11 8 (by rw [eh137]; exact g133) (by rw [eh137]; exact eo134) (by decide) (by decide) rfl (z_l1 hc qfX12_40) dX12_nightLine_44 ?_
      refine lv_iload_n hx hb dX12_nightLine_47 rfl (lv_at hl 0 rfl) ?_
      refine lv_iconst (v := (1 : Int32)) hx hb dX12_nightLine_48 (by decide) ?_
      refine lv_iadd hx hb dX12_nightLine_49 ?_
      refine lv_iconst (v := (0 : Int32)) hx hb dX12_nightLine_50 (by decide) ?_
      obtain ⟨i138, hv⟩ := y_gd_e hv
      obtain ⟨h139, eh139, hv⟩ := y_nm_e hv
      refine y_iast hc hB eh139 (by rw [eh137]; exact g135) i138 dX12_nightLine_51 (fun H locs hB => ?_)
      refine lv_aload_n hx hb dX12_nightLine_52 rfl (lv_at hl 1 rfl) ?_
      refine lv_iconst (v := (0 : Int32)) hx hb dX12_nightLine_53 (by decide) ?_
      obtain ⟨h140, eh140, hv⟩ := y_nm_e hv
      refine y_putI hc hB 11 42 eh140 (by rw [eh139, eh137]; exact g133) (z_l1 hc qfX12_387) dX12_nightLine_54 (by decide) (by decide) rfl rfl rfl rfl (fun H locs hB => ?_)
      refine lv_aload_n hx hb dX12_nightLine_57 rfl (lv_at hl 1 rfl) ?_
      refine lv_ldc2 (v := (1919905645 : Int64)) hx hb hown (hts _ qkX12_103) dX12_nightLine_58 ?_
      obtain ⟨r142, c141, hv⟩ := y_bi_e hv
      refine z_thI hc hB (z_runV hc hB 11 (mm_X12_isWord hSK l ad o0 (1919905645 : Int64) h140 c141) md_X12_isWord qmX12_203 (by rw [eh140, eh139, eh137]; exact g133) (by decide) rfl rfl rfl ⟨Nat.le_of_ble_eq_true rfl, Nat.le_of_ble_eq_true rfl⟩ rfl hl.1 rfl (Nat.le_of_ble_eq_true rfl) dX12_nightLine_61 ⟨Nat.le_of_ble_eq_true rfl, Nat.le_of_ble_eq_true rfl⟩) (fun H locs hB => ?_)
      refine lv_if_eq (tgt := 73) hx hb dX12_nightLine_64 (by decide) (fun c146 => ?_) (fun c146 => ?_)
      · replace hv := y_br_t hv c146
        refine lv_aload_n hx hb dX12_nightLine_73 rfl (lv_at hl 1 rfl) ?_
        obtain ⟨r148, c147, hv⟩ := y_bi_e hv
        refine z_thI hc hB (z_runV hc hB 11 (mm_X12_isName hSK l ad o0 h140 c147) md_X12_isName qmX12_195 (by rw [eh140, eh139, eh137]; exact g133) (by decide) rfl rfl rfl ⟨Nat.le_of_ble_eq_true rfl, Nat.le_of_ble_eq_true rfl⟩ rfl hl.1 rfl (Nat.le_of_ble_eq_true rfl) dX12_nightLine_74 ⟨Nat.le_of_ble_eq_true rfl, Nat.le_of_ble_eq_true rfl⟩) (fun H locs hB => ?_)
        refine lv_if_ne (tgt := 86) hx hb dX12_nightLine_77 (by decide) (fun c152 => ?_) (fun c152 => ?_)
        · replace hv := y_br_f hv c152
          refine lv_aload_n hx hb dX12_nightLine_86 rfl (lv_at hl 1 rfl) ?_
          refine lv_bipush (v := (8 : Int32)) hx hb dX12_nightLine_87 (by decide) ?_
          refine lv_aload_n hx hb dX12_nightLine_89 rfl (lv_at hl 1 rfl) ?_
          obtain ⟨o153, eo153, hv⟩ := y_bi_e hv
          refine z_getR hc hB 11 6 (by rw [eh140, eh139, eh137]; exact g133) eo153 (by decide) (by decide) rfl (z_l1 hc qfX12_33) dX12_nightLine_90 ?_
          refine lv_iconst (v := (1 : Int32)) hx hb dX12_nightLine_93 (by decide) ?_
          obtain ⟨g154, hv⟩ := y_gd_e hv
          obtain ⟨i155, hv⟩ := y_gd_e hv
          refine z_iald hc hB g154 i155 dX12_nightLine_94 ?_
          obtain ⟨r157, c156, hv⟩ := y_bi_e hv
          refine z_thI hc hB (z_runV hc hB 11 (mm_X12_find hSK l ad o0 (8 : Int32) (z_I h140 o153 (1 : Int32).toNatClampNeg) h140 c156) md_X12_find qmX12_199 (by rw [eh140, eh139, eh137]; exact g133) (by decide) rfl rfl rfl ⟨Nat.le_of_ble_eq_true rfl, Nat.le_of_ble_eq_true rfl⟩ rfl hl.1 rfl (Nat.le_of_ble_eq_true rfl) dX12_nightLine_95 ⟨Nat.le_of_ble_eq_true rfl, Nat.le_of_ble_eq_true rfl⟩) (fun H locs hB => ?_)
          refine lv_istore_n (lv' := [(2, .int r157), (1, .int v49), (0, .ref (ad o0))]) hx hb dX12_nightLine_98 rfl hl (by decide) rfl (fun ls hl => ?_)
          refine lv_iload_n hx hb dX12_nightLine_99 rfl (lv_at hl 0 rfl) ?_
          refine lv_if_ge (tgt := 109) hx hb dX12_nightLine_100 (by decide) (fun c161 => ?_) (fun c161 => ?_)
          · replace hv := y_br_t hv c161
            refine lv_aload_n hx hb dX12_nightLine_109 rfl (lv_at hl 2 rfl) ?_
            refine z_getR hc hB 11 8 (by rw [eh140, eh139, eh137]; exact g133) (by rw [eh140, eh139, eh137]; exact eo134) (by decide) (by decide) rfl (z_l1 hc qfX12_40) dX12_nightLine_110 ?_
            refine lv_iload_n hx hb dX12_nightLine_113 rfl (lv_at hl 1 rfl) ?_
            refine lv_iconst (v := (1 : Int32)) hx hb dX12_nightLine_114 (by decide) ?_
            refine lv_iadd hx hb dX12_nightLine_115 ?_
            refine lv_iload_n hx hb dX12_nightLine_116 rfl (lv_at hl 0 rfl) ?_
            refine lv_iconst (v := (1 : Int32)) hx hb dX12_nightLine_117 (by decide) ?_
            refine lv_iadd hx hb dX12_nightLine_118 ?_
            obtain ⟨i162, hv⟩ := y_gd_e hv
            obtain ⟨h163, eh163, hv⟩ := y_nm_e hv
            refine y_iast hc hB eh163 (by rw [eh140, eh139, eh137]; exact g135) i162 dX12_nightLine_119 (fun H locs hB => ?_)
            refine lv_aload_n hx hb dX12_nightLine_120 rfl (lv_at hl 2 rfl) ?_
            obtain ⟨h165, c164, hv⟩ := y_bi_e hv
            refine z_thV hc hB (z_runV hc hB 11 (mm_X12_go hSK l ad o0 h163 c164) md_X12_go qmX12_185 (by rw [eh163, eh140, eh139, eh137]; exact g133) (by decide) rfl rfl rfl ⟨Nat.le_of_ble_eq_true rfl, Nat.le_of_ble_eq_true rfl⟩ rfl hl.1 rfl (Nat.le_of_ble_eq_true rfl) dX12_nightLine_121 ⟨Nat.le_of_ble_eq_true rfl, Nat.le_of_ble_eq_true rfl⟩) (fun H locs hB => ?_)
            refine lv_iconst (v := (1 : Int32)) hx hb dX12_nightLine_124 (by decide) ?_
            replace hv := Option.some.inj hv
            subst hv
            obtain ⟨e1, e2⟩ := y_pr kt
            rw [← e1, ← e2]
            exact z_zret hc hB hr rfl dX12_nightLine_125
          · replace hv := y_br_f hv c161
            refine lv_aload_n hx hb dX12_nightLine_103 rfl (lv_at hl 2 rfl) ?_
            refine lv_iconst (v := (3 : Int32)) hx hb dX12_nightLine_104 (by decide) ?_
            obtain ⟨⟨r167, h171⟩, c166, hv⟩ := y_bi_e hv
            refine z_thI hc hB (z_runV hc hB 11 (mm_X12_bad hSK l ad o0 (3 : Int32) h140 c166) md_X12_bad qmX12_182 (by rw [eh140, eh139, eh137]; exact g133) (by decide) rfl rfl rfl ⟨Nat.le_of_ble_eq_true rfl, Nat.le_of_ble_eq_true rfl⟩ rfl hl.1 rfl (Nat.le_of_ble_eq_true rfl) dX12_nightLine_105 ⟨Nat.le_of_ble_eq_true rfl, Nat.le_of_ble_eq_true rfl⟩) (fun H locs hB => ?_)
            obtain ⟨y172, hv⟩ := y_gd_e hv
            replace hv := Option.some.inj hv
            subst hv
            obtain ⟨e1, e2⟩ := y_pr kt
            rw [← e1, ← e2]
            exact z_zret hc hB hr (y_b_n y172) dX12_nightLine_108
        · replace hv := y_br_t hv c152
          refine lv_aload_n hx hb dX12_nightLine_80 rfl (lv_at hl 1 rfl) ?_
          refine lv_iconst (v := (1 : Int32)) hx hb dX12_nightLine_81 (by decide) ?_
          obtain ⟨⟨r174, h178⟩, c173, hv⟩ := y_bi_e hv
          refine z_thI hc hB (z_runV hc hB 11 (mm_X12_bad hSK l ad o0 (1 : Int32) h140 c173) md_X12_bad qmX12_182 (by rw [eh140, eh139, eh137]; exact g133) (by decide) rfl rfl rfl ⟨Nat.le_of_ble_eq_true rfl, Nat.le_of_ble_eq_true rfl⟩ rfl hl.1 rfl (Nat.le_of_ble_eq_true rfl) dX12_nightLine_82 ⟨Nat.le_of_ble_eq_true rfl, Nat.le_of_ble_eq_true rfl⟩) (fun H locs hB => ?_)
          obtain ⟨y179, hv⟩ := y_gd_e hv
          replace hv := Option.some.inj hv
          subst hv
          obtain ⟨e1, e2⟩ := y_pr kt
          rw [← e1, ← e2]
          exact z_zret hc hB hr (y_b_n y179) dX12_nightLine_85
      · replace hv := y_br_f hv c146
        refine lv_aload_n hx hb dX12_nightLine_67 rfl (lv_at hl 1 rfl) ?_
        obtain ⟨h181, c180, hv⟩ := y_bi_e hv
        refine z_thV hc hB (z_runV hc hB 11 (mm_X12_go hSK l ad o0 h140 c180) md_X12_go qmX12_185 (by rw [eh140, eh139, eh137]; exact g133) (by decide) rfl rfl rfl ⟨Nat.le_of_ble_eq_true rfl, Nat.le_of_ble_eq_true rfl⟩ rfl hl.1 rfl (Nat.le_of_ble_eq_true rfl) dX12_nightLine_68 ⟨Nat.le_of_ble_eq_true rfl, Nat.le_of_ble_eq_true rfl⟩) (fun H locs hB => ?_)
        refine lv_iconst (v := (1 : Int32)) hx hb dX12_nightLine_71 (by decide) ?_
        replace hv := Option.some.inj hv
        subst hv
        obtain ⟨e1, e2⟩ := y_pr kt
        rw [← e1, ← e2]
        exact z_zret hc hB hr rfl dX12_nightLine_72
    · replace hv := y_br_t hv c130
      refine lv_aload_n hx hb dX12_nightLine_26 rfl (lv_at hl 1 rfl) ?_
      refine lv_iconst (v := (4 : Int32)) hx hb dX12_nightLine_27 (by decide) ?_
      obtain ⟨⟨r183, h187⟩, c182, hv⟩ := y_bi_e hv
      refine z_thI hc hB (z_runV hc hB 11 (mm_X12_bad hSK l ad o0 (4 : Int32) h c182) md_X12_bad qmX12_182 g48 (by decide) rfl rfl rfl ⟨Nat.le_of_ble_eq_true rfl, Nat.le_of_ble_eq_true rfl⟩ rfl hl.1 rfl (Nat.le_of_ble_eq_true rfl) dX12_nightLine_28 ⟨Nat.le_of_ble_eq_true rfl, Nat.le_of_ble_eq_true rfl⟩) (fun H locs hB => ?_)
      obtain ⟨y188, hv⟩ := y_gd_e hv
      replace hv := Option.some.inj hv
      subst hv
      obtain ⟨e1, e2⟩ := y_pr kt
      rw [← e1, ← e2]
      exact z_zret hc hB hr (y_b_n y188) dX12_nightLine_31
theorem qfX12_80 : Cond.fieldLink RX12 80 "DreamTestsModel" "judgedAt" "[I" ∈ z_ws := List.mem_filter.mpr ⟨List.mem_append_right _ (List.mem_of_getElem? (i := 1343) (by decide +kernel)), rfl⟩
theorem qmX12_393 : Cond.methodLink RX12 393 yX12_adds ∈ z_ws := List.mem_filter.mpr ⟨List.mem_append_right _ (List.mem_of_getElem? (i := 1822) (by decide +kernel)), rfl⟩
theorem qc_X12_adds : Cond.code yX12_adds cX12_adds 2 none ∈ z_ws := List.mem_filter.mpr ⟨List.mem_append_right _ (List.mem_of_getElem? (i := 1825) (by decide +kernel)), rfl⟩
theorem qi_X12_adds : Cond.instanceMethod yX12_adds ∈ z_ws := List.mem_filter.mpr ⟨List.mem_append_right _ (List.mem_of_getElem? (i := 1824) (by decide +kernel)), rfl⟩
theorem qs_X12_adds : Cond.selects RX12 yX12_adds yX12_adds ∈ z_ws := List.mem_filter.mpr ⟨List.mem_append_left _ (List.mem_of_getElem? (i := 80) (by decide +kernel)), rfl⟩
theorem md_X12_adds : z_mdV yX12_adds cX12_adds 2 none 1 := ⟨⟨qn_RX12, qc_X12_adds, ⟨by decide +kernel, by decide +kernel, by decide +kernel⟩⟩, qi_X12_adds, qs_X12_adds⟩
theorem qfX12_390 : Cond.fieldLink RX12 390 "DreamTestsModel" "place" "I" ∈ z_ws := List.mem_filter.mpr ⟨List.mem_append_right _ (List.mem_of_getElem? (i := 1345) (by decide +kernel)), rfl⟩
theorem dX12_wrongIn_0 : decode cX12_wrongIn 0 = .ok (.iload_n 1, 1) := by decide +kernel
theorem dX12_wrongIn_1 : decode cX12_wrongIn 1 = .ok (.ifCond .ne 28, 3) := by decide +kernel
theorem dX12_wrongIn_4 : decode cX12_wrongIn 4 = .ok (.aload_n 0, 1) := by decide +kernel
theorem dX12_wrongIn_5 : decode cX12_wrongIn 5 = .ok (.iload_n 2, 1) := by decide +kernel
theorem dX12_wrongIn_6 : decode cX12_wrongIn 6 = .ok (.putfield 390, 3) := by decide +kernel
theorem dX12_wrongIn_9 : decode cX12_wrongIn 9 = .ok (.aload_n 0, 1) := by decide +kernel
theorem dX12_wrongIn_10 : decode cX12_wrongIn 10 = .ok (.getfield 33, 3) := by decide +kernel
theorem dX12_wrongIn_13 : decode cX12_wrongIn 13 = .ok (.bipush 36, 2) := by decide +kernel
theorem dX12_wrongIn_15 : decode cX12_wrongIn 15 = .ok (.iconst 0, 1) := by decide +kernel
theorem dX12_wrongIn_16 : decode cX12_wrongIn 16 = .ok (.iastore, 1) := by decide +kernel
theorem dX12_wrongIn_17 : decode cX12_wrongIn 17 = .ok (.aload_n 0, 1) := by decide +kernel
theorem dX12_wrongIn_18 : decode cX12_wrongIn 18 = .ok (.getfield 80, 3) := by decide +kernel
theorem dX12_wrongIn_21 : decode cX12_wrongIn 21 = .ok (.iconst 1, 1) := by decide +kernel
theorem dX12_wrongIn_22 : decode cX12_wrongIn 22 = .ok (.dup2, 1) := by decide +kernel
theorem dX12_wrongIn_23 : decode cX12_wrongIn 23 = .ok (.iaload, 1) := by decide +kernel
theorem dX12_wrongIn_24 : decode cX12_wrongIn 24 = .ok (.iconst 1, 1) := by decide +kernel
theorem dX12_wrongIn_25 : decode cX12_wrongIn 25 = .ok (.iadd, 1) := by decide +kernel
theorem dX12_wrongIn_26 : decode cX12_wrongIn 26 = .ok (.iastore, 1) := by decide +kernel
theorem dX12_wrongIn_27 : decode cX12_wrongIn 27 = .ok (.iconst 0, 1) := by decide +kernel
theorem dX12_wrongIn_28 : decode cX12_wrongIn 28 = .ok (.ireturn, 1) := by decide +kernel
theorem dX12_wrongIn_29 : decode cX12_wrongIn 29 = .ok (.iload_n 1, 1) := by decide +kernel
theorem dX12_wrongIn_30 : decode cX12_wrongIn 30 = .ok (.iconst 1, 1) := by decide +kernel
theorem dX12_wrongIn_31 : decode cX12_wrongIn 31 = .ok (.if_icmp .le 26, 3) := by decide +kernel
theorem dX12_wrongIn_34 : decode cX12_wrongIn 34 = .ok (.aload_n 0, 1) := by decide +kernel
theorem dX12_wrongIn_35 : decode cX12_wrongIn 35 = .ok (.invokevirtual 286, 3) := by decide +kernel
theorem dX12_wrongIn_38 : decode cX12_wrongIn 38 = .ok (.iload_n 1, 1) := by decide +kernel
theorem dX12_wrongIn_39 : decode cX12_wrongIn 39 = .ok (.iconst 2, 1) := by decide +kernel
theorem dX12_wrongIn_40 : decode cX12_wrongIn 40 = .ok (.if_icmp .ne 7, 3) := by decide +kernel
theorem dX12_wrongIn_43 : decode cX12_wrongIn 43 = .ok (.iconst 1, 1) := by decide +kernel
theorem dX12_wrongIn_44 : decode cX12_wrongIn 44 = .ok (.goto 4, 3) := by decide +kernel
theorem dX12_wrongIn_47 : decode cX12_wrongIn 47 = .ok (.iconst 0, 1) := by decide +kernel
theorem dX12_wrongIn_48 : decode cX12_wrongIn 48 = .ok (.if_icmp .ne 7, 3) := by decide +kernel
theorem dX12_wrongIn_51 : decode cX12_wrongIn 51 = .ok (.iconst 0, 1) := by decide +kernel
theorem dX12_wrongIn_52 : decode cX12_wrongIn 52 = .ok (.goto 4, 3) := by decide +kernel
theorem dX12_wrongIn_55 : decode cX12_wrongIn 55 = .ok (.iconst 3, 1) := by decide +kernel
theorem dX12_wrongIn_56 : decode cX12_wrongIn 56 = .ok (.ireturn, 1) := by decide +kernel
theorem dX12_wrongIn_57 : decode cX12_wrongIn 57 = .ok (.aload_n 0, 1) := by decide +kernel
theorem dX12_wrongIn_58 : decode cX12_wrongIn 58 = .ok (.aload_n 0, 1) := by decide +kernel
theorem dX12_wrongIn_59 : decode cX12_wrongIn 59 = .ok (.getfield 390, 3) := by decide +kernel
theorem dX12_wrongIn_62 : decode cX12_wrongIn 62 = .ok (.iload_n 2, 1) := by decide +kernel
theorem dX12_wrongIn_63 : decode cX12_wrongIn 63 = .ok (.iconst 2, 1) := by decide +kernel
theorem dX12_wrongIn_64 : decode cX12_wrongIn 64 = .ok (.idiv, 1) := by decide +kernel
theorem dX12_wrongIn_65 : decode cX12_wrongIn 65 = .ok (.aload_n 0, 1) := by decide +kernel
theorem dX12_wrongIn_66 : decode cX12_wrongIn 66 = .ok (.getfield 33, 3) := by decide +kernel
theorem dX12_wrongIn_69 : decode cX12_wrongIn 69 = .ok (.bipush 36, 2) := by decide +kernel
theorem dX12_wrongIn_71 : decode cX12_wrongIn 71 = .ok (.iaload, 1) := by decide +kernel
theorem dX12_wrongIn_72 : decode cX12_wrongIn 72 = .ok (.invokevirtual 260, 3) := by decide +kernel
theorem dX12_wrongIn_75 : decode cX12_wrongIn 75 = .ok (.istore_n 3, 1) := by decide +kernel
theorem dX12_wrongIn_76 : decode cX12_wrongIn 76 = .ok (.iload_n 2, 1) := by decide +kernel
theorem dX12_wrongIn_77 : decode cX12_wrongIn 77 = .ok (.iconst 2, 1) := by decide +kernel
theorem dX12_wrongIn_78 : decode cX12_wrongIn 78 = .ok (.irem, 1) := by decide +kernel
theorem dX12_wrongIn_79 : decode cX12_wrongIn 79 = .ok (.iconst 1, 1) := by decide +kernel
theorem dX12_wrongIn_80 : decode cX12_wrongIn 80 = .ok (.if_icmp .ne 7, 3) := by decide +kernel
theorem dX12_wrongIn_83 : decode cX12_wrongIn 83 = .ok (.iload_n 3, 1) := by decide +kernel
theorem dX12_wrongIn_84 : decode cX12_wrongIn 84 = .ok (.goto 7, 3) := by decide +kernel
theorem dX12_wrongIn_87 : decode cX12_wrongIn 87 = .ok (.bipush 9, 2) := by decide +kernel
theorem dX12_wrongIn_89 : decode cX12_wrongIn 89 = .ok (.iload_n 3, 1) := by decide +kernel
theorem dX12_wrongIn_90 : decode cX12_wrongIn 90 = .ok (.isub, 1) := by decide +kernel
theorem dX12_wrongIn_91 : decode cX12_wrongIn 91 = .ok (.ifCond .ne 5, 3) := by decide +kernel
theorem dX12_wrongIn_94 : decode cX12_wrongIn 94 = .ok (.iconst 1, 1) := by decide +kernel
theorem dX12_wrongIn_95 : decode cX12_wrongIn 95 = .ok (.ireturn, 1) := by decide +kernel
theorem dX12_wrongIn_96 : decode cX12_wrongIn 96 = .ok (.aload_n 0, 1) := by decide +kernel
theorem dX12_wrongIn_97 : decode cX12_wrongIn 97 = .ok (.iload_n 2, 1) := by decide +kernel
theorem dX12_wrongIn_98 : decode cX12_wrongIn 98 = .ok (.invokevirtual 393, 3) := by decide +kernel
theorem dX12_wrongIn_101 : decode cX12_wrongIn 101 = .ok (.aload_n 0, 1) := by decide +kernel
theorem dX12_wrongIn_102 : decode cX12_wrongIn 102 = .ok (.aload_n 0, 1) := by decide +kernel
theorem dX12_wrongIn_103 : decode cX12_wrongIn 103 = .ok (.getfield 33, 3) := by decide +kernel
theorem dX12_wrongIn_106 : decode cX12_wrongIn 106 = .ok (.bipush 36, 2) := by decide +kernel
theorem dX12_wrongIn_108 : decode cX12_wrongIn 108 = .ok (.iaload, 1) := by decide +kernel
theorem dX12_wrongIn_109 : decode cX12_wrongIn 109 = .ok (.invokevirtual 264, 3) := by decide +kernel
theorem dX12_wrongIn_112 : decode cX12_wrongIn 112 = .ok (.lstore 4, 2) := by decide +kernel
theorem dX12_wrongIn_114 : decode cX12_wrongIn 114 = .ok (.aload_n 0, 1) := by decide +kernel
theorem dX12_wrongIn_115 : decode cX12_wrongIn 115 = .ok (.getfield 390, 3) := by decide +kernel
theorem dX12_wrongIn_118 : decode cX12_wrongIn 118 = .ok (.ifCond .ne 15, 3) := by decide +kernel
theorem dX12_wrongIn_121 : decode cX12_wrongIn 121 = .ok (.lload 4, 2) := by decide +kernel
theorem dX12_wrongIn_123 : decode cX12_wrongIn 123 = .ok (.aload_n 0, 1) := by decide +kernel
theorem dX12_wrongIn_124 : decode cX12_wrongIn 124 = .ok (.getfield 50, 3) := by decide +kernel
theorem dX12_wrongIn_127 : decode cX12_wrongIn 127 = .ok (.iconst 0, 1) := by decide +kernel
theorem dX12_wrongIn_128 : decode cX12_wrongIn 128 = .ok (.laload, 1) := by decide +kernel
theorem dX12_wrongIn_129 : decode cX12_wrongIn 129 = .ok (.lsub, 1) := by decide +kernel
theorem dX12_wrongIn_130 : decode cX12_wrongIn 130 = .ok (.goto 9, 3) := by decide +kernel
theorem dX12_wrongIn_133 : decode cX12_wrongIn 133 = .ok (.aload_n 0, 1) := by decide +kernel
theorem dX12_wrongIn_134 : decode cX12_wrongIn 134 = .ok (.getfield 50, 3) := by decide +kernel
theorem dX12_wrongIn_137 : decode cX12_wrongIn 137 = .ok (.iconst 0, 1) := by decide +kernel
theorem dX12_wrongIn_138 : decode cX12_wrongIn 138 = .ok (.laload, 1) := by decide +kernel
theorem dX12_wrongIn_139 : decode cX12_wrongIn 139 = .ok (.lstore 6, 2) := by decide +kernel
theorem dX12_wrongIn_141 : decode cX12_wrongIn 141 = .ok (.ldc2_w 379, 3) := by decide +kernel
theorem dX12_wrongIn_144 : decode cX12_wrongIn 144 = .ok (.lload 6, 2) := by decide +kernel
theorem dX12_wrongIn_146 : decode cX12_wrongIn 146 = .ok (.lmul, 1) := by decide +kernel
theorem dX12_wrongIn_147 : decode cX12_wrongIn 147 = .ok (.aload_n 0, 1) := by decide +kernel
theorem dX12_wrongIn_148 : decode cX12_wrongIn 148 = .ok (.getfield 33, 3) := by decide +kernel
theorem dX12_wrongIn_151 : decode cX12_wrongIn 151 = .ok (.iconst 4, 1) := by decide +kernel
theorem dX12_wrongIn_152 : decode cX12_wrongIn 152 = .ok (.iaload, 1) := by decide +kernel
theorem dX12_wrongIn_153 : decode cX12_wrongIn 153 = .ok (.i2l, 1) := by decide +kernel
theorem dX12_wrongIn_154 : decode cX12_wrongIn 154 = .ok (.lload 4, 2) := by decide +kernel
theorem dX12_wrongIn_156 : decode cX12_wrongIn 156 = .ok (.lmul, 1) := by decide +kernel
theorem dX12_wrongIn_157 : decode cX12_wrongIn 157 = .ok (.lcmp, 1) := by decide +kernel
theorem dX12_wrongIn_158 : decode cX12_wrongIn 158 = .ok (.ifCond .lt 5, 3) := by decide +kernel
theorem dX12_wrongIn_161 : decode cX12_wrongIn 161 = .ok (.iconst 2, 1) := by decide +kernel
theorem dX12_wrongIn_162 : decode cX12_wrongIn 162 = .ok (.ireturn, 1) := by decide +kernel
theorem dX12_wrongIn_163 : decode cX12_wrongIn 163 = .ok (.aload_n 0, 1) := by decide +kernel
theorem dX12_wrongIn_164 : decode cX12_wrongIn 164 = .ok (.getfield 80, 3) := by decide +kernel
theorem dX12_wrongIn_167 : decode cX12_wrongIn 167 = .ok (.iconst 2, 1) := by decide +kernel
theorem dX12_wrongIn_168 : decode cX12_wrongIn 168 = .ok (.dup2, 1) := by decide +kernel
theorem dX12_wrongIn_169 : decode cX12_wrongIn 169 = .ok (.iaload, 1) := by decide +kernel
theorem dX12_wrongIn_170 : decode cX12_wrongIn 170 = .ok (.iconst 1, 1) := by decide +kernel
theorem dX12_wrongIn_171 : decode cX12_wrongIn 171 = .ok (.iadd, 1) := by decide +kernel
theorem dX12_wrongIn_172 : decode cX12_wrongIn 172 = .ok (.iastore, 1) := by decide +kernel
theorem dX12_wrongIn_173 : decode cX12_wrongIn 173 = .ok (.iconst 0, 1) := by decide +kernel
theorem dX12_wrongIn_174 : decode cX12_wrongIn 174 = .ok (.ireturn, 1) := by decide +kernel
abbrev rm_X12_wrongIn : Room := { frames := 5, cells := 0, slots := 0, locals := 114 }
noncomputable def fX12_wrongIn_b48 (s0 : Int32) (s1 : Int32) (h : z_T) : Option (Int32 × z_T) :=
  y_br (s0 = s1)
    (some ((0 : Int32), h))
    (some ((3 : Int32), h))
noncomputable def fX12_wrongIn_b139 (o0 : Nat) (l4 : Int64) (s0 : Int64) (h : z_T) : Option (Int32 × z_T) :=
  y_gd (z_ok h o0 11) <|
  y_bi (z_R h o0 6) fun o3 =>
  y_gd (z_ok h o3 13) <|
  y_gd (z_ix (4 : Int32) (z_N h o3)) <|
  y_br ((lg_cmp ((9 : Int64) * s0) (((z_I h o3 (4 : Int32).toNatClampNeg)).toInt64 * l4)) < 0)
    (y_bi (z_R h o0 43) fun o7 =>
    y_gd (z_ok h o7 13) <|
    y_gd (z_ix (2 : Int32) (z_N h o7)) <|
    y_gd (z_ix (2 : Int32) (z_N h o7)) <|
    y_nm (z_sI h o7 (2 : Int32).toNatClampNeg ((z_I h o7 (2 : Int32).toNatClampNeg) + (1 : Int32))) fun h11 =>
    some ((0 : Int32), h11))
    (some ((2 : Int32), h))
noncomputable def fX12_wrongIn_b91 (o0 : Nat) (x2 : Int32) (s0 : Int32) (h : z_T) : Option (Int32 × z_T) :=
  y_br (s0 = 0)
    (some ((1 : Int32), h))
    (y_gd (z_ok h o0 11) <|
    y_bi (fX12_adds o0 x2 h) fun h14 =>
    y_gd (z_ok h14 o0 11) <|
    y_bi (z_R h14 o0 6) fun o17 =>
    y_gd (z_ok h14 o17 13) <|
    y_gd (z_ix (36 : Int32) (z_N h14 o17)) <|
    y_bi (fX12_likes o0 (z_I h14 o17 (36 : Int32).toNatClampNeg) h14) fun ⟨r22, h25⟩ =>
    y_gd (z_ok h25 o0 11) <|
    y_br ((z_I h25 o0 45) = 0)
      (y_bi (z_R h25 o0 21) fun o31 =>
      y_gd (z_ok h25 o31 14) <|
      y_gd (z_ix (0 : Int32) (z_N h25 o31)) <|
      fX12_wrongIn_b139 o0 r22 (r22 - (z_L h25 o31 (0 : Int32).toNatClampNeg)) h25)
      (y_bi (z_R h25 o0 21) fun o28 =>
      y_gd (z_ok h25 o28 14) <|
      y_gd (z_ix (0 : Int32) (z_N h25 o28)) <|
      fX12_wrongIn_b139 o0 r22 (z_L h25 o28 (0 : Int32).toNatClampNeg) h25))
noncomputable def fX12_wrongIn (o0 : Nat) (x1 : Int32) (x2 : Int32) (h : z_T) : Option (Int32 × z_T) :=
  y_br (x1 = 0)
    (y_gd (z_ok h o0 11) <|
    y_nm (z_sI h o0 45 x2) fun h57 =>
    y_bi (z_R h57 o0 6) fun o58 =>
    y_gd (z_ok h57 o58 13) <|
    y_gd (z_ix (36 : Int32) (z_N h57 o58)) <|
    y_nm (z_sI h57 o58 (36 : Int32).toNatClampNeg (0 : Int32)) fun h61 =>
    y_bi (z_R h61 o0 43) fun o62 =>
    y_gd (z_ok h61 o62 13) <|
    y_gd (z_ix (1 : Int32) (z_N h61 o62)) <|
    y_gd (z_ix (1 : Int32) (z_N h61 o62)) <|
    y_nm (z_sI h61 o62 (1 : Int32).toNatClampNeg ((z_I h61 o62 (1 : Int32).toNatClampNeg) + (1 : Int32))) fun h66 =>
    some ((0 : Int32), h66))
    (y_br (x1 ≤ (1 : Int32))
      (y_gd (z_ok h o0 11) <|
      y_gd (!decide ((2 : Int32) = 0)) <|
      y_bi (z_R h o0 6) fun o38 =>
      y_gd (z_ok h o38 13) <|
      y_gd (z_ix (36 : Int32) (z_N h o38)) <|
      y_bi (fX12_oddsOf o0 (z_I h o0 45) (x2 / (2 : Int32)) (z_I h o38 (36 : Int32).toNatClampNeg) h) fun r42 =>
      y_gd (!decide ((2 : Int32) = 0)) <|
      y_br ((x2 - x2 / (2 : Int32) * (2 : Int32)) = (1 : Int32))
        (fX12_wrongIn_b91 o0 x2 r42 h)
        (fX12_wrongIn_b91 o0 x2 ((9 : Int32) - r42) h))
      (y_gd (z_ok h o0 11) <|
      y_bi (fX12_isUp o0 h) fun ⟨r49, h53⟩ =>
      y_br (x1 = (2 : Int32))
        (fX12_wrongIn_b48 r49 (1 : Int32) h53)
        (fX12_wrongIn_b48 r49 (0 : Int32) h53)))
set_option maxHeartbeats 4000000 in
set_option maxRecDepth 100000 in
theorem mm_X12_wrongIn {G : z_Gt} {S : State → Prop} (hSK : z_SK S) (l : Launch) (ad : Nat → Nat) (o0 : Nat) (x1 : Int32) (x2 : Int32) (h : z_T) {r0 : Int32} {h9 : z_T} (hv : fX12_wrongIn o0 x1 x2 h = some (r0, h9)) : z_Mi G S l yX12_wrongIn cX12_wrongIn 8 (.int) rm_X12_wrongIn 0 0 [.ref (ad o0), .int x1, .int x2] ad h h9 r0 := by
  refine z_ofW hSK (by decide) (Nat.le_of_ble_eq_true rfl) ?_
  intro p e s m args below meth c ls hc hr hnm hB hl
  have hx := hc.1.1
  have hb := hc.1.2.1
  have hown := hc.1.2.2.2.1
  have hts := hc.1.2.2.2.2
  replace hc : z_C G S ad (z_n h) p m c cX12_wrongIn 8 s args RX12 meth := hc
  replace hown : s.vm.findClass RX12 = some m.cls := hown
  replace hl : lv_has ls 8 [(0, .ref (ad o0)), (1, .int x1), (2, .int x2)] := hl
  show W p l e rm_X12_wrongIn s m args below meth c s.heap [] 0 0 (MQ below (z_Qi G ad h9 (z_n h) s.heap.size r0) args s 0 0 (z_A ad (z_n h) s.heap.size)) (F0 m 0 ls [])
  obtain ⟨rs, kt⟩ : ∃ rs : Int32 × z_T, rs = (r0, h9) := ⟨_, rfl⟩
  generalize hn0 : z_n h = n0 at hc hB ⊢
  have b48 : ∀ (s0 : Int32) (s1 : Int32) (h : z_T) (H : Heap) (locs : List Loc) (ls : Array Slot), z_B G ad n0 s h H locs → lv_has ls 8 [] → ∀ w, fX12_wrongIn_b48 s0 s1 h = some w → w = (r0, h9) → W p l e rm_X12_wrongIn s m args below meth c H locs 0 0 (MQ below (z_Qi G ad h9 n0 s.heap.size r0) args s 0 0 (z_A ad n0 s.heap.size)) (F0 m 48 ls [.int s1, .int s0]) := by
    intro s0 s1 h H locs ls hB hl w hv kb
    refine lv_icmp_ne (tgt := 55) hx hb dX12_wrongIn_48 (by decide) (fun c1 => ?_) (fun c1 => ?_)
    · replace hv := y_br_f hv c1
      refine lv_iconst (v := (3 : Int32)) hx hb dX12_wrongIn_55 (by decide) ?_
      replace hv := Option.some.inj hv
      subst hv
      obtain ⟨e1, e2⟩ := y_pr kb
      rw [← e1, ← e2]
      exact z_iret hc hB hr dX12_wrongIn_56
    · replace hv := y_br_t hv c1
      refine lv_iconst (v := (0 : Int32)) hx hb dX12_wrongIn_51 (by decide) ?_
      refine lv_goto (tgt := 56) hx hb dX12_wrongIn_52 (by decide) ?_
      replace hv := Option.some.inj hv
      subst hv
      obtain ⟨e1, e2⟩ := y_pr kb
      rw [← e1, ← e2]
      exact z_iret hc hB hr dX12_wrongIn_56
  have b139 : ∀ (l4 : Int64) (s0 : Int64) (h : z_T) (H : Heap) (locs : List Loc) (ls : Array Slot), z_B G ad n0 s h H locs → lv_has ls 8 [(0, .ref (ad o0)), (4, .long l4)] → ∀ w, fX12_wrongIn_b139 o0 l4 s0 h = some w → w = (r0, h9) → W p l e rm_X12_wrongIn s m args below meth c H locs 0 0 (MQ below (z_Qi G ad h9 n0 s.heap.size r0) args s 0 0 (z_A ad n0 s.heap.size)) (F0 m 139 ls [.long s0]) := by
    intro l4 s0 h H locs ls hB hl w hv kb
    refine lv_lstore (lv' := [(6, .long s0), (0, .ref (ad o0)), (4, .long l4)]) hx hb dX12_wrongIn_139 hl (by decide) rfl (fun ls hl => ?_)
    refine lv_ldc2 (v := (9 : Int64)) hx hb hown (hts _ qkX12_379) dX12_wrongIn_141 ?_
    refine lv_lload hx hb dX12_wrongIn_144 (lv_at hl 0 rfl) ?_
    refine lv_lmul hx hb dX12_wrongIn_146 ?_
    refine lv_aload_n hx hb dX12_wrongIn_147 rfl (lv_at hl 1 rfl) ?_
    obtain ⟨g2, hv⟩ := y_gd_e hv
    obtain ⟨o3, eo3, hv⟩ := y_bi_e hv
    refine z_getR hc hB 11 6 g2 eo3 (by decide) (by decide) rfl (z_l1 hc qfX12_33) dX12_wrongIn_148 ?_
    refine lv_iconst (v := (4 : Int32)) hx hb dX12_wrongIn_151 (by decide) ?_
    obtain ⟨g4, hv⟩ := y_gd_e hv
    obtain ⟨i5, hv⟩ := y_gd_e hv
    refine z_iald hc hB g4 i5 dX12_wrongIn_152 ?_
    refine lv_i2l hx hb dX12_wrongIn_153 rfl ?_
    refine lv_lload hx hb dX12_wrongIn_154 (lv_at hl 2 rfl) ?_
    refine lv_lmul hx hb dX12_wrongIn_156 ?_
    refine W.lcmp hx hb dX12_wrongIn_157 ?_
    refine lv_if_lt (tgt := 163) hx hb dX12_wrongIn_158 (by decide) (fun c6 => ?_) (fun c6 => ?_)
    · replace hv := y_br_t hv c6
      refine lv_aload_n hx hb dX12_wrongIn_163 rfl (lv_at hl 1 rfl) ?_
      obtain ⟨o7, eo7, hv⟩ := y_bi_e hv
      refine z_getR hc hB 11 43 g2 eo7 (by decide) (by decide) rfl (z_l1 hc qfX12_80) dX12_wrongIn_164 ?_
      refine lv_iconst (v := (2 : Int32)) hx hb dX12_wrongIn_167 (by decide) ?_
      refine lv_dup2_11 hx hb dX12_wrongIn_168 rfl rfl ?_
      obtain ⟨g8, hv⟩ := y_gd_e hv
      obtain ⟨i9, hv⟩ := y_gd_e hv
      refine z_iald hc hB g8 i9 dX12_wrongIn_169 ?_
      refine lv_iconst (v := (1 : Int32)) hx hb dX12_wrongIn_170 (by decide) ?_
      refine lv_iadd hx hb dX12_wrongIn_171 ?_
      obtain ⟨i10, hv⟩ := y_gd_e hv
      obtain ⟨h11, eh11, hv⟩ := y_nm_e hv
      refine y_iast hc hB eh11 g8 i10 dX12_wrongIn_172 (fun H locs hB => ?_)
      refine lv_iconst (v := (0 : Int32)) hx hb dX12_wrongIn_173 (by decide) ?_
      replace hv := Option.some.inj hv
      subst hv
      obtain ⟨e1, e2⟩ := y_pr kb
      rw [← e1, ← e2]
      exact z_iret hc hB hr dX12_wrongIn_174
    · replace hv := y_br_f hv c6
      refine lv_iconst (v := (2 : Int32)) hx hb dX12_wrongIn_161 (by decide) ?_
      replace hv := Option.some.inj hv
      subst hv
      obtain ⟨e1, e2⟩ := y_pr kb
      rw [← e1, ← e2]
      exact z_iret hc hB hr dX12_wrongIn_162
  have b91 : ∀ (s0 : Int32) (h : z_T) (H : Heap) (locs : List Loc) (ls : Array Slot), z_B G ad n0 s h H locs → lv_has ls 8 [(0, .ref (ad o0)), (2, .int x2)] → ∀ w, fX12_wrongIn_b91 o0 x2 s0 h = some w → w = (r0, h9) → W p l e rm_X12_wrongIn s m args below meth c H locs 0 0 (MQ below (z_Qi G ad h9 n0 s.heap.size r0) args s 0 0 (z_A ad n0 s.heap.size)) (F0 m 91 ls [.int s0]) := by
    intro s0 h H locs ls hB hl w hv kb
    refine lv_if_ne (tgt := 96) hx hb dX12_wrongIn_91 (by decide) (fun c12 => ?_) (fun c12 => ?_)
    · replace hv := y_br_f hv c12
      refine lv_aload_n hx hb dX12_wrongIn_96 rfl (lv_at hl 0 rfl) ?_
      refine lv_iload_n hx hb dX12_wrongIn_97 rfl (lv_at hl 1 rfl) ?_
      obtain ⟨g15, hv⟩ := y_gd_e hv
      obtain ⟨h14, c13, hv⟩ := y_bi_e hv
      refine z_thV hc hB (z_runV hc hB 11 (mm_X12_adds hSK l ad o0 x2 h c13) md_X12_adds qmX12_393 g15 (by decide) rfl rfl rfl ⟨Nat.le_of_ble_eq_true rfl, Nat.le_of_ble_eq_true rfl⟩ rfl hl.1 rfl (Nat.le_of_ble_eq_true rfl) dX12_wrongIn_98 ⟨Nat.le_of_ble_eq_true rfl, Nat.le_of_ble_eq_true rfl⟩) (fun H locs hB => ?_)
      refine lv_aload_n hx hb dX12_wrongIn_101 rfl (lv_at hl 0 rfl) ?_
      refine lv_aload_n hx hb dX12_wrongIn_102 rfl (lv_at hl 0 rfl) ?_
      obtain ⟨g16, hv⟩ := y_gd_e hv
      obtain ⟨o17, eo17, hv⟩ := y_bi_e hv
      refine z_getR hc hB 11 6 g16 eo17 (by decide) (by decide) rfl (z_l1 hc qfX12_33) dX12_wrongIn_103 ?_
      refine lv_bipush (v := (36 : Int32)) hx hb dX12_wrongIn_106 (by decide) ?_
      obtain ⟨g18, hv⟩ := y_gd_e hv
      obtain ⟨i19, hv⟩ := y_gd_e hv
      refine z_iald hc hB g18 i19 dX12_wrongIn_108 ?_
      obtain ⟨⟨r22, h25⟩, c20, hv⟩ := y_bi_e hv
      refine z_thL hc hB (z_runV hc hB 11 (mm_X12_likes hSK l ad o0 (z_I h14 o17 (36 : Int32).toNatClampNeg) h14 c20) md_X12_likes qmX12_264 g16 (by decide) rfl rfl rfl ⟨Nat.le_of_ble_eq_true rfl, Nat.le_of_ble_eq_true rfl⟩ rfl hl.1 rfl (Nat.le_of_ble_eq_true rfl) dX12_wrongIn_109 ⟨Nat.le_of_ble_eq_true rfl, Nat.le_of_ble_eq_true rfl⟩) (fun H locs hB => ?_)
      refine lv_lstore (lv' := [(4, .long r22), (0, .ref (ad o0)), (2, .int x2)]) hx hb dX12_wrongIn_112 hl (by decide) rfl (fun ls hl => ?_)
      refine lv_aload_n hx hb dX12_wrongIn_114 rfl (lv_at hl 1 rfl) ?_
      obtain ⟨g26, hv⟩ := y_gd_e hv
      refine z_getI hc hB 11 45 g26 (by decide) (by decide) rfl (z_l1 hc qfX12_390) dX12_wrongIn_115 ?_
      refine lv_if_ne (tgt := 133) hx hb dX12_wrongIn_118 (by decide) (fun c27 => ?_) (fun c27 => ?_)
      · replace hv := y_br_f hv c27
        refine lv_aload_n hx hb dX12_wrongIn_133 rfl (lv_at hl 1 rfl) ?_
        obtain ⟨o28, eo28, hv⟩ := y_bi_e hv
        refine z_getR hc hB 11 21 g26 eo28 (by decide) (by decide) rfl (z_l1 hc qfX12_50) dX12_wrongIn_134 ?_
        refine lv_iconst (v := (0 : Int32)) hx hb dX12_wrongIn_137 (by decide) ?_
        obtain ⟨g29, hv⟩ := y_gd_e hv
        obtain ⟨i30, hv⟩ := y_gd_e hv
        refine z_lald hc hB g29 i30 dX12_wrongIn_138 ?_
        exact b139 r22 (z_L h25 o28 (0 : Int32).toNatClampNeg) h25 _ _ _ hB (lv_sub hl [1, 0] rfl) _ hv kb
      · replace hv := y_br_t hv c27
        refine lv_lload hx hb dX12_wrongIn_121 (lv_at hl 0 rfl) ?_
        refine lv_aload_n hx hb dX12_wrongIn_123 rfl (lv_at hl 1 rfl) ?_
        obtain ⟨o31, eo31, hv⟩ := y_bi_e hv
        refine z_getR hc hB 11 21 g26 eo31 (by decide) (by decide) rfl (z_l1 hc qfX12_50) dX12_wrongIn_124 ?_
        refine lv_iconst (v := (0 : Int32)) hx hb dX12_wrongIn_127 (by decide) ?_
        obtain ⟨g32, hv⟩ := y_gd_e hv
        obtain ⟨i33, hv⟩ := y_gd_e hv
        refine z_lald hc hB g32 i33 dX12_wrongIn_128 ?_
        refine lv_lsub hx hb dX12_wrongIn_129 ?_
        refine lv_goto (tgt := 139) hx hb dX12_wrongIn_130 (by decide) ?_
        exact b139 r22 (r22 - (z_L h25 o31 (0 : Int32).toNatClampNeg)) h25 _ _ _ hB (lv_sub hl [1, 0] rfl) _ hv kb
    · replace hv := y_br_t hv c12
      refine lv_iconst (v := (1 : Int32)) hx hb dX12_wrongIn_94 (by decide) ?_
      replace hv := Option.some.inj hv
      subst hv
      obtain ⟨e1, e2⟩ := y_pr kb
      rw [← e1, ← e2]
      exact z_iret hc hB hr dX12_wrongIn_95
  rw [← kt] at hv
  refine lv_iload_n hx hb dX12_wrongIn_0 rfl (lv_at hl 1 rfl) ?_
  refine lv_if_ne (tgt := 29) hx hb dX12_wrongIn_1 (by decide) (fun c34 => ?_) (fun c34 => ?_)
  · replace hv := y_br_f hv c34
    refine lv_iload_n hx hb dX12_wrongIn_29 rfl (lv_at hl 1 rfl) ?_
    refine lv_iconst (v := (1 : Int32)) hx hb dX12_wrongIn_30 (by decide) ?_
    refine lv_icmp_le (tgt := 57) hx hb dX12_wrongIn_31 (by decide) (fun c35 => ?_) (fun c35 => ?_)
    · replace hv := y_br_t hv c35
      refine lv_aload_n hx hb dX12_wrongIn_57 rfl (lv_at hl 0 rfl) ?_
      refine lv_aload_n hx hb dX12_wrongIn_58 rfl (lv_at hl 0 rfl) ?_
      obtain ⟨g36, hv⟩ := y_gd_e hv
      refine z_getI hc hB 11 45 g36 (by decide) (by decide) rfl (z_l1 hc qfX12_390) dX12_wrongIn_59 ?_
      refine lv_iload_n hx hb dX12_wrongIn_62 rfl (lv_at hl 2 rfl) ?_
      refine lv_iconst (v := (2 : Int32)) hx hb dX12_wrongIn_63 (by decide) ?_
      obtain ⟨z37, hv⟩ := y_gd_e hv
      refine lv_idiv hx hb dX12_wrongIn_64 (y_ne z37) ?_
      refine lv_aload_n hx hb dX12_wrongIn_65 rfl (lv_at hl 0 rfl) ?_
      obtain ⟨o38, eo38, hv⟩ := y_bi_e hv
      refine z_getR hc hB 11 6 g36 eo38 (by decide) (by decide) rfl (z_l1 hc qfX12_33) dX12_wrongIn_66 ?_
      refine lv_bipush (v := (36 : Int32)) hx hb dX12_wrongIn_69 (by decide) ?_
      obtain ⟨g39, hv⟩ := y_gd_e hv
      obtain ⟨i40, hv⟩ := y_gd_e hv
      refine z_iald hc hB g39 i40 dX12_wrongIn_71 ?_
      obtain ⟨r42, c41, hv⟩ := y_bi_e hv
      refine z_thI hc hB (z_runV hc hB 11 (mm_X12_oddsOf hSK l ad o0 (z_I h o0 45) (x2 / (2 : Int32)) (z_I h o38 (36 : Int32).toNatClampNeg) h c41) md_X12_oddsOf qmX12_260 g36 (by decide) rfl rfl rfl ⟨Nat.le_of_ble_eq_true rfl, Nat.le_of_ble_eq_true rfl⟩ rfl hl.1 rfl (Nat.le_of_ble_eq_true rfl) dX12_wrongIn_72 ⟨Nat.le_of_ble_eq_true rfl, Nat.le_of_ble_eq_true rfl⟩) (fun H locs hB => ?_)
      refine lv_istore_n (lv' := [(3, .int r42), (0, .ref (ad o0)), (1, .int x1), (2, .int x2)]) hx hb dX12_wrongIn_75 rfl hl (by decide) rfl (fun ls hl => ?_)
      refine lv_iload_n hx hb dX12_wrongIn_76 rfl (lv_at hl 3 rfl) ?_
      refine lv_iconst (v := (2 : Int32)) hx hb dX12_wrongIn_77 (by decide) ?_
      obtain ⟨z46, hv⟩ := y_gd_e hv
      refine lv_irem hx hb dX12_wrongIn_78 (y_ne z46) ?_
      refine lv_iconst (v := (1 : Int32)) hx hb dX12_wrongIn_79 (by decide) ?_
      refine lv_icmp_ne (tgt := 87) hx hb dX12_wrongIn_80 (by decide) (fun c47 => ?_) (fun c47 => ?_)
      · replace hv := y_br_f hv c47
        refine lv_bipush (v := (9 : Int32)) hx hb dX12_wrongIn_87 (by decide) ?_
        refine lv_iload_n hx hb dX12_wrongIn_89 rfl (lv_at hl 0 rfl) ?_
        refine lv_isub hx hb dX12_wrongIn_90 ?_
        exact b91 ((9 : Int32) - r42) h _ _ _ hB (lv_sub hl [1, 3] rfl) _ hv kt
      · replace hv := y_br_t hv c47
        refine lv_iload_n hx hb dX12_wrongIn_83 rfl (lv_at hl 0 rfl) ?_
        refine lv_goto (tgt := 91) hx hb dX12_wrongIn_84 (by decide) ?_
        exact b91 r42 h _ _ _ hB (lv_sub hl [1, 3] rfl) _ hv kt
    · replace hv := y_br_f hv c35
      refine lv_aload_n hx hb dX12_wrongIn_34 rfl (lv_at hl 0 rfl) ?_
      obtain ⟨g54, hv⟩ := y_gd_e hv
      obtain ⟨⟨r49, h53⟩, c48, hv⟩ := y_bi_e hv
      refine z_thI hc hB (z_runV hc hB 11 (mm_X12_isUp hSK l ad o0 h c48) md_X12_isUp qmX12_286 g54 (by decide) rfl rfl rfl ⟨Nat.le_of_ble_eq_true rfl, Nat.le_of_ble_eq_true rfl⟩ rfl hl.1 rfl (Nat.le_of_ble_eq_true rfl) dX12_wrongIn_35 ⟨Nat.le_of_ble_eq_true rfl, Nat.le_of_ble_eq_true rfl⟩) (fun H locs hB => ?_)
      refine lv_iload_n hx hb dX12_wrongIn_38 rfl (lv_at hl 1 rfl) ?_
      refine lv_iconst (v := (2 : Int32)) hx hb dX12_wrongIn_39 (by decide) ?_
      refine lv_icmp_ne (tgt := 47) hx hb dX12_wrongIn_40 (by decide) (fun c55 => ?_) (fun c55 => ?_)
      · replace hv := y_br_f hv c55
        refine lv_iconst (v := (0 : Int32)) hx hb dX12_wrongIn_47 (by decide) ?_
        exact b48 r49 (0 : Int32) h53 _ _ _ hB (lv_sub hl [] rfl) _ hv kt
      · replace hv := y_br_t hv c55
        refine lv_iconst (v := (1 : Int32)) hx hb dX12_wrongIn_43 (by decide) ?_
        refine lv_goto (tgt := 48) hx hb dX12_wrongIn_44 (by decide) ?_
        exact b48 r49 (1 : Int32) h53 _ _ _ hB (lv_sub hl [] rfl) _ hv kt
  · replace hv := y_br_t hv c34
    refine lv_aload_n hx hb dX12_wrongIn_4 rfl (lv_at hl 0 rfl) ?_
    refine lv_iload_n hx hb dX12_wrongIn_5 rfl (lv_at hl 2 rfl) ?_
    obtain ⟨g56, hv⟩ := y_gd_e hv
    obtain ⟨h57, eh57, hv⟩ := y_nm_e hv
    refine y_putI hc hB 11 45 eh57 g56 (z_l1 hc qfX12_390) dX12_wrongIn_6 (by decide) (by decide) rfl rfl rfl rfl (fun H locs hB => ?_)
    refine lv_aload_n hx hb dX12_wrongIn_9 rfl (lv_at hl 0 rfl) ?_
    obtain ⟨o58, eo58, hv⟩ := y_bi_e hv
    refine z_getR hc hB 11 6 (by rw [eh57]; exact g56) eo58 (by decide) (by decide) rfl (z_l1 hc qfX12_33) dX12_wrongIn_10 ?_
    refine lv_bipush (v := (36 : Int32)) hx hb dX12_wrongIn_13 (by decide) ?_
    refine lv_iconst (v := (0 : Int32)) hx hb dX12_wrongIn_15 (by decide) ?_
    obtain ⟨g59, hv⟩ := y_gd_e hv
    obtain ⟨i60, hv⟩ := y_gd_e hv
    obtain ⟨h61, eh61, hv⟩ := y_nm_e hv
    refine y_iast hc hB eh61 g59 i60 dX12_wrongIn_16 (fun H locs hB => ?_)
    refine lv_aload_n hx hb dX12_wrongIn_17 rfl (lv_at hl 0 rfl) ?_
    obtain ⟨o62, eo62, hv⟩ := y_bi_e hv
    refine z_getR hc hB 11 43 (by rw [eh61, eh57]; exact g56) eo62 (by decide) (by decide) rfl (z_l1 hc qfX12_80) dX12_wrongIn_18 ?_
    refine lv_iconst (v := (1 : Int32)) hx hb dX12_wrongIn_21 (by decide) ?_
    refine lv_dup2_11 hx hb dX12_wrongIn_22 rfl rfl ?_
    obtain ⟨g63, hv⟩ := y_gd_e hv
    obtain ⟨i64, hv⟩ := y_gd_e hv
    refine z_iald hc hB g63 i64 dX12_wrongIn_23 ?_
    refine lv_iconst (v := (1 : Int32)) hx hb dX12_wrongIn_24 (by decide) ?_
    refine lv_iadd hx hb dX12_wrongIn_25 ?_
    obtain ⟨i65, hv⟩ := y_gd_e hv
    obtain ⟨h66, eh66, hv⟩ := y_nm_e hv
    refine y_iast hc hB eh66 g63 i65 dX12_wrongIn_26 (fun H locs hB => ?_)
    refine lv_iconst (v := (0 : Int32)) hx hb dX12_wrongIn_27 (by decide) ?_
    replace hv := Option.some.inj hv
    subst hv
    obtain ⟨e1, e2⟩ := y_pr kt
    rw [← e1, ← e2]
    exact z_iret hc hB hr dX12_wrongIn_28
