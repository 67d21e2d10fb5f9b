/-! the methods of the class: the rows that decode, a function each, the walk (by gen5.py) -/
theorem dX0_readTest_0 : decode cX0_readTest 0 = .ok (.aload_n 0, 1) := by decide +kernel
theorem dX0_readTest_1 : decode cX0_readTest 1 = .ok (.getfield 79, 3) := by decide +kernel
theorem dX0_readTest_4 : decode cX0_readTest 4 = .ok (.istore_n 2, 1) := by decide +kernel
theorem dX0_readTest_5 : decode cX0_readTest 5 = .ok (.iload_n 2, 1) := by decide +kernel
theorem dX0_readTest_6 : decode cX0_readTest 6 = .ok (.ifCond .lt 9, 3) := by decide +kernel
theorem dX0_readTest_9 : decode cX0_readTest 9 = .ok (.iload_n 2, 1) := by decide +kernel
theorem dX0_readTest_10 : decode cX0_readTest 10 = .ok (.bipush 8, 2) := by decide +kernel
theorem dX0_readTest_12 : decode cX0_readTest 12 = .ok (.if_icmp .lt 9, 3) := by decide +kernel
theorem dX0_readTest_15 : decode cX0_readTest 15 = .ok (.aload_n 1, 1) := by decide +kernel
theorem dX0_readTest_16 : decode cX0_readTest 16 = .ok (.iconst 4, 1) := by decide +kernel
theorem dX0_readTest_17 : decode cX0_readTest 17 = .ok (.invokevirtual 82, 3) := by decide +kernel
theorem dX0_readTest_20 : decode cX0_readTest 20 = .ok (.ireturn, 1) := by decide +kernel
theorem dX0_readTest_21 : decode cX0_readTest 21 = .ok (.aload_n 1, 1) := by decide +kernel
theorem dX0_readTest_22 : decode cX0_readTest 22 = .ok (.invokevirtual 85, 3) := by decide +kernel
theorem dX0_readTest_25 : decode cX0_readTest 25 = .ok (.aload_n 1, 1) := by decide +kernel
theorem dX0_readTest_26 : decode cX0_readTest 26 = .ok (.getfield 88, 3) := by decide +kernel
theorem dX0_readTest_29 : decode cX0_readTest 29 = .ok (.lstore_n 3, 1) := by decide +kernel
theorem dX0_readTest_30 : decode cX0_readTest 30 = .ok (.aload_n 0, 1) := by decide +kernel
theorem dX0_readTest_31 : decode cX0_readTest 31 = .ok (.aload_n 1, 1) := by decide +kernel
theorem dX0_readTest_32 : decode cX0_readTest 32 = .ok (.invokevirtual 92, 3) := by decide +kernel
theorem dX0_readTest_35 : decode cX0_readTest 35 = .ok (.ifCond .ne 5, 3) := by decide +kernel
theorem dX0_readTest_38 : decode cX0_readTest 38 = .ok (.iconst 0, 1) := by decide +kernel
theorem dX0_readTest_39 : decode cX0_readTest 39 = .ok (.ireturn, 1) := by decide +kernel
theorem dX0_readTest_40 : decode cX0_readTest 40 = .ok (.aload_n 1, 1) := by decide +kernel
theorem dX0_readTest_41 : decode cX0_readTest 41 = .ok (.iconst 0, 1) := by decide +kernel
theorem dX0_readTest_42 : decode cX0_readTest 42 = .ok (.bipush 9, 2) := by decide +kernel
theorem dX0_readTest_44 : decode cX0_readTest 44 = .ok (.invokevirtual 95, 3) := by decide +kernel
theorem dX0_readTest_47 : decode cX0_readTest 47 = .ok (.istore 5, 2) := by decide +kernel
theorem dX0_readTest_49 : decode cX0_readTest 49 = .ok (.iload 5, 2) := by decide +kernel
theorem dX0_readTest_51 : decode cX0_readTest 51 = .ok (.iconst (-1), 1) := by decide +kernel
theorem dX0_readTest_52 : decode cX0_readTest 52 = .ok (.if_icmp .ne 5, 3) := by decide +kernel
theorem dX0_readTest_55 : decode cX0_readTest 55 = .ok (.iconst 0, 1) := by decide +kernel
theorem dX0_readTest_56 : decode cX0_readTest 56 = .ok (.ireturn, 1) := by decide +kernel
theorem dX0_readTest_57 : decode cX0_readTest 57 = .ok (.aload_n 1, 1) := by decide +kernel
theorem dX0_readTest_58 : decode cX0_readTest 58 = .ok (.iconst 0, 1) := by decide +kernel
theorem dX0_readTest_59 : decode cX0_readTest 59 = .ok (.bipush 9, 2) := by decide +kernel
theorem dX0_readTest_61 : decode cX0_readTest 61 = .ok (.invokevirtual 95, 3) := by decide +kernel
theorem dX0_readTest_64 : decode cX0_readTest 64 = .ok (.istore 6, 2) := by decide +kernel
theorem dX0_readTest_66 : decode cX0_readTest 66 = .ok (.iload 6, 2) := by decide +kernel
theorem dX0_readTest_68 : decode cX0_readTest 68 = .ok (.iconst (-1), 1) := by decide +kernel
theorem dX0_readTest_69 : decode cX0_readTest 69 = .ok (.if_icmp .ne 5, 3) := by decide +kernel
theorem dX0_readTest_72 : decode cX0_readTest 72 = .ok (.iconst 0, 1) := by decide +kernel
theorem dX0_readTest_73 : decode cX0_readTest 73 = .ok (.ireturn, 1) := by decide +kernel
theorem dX0_readTest_74 : decode cX0_readTest 74 = .ok (.aload_n 0, 1) := by decide +kernel
theorem dX0_readTest_75 : decode cX0_readTest 75 = .ok (.getfield 15, 3) := by decide +kernel
theorem dX0_readTest_78 : decode cX0_readTest 78 = .ok (.iload_n 2, 1) := by decide +kernel
theorem dX0_readTest_79 : decode cX0_readTest 79 = .ok (.lload_n 3, 1) := by decide +kernel
theorem dX0_readTest_80 : decode cX0_readTest 80 = .ok (.lastore, 1) := by decide +kernel
theorem dX0_readTest_81 : decode cX0_readTest 81 = .ok (.aload_n 0, 1) := by decide +kernel
theorem dX0_readTest_82 : decode cX0_readTest 82 = .ok (.getfield 19, 3) := by decide +kernel
theorem dX0_readTest_85 : decode cX0_readTest 85 = .ok (.iload_n 2, 1) := by decide +kernel
theorem dX0_readTest_86 : decode cX0_readTest 86 = .ok (.iload 5, 2) := by decide +kernel
theorem dX0_readTest_88 : decode cX0_readTest 88 = .ok (.iastore, 1) := by decide +kernel
theorem dX0_readTest_89 : decode cX0_readTest 89 = .ok (.aload_n 0, 1) := by decide +kernel
theorem dX0_readTest_90 : decode cX0_readTest 90 = .ok (.getfield 22, 3) := by decide +kernel
theorem dX0_readTest_93 : decode cX0_readTest 93 = .ok (.iload_n 2, 1) := by decide +kernel
theorem dX0_readTest_94 : decode cX0_readTest 94 = .ok (.iload 6, 2) := by decide +kernel
theorem dX0_readTest_96 : decode cX0_readTest 96 = .ok (.iastore, 1) := by decide +kernel
theorem dX0_readTest_97 : decode cX0_readTest 97 = .ok (.aload_n 0, 1) := by decide +kernel
theorem dX0_readTest_98 : decode cX0_readTest 98 = .ok (.dup, 1) := by decide +kernel
theorem dX0_readTest_99 : decode cX0_readTest 99 = .ok (.getfield 79, 3) := by decide +kernel
theorem dX0_readTest_102 : decode cX0_readTest 102 = .ok (.iconst 1, 1) := by decide +kernel
theorem dX0_readTest_103 : decode cX0_readTest 103 = .ok (.iadd, 1) := by decide +kernel
theorem dX0_readTest_104 : decode cX0_readTest 104 = .ok (.putfield 79, 3) := by decide +kernel
theorem dX0_readTest_107 : decode cX0_readTest 107 = .ok (.iconst 1, 1) := by decide +kernel
theorem dX0_readTest_108 : decode cX0_readTest 108 = .ok (.ireturn, 1) := by decide +kernel
abbrev rm_X0_readTest : Room := { frames := 4, cells := 0, slots := 0, locals := 92 }
noncomputable def fX0_readTest_b15 (o1 : Nat) (h : z_T) : Option (Int32 × z_T) :=
  y_gd (z_ok h o1 6) <|
  y_bi (fX6_fail o1 (4 : Int32) h) fun ⟨r2, h6⟩ =>
  y_gd (y_b r2) <|
  some (r2, h6)
noncomputable def fX0_readTest (o0 : Nat) (o1 : Nat) (h : z_T) : Option (Int32 × z_T) :=
  y_gd (z_ok h o0 0) <|
  y_nm ((z_I h o0 1)) fun v10 =>
  y_br (v10 < 0)
    (fX0_readTest_b15 o1 h)
    (y_br (v10 < (8 : Int32))
      (y_gd (z_ok h o1 6) <|
      y_bi (fX6_advance o1 h) fun h14 =>
      y_gd (z_ok h14 o1 6) <|
      y_nm ((z_L h14 o1 6)) fun v17 =>
      y_gd (z_ok h14 o0 0) <|
      y_bi (fX0_takeNewName o0 o1 h14) fun ⟨r19, h23⟩ =>
      y_br (r19 = 0)
        (some ((0 : Int32), h23))
        (y_gd (z_ok h23 o1 6) <|
        y_bi (fX6_takeNumber o1 (0 : Int32) (9 : Int32) h23) fun ⟨r27, h31⟩ =>
        y_br (r27 = (-1 : Int32))
          (some ((0 : Int32), h31))
          (y_gd (z_ok h31 o1 6) <|
          y_bi (fX6_takeNumber o1 (0 : Int32) (9 : Int32) h31) fun ⟨r35, h39⟩ =>
          y_br (r35 = (-1 : Int32))
            (some ((0 : Int32), h39))
            (y_gd (z_ok h39 o0 0) <|
            y_bi (z_R h39 o0 5) fun ob43 =>
            y_gd (z_ok h39 ob43 14) <|
            y_gd (z_ix v10 (z_N h39 ob43)) <|
            y_nm (z_sL h39 ob43 v10.toNatClampNeg v17) fun h46 =>
            y_bi (z_R h46 o0 6) fun ob47 =>
            y_gd (z_ok h46 ob47 13) <|
            y_gd (z_ix v10 (z_N h46 ob47)) <|
            y_nm (z_sI h46 ob47 v10.toNatClampNeg r27) fun h50 =>
            y_bi (z_R h50 o0 7) fun ob51 =>
            y_gd (z_ok h50 ob51 13) <|
            y_gd (z_ix v10 (z_N h50 ob51)) <|
            y_nm (z_sI h50 ob51 v10.toNatClampNeg r35) fun h54 =>
            y_nm (z_sI h54 o0 1 ((z_I h54 o0 1) + (1 : Int32))) fun h55 =>
            some ((1 : Int32), h55)))))
      (fX0_readTest_b15 o1 h))
set_option maxHeartbeats 4000000 in
set_option maxRecDepth 100000 in
theorem mm_X0_readTest {G : z_Gt} (hSK : z_SK (z_S G)) (l : Launch) (ad : Nat → Nat) (o0 : Nat) (o1 : Nat) (h : z_T) {r0 : Int32} {h9 : z_T} (hv : fX0_readTest o0 o1 h = some (r0, h9)) : z_Mi G (z_S G) l yX0_readTest cX0_readTest 7 (.boolean) rm_X0_readTest 0 0 [.ref (ad o0), .ref (ad o1)] ad h h9 r0 := by
  refine z_ofW hSK (by decide) (Nat.le_of_ble_eq_true rfl) ?_
  intro p e s m args below meth c ls hc hr hnm hB hl
  have hx := hc.1.1
  have hb := hc.1.2.1
  have hown := hc.1.2.2.2.1
  have hts := hc.1.2.2.2.2
  replace hc : z_C G (z_S G) ad (z_n h) p m c cX0_readTest 7 s args RX0 meth := hc
  replace hown : s.vm.findClass RX0 = some m.cls := hown
  replace hl : lv_has ls 7 [(0, .ref (ad o0)), (1, .ref (ad o1))] := hl
  show W p l e rm_X0_readTest s m args below meth c s.heap [] 0 0 (MQ below (z_Qi G ad h9 (z_n h) s.heap.size r0) args s 0 0 (z_A ad (z_n h) s.heap.size)) (F0 m 0 ls [])
  obtain ⟨rs, kt⟩ : ∃ rs : Int32 × z_T, rs = (r0, h9) := ⟨_, rfl⟩
  generalize hn0 : z_n h = n0 at hc hB ⊢
  have b15 : ∀ (h : z_T) (H : Heap) (locs : List Loc) (ls : Array Slot), z_B G ad n0 s h H locs → lv_has ls 7 [(1, .ref (ad o1))] → ∀ w, fX0_readTest_b15 o1 h = some w → w = (r0, h9) → W p l e rm_X0_readTest s m args below meth c H locs 0 0 (MQ below (z_Qi G ad h9 n0 s.heap.size r0) args s 0 0 (z_A ad n0 s.heap.size)) (F0 m 15 ls []) := by
    intro h H locs ls hB hl w hv kb
    refine lv_aload_n hx hb dX0_readTest_15 rfl (lv_at hl 0 rfl) ?_
    refine lv_iconst (v := (4 : Int32)) hx hb dX0_readTest_16 (by decide) ?_
    obtain ⟨g7, hv⟩ := y_gd_e hv
    obtain ⟨⟨r2, h6⟩, c1, hv⟩ := y_bi_e hv
    refine z_thI hc hB (z_runV hc hB 6 (mm_X6_fail hSK l ad o1 (4 : Int32) h c1) md_X6_fail qmX0_82 g7 (by decide) rfl rfl rfl ⟨Nat.le_of_ble_eq_true rfl, Nat.le_of_ble_eq_true rfl⟩ rfl hl.1 rfl (Nat.le_of_ble_eq_true rfl) dX0_readTest_17 ⟨Nat.le_of_ble_eq_true rfl, Nat.le_of_ble_eq_true rfl⟩) (fun H locs hB => ?_)
    obtain ⟨y8, hv⟩ := y_gd_e hv
    replace hv := Option.some.inj hv
    subst hv
    obtain ⟨e1, e2⟩ := y_pr kb
    rw [← e1, ← e2]
    exact z_zret hc hB hr (y_b_n y8) dX0_readTest_20
  rw [← kt] at hv
  refine lv_aload_n hx hb dX0_readTest_0 rfl (lv_at hl 0 rfl) ?_
  obtain ⟨g9, hv⟩ := y_gd_e hv
  refine z_getI hc hB 0 1 g9 (by decide) (by decide) rfl (z_l1 hc qfX0_79) dX0_readTest_1 ?_
  obtain ⟨v10, ev10, hv⟩ := y_nm_e hv
  rw [← ev10]
  refine lv_istore_n (lv' := [(2, .int v10), (0, .ref (ad o0)), (1, .ref (ad o1))]) hx hb dX0_readTest_4 rfl hl (by decide) rfl (fun ls hl => ?_)
  refine lv_iload_n hx hb dX0_readTest_5 rfl (lv_at hl 0 rfl) ?_
  refine lv_if_lt (tgt := 15) hx hb dX0_readTest_6 (by decide) (fun c11 => ?_) (fun c11 => ?_)
  · replace hv := y_br_t hv c11
    exact b15 h _ _ _ hB (lv_sub hl [2] rfl) _ hv kt
  · replace hv := y_br_f hv c11
    refine lv_iload_n hx hb dX0_readTest_9 rfl (lv_at hl 0 rfl) ?_
    refine lv_bipush (v := (8 : Int32)) hx hb dX0_readTest_10 (by decide) ?_
    refine lv_icmp_lt (tgt := 21) hx hb dX0_readTest_12 (by decide) (fun c12 => ?_) (fun c12 => ?_)
    · replace hv := y_br_t hv c12
      refine lv_aload_n hx hb dX0_readTest_21 rfl (lv_at hl 2 rfl) ?_
      obtain ⟨g15, hv⟩ := y_gd_e hv
      obtain ⟨h14, c13, hv⟩ := y_bi_e hv
      refine z_thV hc hB (z_runV hc hB 6 (mm_X6_advance hSK l ad o1 h c13) md_X6_advance qmX0_85 g15 (by decide) rfl rfl rfl ⟨Nat.le_of_ble_eq_true rfl, Nat.le_of_ble_eq_true rfl⟩ rfl hl.1 rfl (Nat.le_of_ble_eq_true rfl) dX0_readTest_22 ⟨Nat.le_of_ble_eq_true rfl, Nat.le_of_ble_eq_true rfl⟩) (fun H locs hB => ?_)
      refine lv_aload_n hx hb dX0_readTest_25 rfl (lv_at hl 2 rfl) ?_
      obtain ⟨g16, hv⟩ := y_gd_e hv
      refine z_getL hc hB 6 6 g16 (by decide) (by decide) rfl (z_l2 hc qfX0_88) dX0_readTest_26 ?_
      obtain ⟨v17, ev17, hv⟩ := y_nm_e hv
      rw [← ev17]
      refine lv_lstore_n (lv' := [(3, .long v17), (2, .int v10), (0, .ref (ad o0)), (1, .ref (ad o1))]) hx hb dX0_readTest_29 rfl hl (by decide) rfl (fun ls hl => ?_)
      refine lv_aload_n hx hb dX0_readTest_30 rfl (lv_at hl 2 rfl) ?_
      refine lv_aload_n hx hb dX0_readTest_31 rfl (lv_at hl 3 rfl) ?_
      obtain ⟨g24, hv⟩ := y_gd_e hv
      obtain ⟨⟨r19, h23⟩, c18, hv⟩ := y_bi_e hv
      refine z_thI hc hB (z_runV hc hB 0 (mm_X0_takeNewName hSK l ad o0 o1 h14 c18) md_X0_takeNewName qmX0_92 g24 (by decide) rfl rfl rfl ⟨Nat.le_of_ble_eq_true rfl, Nat.le_of_ble_eq_true rfl⟩ rfl hl.1 rfl (Nat.le_of_ble_eq_true rfl) dX0_readTest_32 ⟨Nat.le_of_ble_eq_true rfl, Nat.le_of_ble_eq_true rfl⟩) (fun H locs hB => ?_)
      refine lv_if_ne (tgt := 40) hx hb dX0_readTest_35 (by decide) (fun c25 => ?_) (fun c25 => ?_)
      · replace hv := y_br_f hv c25
        refine lv_aload_n hx hb dX0_readTest_40 rfl (lv_at hl 3 rfl) ?_
        refine lv_iconst (v := (0 : Int32)) hx hb dX0_readTest_41 (by decide) ?_
        refine lv_bipush (v := (9 : Int32)) hx hb dX0_readTest_42 (by decide) ?_
        obtain ⟨g32, hv⟩ := y_gd_e hv
        obtain ⟨⟨r27, h31⟩, c26, hv⟩ := y_bi_e hv
        refine z_thI hc hB (z_runV hc hB 6 (mm_X6_takeNumber hSK l ad o1 (0 : Int32) (9 : Int32) h23 c26) md_X6_takeNumber qmX0_95 g32 (by decide) rfl rfl rfl ⟨Nat.le_of_ble_eq_true rfl, Nat.le_of_ble_eq_true rfl⟩ rfl hl.1 rfl (Nat.le_of_ble_eq_true rfl) dX0_readTest_44 ⟨Nat.le_of_ble_eq_true rfl, Nat.le_of_ble_eq_true rfl⟩) (fun H locs hB => ?_)
        refine lv_istore (lv' := [(5, .int r27), (3, .long v17), (2, .int v10), (0, .ref (ad o0)), (1, .ref (ad o1))]) hx hb dX0_readTest_47 hl (by decide) rfl (fun ls hl => ?_)
        refine lv_iload hx hb dX0_readTest_49 (lv_at hl 0 rfl) ?_
        refine lv_iconst (v := (-1 : Int32)) hx hb dX0_readTest_51 (by decide) ?_
        refine lv_icmp_ne (tgt := 57) hx hb dX0_readTest_52 (by decide) (fun c33 => ?_) (fun c33 => ?_)
        · replace hv := y_br_f hv c33
          refine lv_aload_n hx hb dX0_readTest_57 rfl (lv_at hl 4 rfl) ?_
          refine lv_iconst (v := (0 : Int32)) hx hb dX0_readTest_58 (by decide) ?_
          refine lv_bipush (v := (9 : Int32)) hx hb dX0_readTest_59 (by decide) ?_
          obtain ⟨g40, hv⟩ := y_gd_e hv
          obtain ⟨⟨r35, h39⟩, c34, hv⟩ := y_bi_e hv
          refine z_thI hc hB (z_runV hc hB 6 (mm_X6_takeNumber hSK l ad o1 (0 : Int32) (9 : Int32) h31 c34) md_X6_takeNumber qmX0_95 g40 (by decide) rfl rfl rfl ⟨Nat.le_of_ble_eq_true rfl, Nat.le_of_ble_eq_true rfl⟩ rfl hl.1 rfl (Nat.le_of_ble_eq_true rfl) dX0_readTest_61 ⟨Nat.le_of_ble_eq_true rfl, Nat.le_of_ble_eq_true rfl⟩) (fun H locs hB => ?_)
          refine lv_istore (lv' := [(6, .int r35), (5, .int r27), (3, .long v17), (2, .int v10), (0, .ref (ad o0)), (1, .ref (ad o1))]) hx hb dX0_readTest_64 hl (by decide) rfl (fun ls hl => ?_)
          refine lv_iload hx hb dX0_readTest_66 (lv_at hl 0 rfl) ?_
          refine lv_iconst (v := (-1 : Int32)) hx hb dX0_readTest_68 (by decide) ?_
          refine lv_icmp_ne (tgt := 74) hx hb dX0_readTest_69 (by decide) (fun c41 => ?_) (fun c41 => ?_)
          · replace hv := y_br_f hv c41
            refine lv_aload_n hx hb dX0_readTest_74 rfl (lv_at hl 4 rfl) ?_
            obtain ⟨g42, hv⟩ := y_gd_e hv
            obtain ⟨ob43, eob43, hv⟩ := y_bi_e hv
            refine z_getR hc hB 0 5 g42 eob43 (by decide) (by decide) rfl (z_l1 hc qfX0_15) dX0_readTest_75 ?_
            refine lv_iload_n hx hb dX0_readTest_78 rfl (lv_at hl 3 rfl) ?_
            refine lv_lload_n hx hb dX0_readTest_79 rfl (lv_at hl 2 rfl) ?_
            obtain ⟨g44, hv⟩ := y_gd_e hv
            obtain ⟨i45, hv⟩ := y_gd_e hv
            obtain ⟨h46, eh46, hv⟩ := y_nm_e hv
            refine y_last hc hB eh46 g44 i45 dX0_readTest_80 (fun H locs hB => ?_)
            refine lv_aload_n hx hb dX0_readTest_81 rfl (lv_at hl 4 rfl) ?_
            obtain ⟨ob47, eob47, hv⟩ := y_bi_e hv
            refine z_getR hc hB 0 6 (by rw [eh46]; exact g42) eob47 (by decide) (by decide) rfl (z_l1 hc qfX0_19) dX0_readTest_82 ?_
            refine lv_iload_n hx hb dX0_readTest_85 rfl (lv_at hl 3 rfl) ?_
            refine lv_iload hx hb dX0_readTest_86 (lv_at hl 1 rfl) ?_
            obtain ⟨g48, hv⟩ := y_gd_e hv
            obtain ⟨i49, hv⟩ := y_gd_e hv
            obtain ⟨h50, eh50, hv⟩ := y_nm_e hv
            refine y_iast hc hB eh50 g48 i49 dX0_readTest_88 (fun H locs hB => ?_)
            refine lv_aload_n hx hb dX0_readTest_89 rfl (lv_at hl 4 rfl) ?_
            obtain ⟨ob51, eob51, hv⟩ := y_bi_e hv
            refine z_getR hc hB 0 7 (by rw [eh50, eh46]; exact g42) eob51 (by decide) (by decide) rfl (z_l1 hc qfX0_22) dX0_readTest_90 ?_
            refine lv_iload_n hx hb dX0_readTest_93 rfl (lv_at hl 3 rfl) ?_
            refine lv_iload hx hb dX0_readTest_94 (lv_at hl 0 rfl) ?_
            obtain ⟨g52, hv⟩ := y_gd_e hv
            obtain ⟨i53, hv⟩ := y_gd_e hv
            obtain ⟨h54, eh54, hv⟩ := y_nm_e hv
            refine y_iast hc hB eh54 g52 i53 dX0_readTest_96 (fun H locs hB => ?_)
            refine lv_aload_n hx hb dX0_readTest_97 rfl (lv_at hl 4 rfl) ?_
            refine lv_dup hx hb dX0_readTest_98 rfl ?_
            refine z_getI hc hB 0 1 (by rw [eh54, eh50, eh46]; exact g42) (by decide) (by decide) rfl (z_l1 hc qfX0_79) dX0_readTest_99 ?_
            refine lv_iconst (v := (1 : Int32)) hx hb dX0_readTest_102 (by decide) ?_
            refine lv_iadd hx hb dX0_readTest_103 ?_
            obtain ⟨h55, eh55, hv⟩ := y_nm_e hv
            refine y_putI hc hB 0 1 eh55 (by rw [eh54, eh50, eh46]; exact g42) (z_l1 hc qfX0_79) dX0_readTest_104 (by decide) (by decide) rfl rfl rfl rfl (fun H locs hB => ?_)
            refine lv_iconst (v := (1 : Int32)) hx hb dX0_readTest_107 (by decide) ?_
            replace hv := Option.some.inj hv
            subst hv
            obtain ⟨e1, e2⟩ := y_pr kt
            rw [← e1, ← e2]
            exact z_zret hc hB hr rfl dX0_readTest_108
          · replace hv := y_br_t hv c41
            refine lv_iconst (v := (0 : Int32)) hx hb dX0_readTest_72 (by decide) ?_
            replace hv := Option.some.inj hv
            subst hv
            obtain ⟨e1, e2⟩ := y_pr kt
            rw [← e1, ← e2]
            exact z_zret hc hB hr rfl dX0_readTest_73
        · replace hv := y_br_t hv c33
          refine lv_iconst (v := (0 : Int32)) hx hb dX0_readTest_55 (by decide) ?_
          replace hv := Option.some.inj hv
          subst hv
          obtain ⟨e1, e2⟩ := y_pr kt
          rw [← e1, ← e2]
          exact z_zret hc hB hr rfl dX0_readTest_56
      · replace hv := y_br_t hv c25
        refine lv_iconst (v := (0 : Int32)) hx hb dX0_readTest_38 (by decide) ?_
        replace hv := Option.some.inj hv
        subst hv
        obtain ⟨e1, e2⟩ := y_pr kt
        rw [← e1, ← e2]
        exact z_zret hc hB hr rfl dX0_readTest_39
    · replace hv := y_br_f hv c12
      exact b15 h _ _ _ hB (lv_sub hl [2] rfl) _ hv kt
theorem qfX0_53 : Cond.fieldLink RX0 53 "DreamTests$Word" "TEST" "LDreamTests$Word;" ∈ z_ws := List.mem_filter.mpr ⟨List.mem_append_right _ (List.mem_of_getElem? (i := 387) (by decide +kernel)), rfl⟩
theorem qmX0_59 : Cond.methodLink RX0 59 yX6_isAt ∈ z_ws := List.mem_filter.mpr ⟨List.mem_append_right _ (List.mem_of_getElem? (i := 389) (by decide +kernel)), rfl⟩
theorem qfX0_66 : Cond.fieldLink RX0 66 "DreamTests$Word" "DREAM" "LDreamTests$Word;" ∈ z_ws := List.mem_filter.mpr ⟨List.mem_append_right _ (List.mem_of_getElem? (i := 424) (by decide +kernel)), rfl⟩
theorem qfX0_72 : Cond.fieldLinkNest RX0 72 "DreamTests$Reader" "word" "LDreamTests$Word;" "DreamTests" ∈ z_nw := List.mem_filter.mpr ⟨List.mem_of_getElem? (i := 119) (by decide +kernel), rfl⟩
theorem qmX0_75 : Cond.methodLink RX0 75 yX0_readSetting ∈ z_ws := List.mem_filter.mpr ⟨List.mem_append_right _ (List.mem_of_getElem? (i := 440) (by decide +kernel)), rfl⟩
theorem qc_X0_readSetting : Cond.code yX0_readSetting cX0_readSetting 5 (some .boolean) ∈ z_ws := List.mem_filter.mpr ⟨List.mem_append_right _ (List.mem_of_getElem? (i := 443) (by decide +kernel)), rfl⟩
theorem qi_X0_readSetting : Cond.instanceMethod yX0_readSetting ∈ z_ws := List.mem_filter.mpr ⟨List.mem_append_right _ (List.mem_of_getElem? (i := 442) (by decide +kernel)), rfl⟩
theorem qs_X0_readSetting : Cond.selects RX0 yX0_readSetting yX0_readSetting ∈ z_ws := List.mem_filter.mpr ⟨List.mem_append_left _ (List.mem_of_getElem? (i := 6) (by decide +kernel)), rfl⟩
theorem md_X0_readSetting : z_mdV yX0_readSetting cX0_readSetting 5 (some .boolean) 2 := ⟨⟨qn_RX0, qc_X0_readSetting, ⟨by decide +kernel, by decide +kernel, by decide +kernel⟩⟩, qi_X0_readSetting, qs_X0_readSetting⟩
theorem qmX0_69 : Cond.methodLink RX0 69 yX0_readDream ∈ z_ws := List.mem_filter.mpr ⟨List.mem_append_right _ (List.mem_of_getElem? (i := 426) (by decide +kernel)), rfl⟩
theorem qc_X0_readDream : Cond.code yX0_readDream cX0_readDream 7 (some .boolean) ∈ z_ws := List.mem_filter.mpr ⟨List.mem_append_right _ (List.mem_of_getElem? (i := 429) (by decide +kernel)), rfl⟩
theorem qi_X0_readDream : Cond.instanceMethod yX0_readDream ∈ z_ws := List.mem_filter.mpr ⟨List.mem_append_right _ (List.mem_of_getElem? (i := 428) (by decide +kernel)), rfl⟩
theorem qs_X0_readDream : Cond.selects RX0 yX0_readDream yX0_readDream ∈ z_ws := List.mem_filter.mpr ⟨List.mem_append_left _ (List.mem_of_getElem? (i := 4) (by decide +kernel)), rfl⟩
theorem md_X0_readDream : z_mdV yX0_readDream cX0_readDream 7 (some .boolean) 1 := ⟨⟨qn_RX0, qc_X0_readDream, ⟨by decide +kernel, by decide +kernel, by decide +kernel⟩⟩, qi_X0_readDream, qs_X0_readDream⟩
theorem qmX0_63 : Cond.methodLink RX0 63 yX0_readTest ∈ z_ws := List.mem_filter.mpr ⟨List.mem_append_right _ (List.mem_of_getElem? (i := 393) (by decide +kernel)), rfl⟩
theorem qc_X0_readTest : Cond.code yX0_readTest cX0_readTest 7 (some .boolean) ∈ z_ws := List.mem_filter.mpr ⟨List.mem_append_right _ (List.mem_of_getElem? (i := 396) (by decide +kernel)), rfl⟩
theorem qi_X0_readTest : Cond.instanceMethod yX0_readTest ∈ z_ws := List.mem_filter.mpr ⟨List.mem_append_right _ (List.mem_of_getElem? (i := 395) (by decide +kernel)), rfl⟩
theorem qs_X0_readTest : Cond.selects RX0 yX0_readTest yX0_readTest ∈ z_ws := List.mem_filter.mpr ⟨List.mem_append_left _ (List.mem_of_getElem? (i := 2) (by decide +kernel)), rfl⟩
theorem md_X0_readTest : z_mdV yX0_readTest cX0_readTest 7 (some .boolean) 1 := ⟨⟨qn_RX0, qc_X0_readTest, ⟨by decide +kernel, by decide +kernel, by decide +kernel⟩⟩, qi_X0_readTest, qs_X0_readTest⟩
theorem dX0_readLine_0 : decode cX0_readLine 0 = .ok (.aload_n 1, 1) := by decide +kernel
theorem dX0_readLine_1 : decode cX0_readLine 1 = .ok (.getstatic 53, 3) := by decide +kernel
theorem dX0_readLine_4 : decode cX0_readLine 4 = .ok (.invokevirtual 59, 3) := by decide +kernel
theorem dX0_readLine_7 : decode cX0_readLine 7 = .ok (.ifCond .eq 9, 3) := by decide +kernel
theorem dX0_readLine_10 : decode cX0_readLine 10 = .ok (.aload_n 0, 1) := by decide +kernel
theorem dX0_readLine_11 : decode cX0_readLine 11 = .ok (.aload_n 1, 1) := by decide +kernel
theorem dX0_readLine_12 : decode cX0_readLine 12 = .ok (.invokevirtual 63, 3) := by decide +kernel
theorem dX0_readLine_15 : decode cX0_readLine 15 = .ok (.ireturn, 1) := by decide +kernel
theorem dX0_readLine_16 : decode cX0_readLine 16 = .ok (.aload_n 1, 1) := by decide +kernel
theorem dX0_readLine_17 : decode cX0_readLine 17 = .ok (.getstatic 66, 3) := by decide +kernel
theorem dX0_readLine_20 : decode cX0_readLine 20 = .ok (.invokevirtual 59, 3) := by decide +kernel
theorem dX0_readLine_23 : decode cX0_readLine 23 = .ok (.ifCond .eq 9, 3) := by decide +kernel
theorem dX0_readLine_26 : decode cX0_readLine 26 = .ok (.aload_n 0, 1) := by decide +kernel
theorem dX0_readLine_27 : decode cX0_readLine 27 = .ok (.aload_n 1, 1) := by decide +kernel
theorem dX0_readLine_28 : decode cX0_readLine 28 = .ok (.invokevirtual 69, 3) := by decide +kernel
theorem dX0_readLine_31 : decode cX0_readLine 31 = .ok (.ireturn, 1) := by decide +kernel
theorem dX0_readLine_32 : decode cX0_readLine 32 = .ok (.aload_n 0, 1) := by decide +kernel
theorem dX0_readLine_33 : decode cX0_readLine 33 = .ok (.aload_n 1, 1) := by decide +kernel
theorem dX0_readLine_34 : decode cX0_readLine 34 = .ok (.aload_n 1, 1) := by decide +kernel
theorem dX0_readLine_35 : decode cX0_readLine 35 = .ok (.getfield 72, 3) := by decide +kernel
theorem dX0_readLine_38 : decode cX0_readLine 38 = .ok (.invokevirtual 75, 3) := by decide +kernel
theorem dX0_readLine_41 : decode cX0_readLine 41 = .ok (.ireturn, 1) := by decide +kernel
abbrev rm_X0_readLine : Room := { frames := 5, cells := 0, slots := 0, locals := 119 }
noncomputable def fX0_readLine (o0 : Nat) (o1 : Nat) (h : z_T) : Option (Int32 × z_T) :=
  y_gd (z_ok h o1 6) <|
  y_bi (fX6_isAt o1 1 h) fun r2 =>
  y_br (r2 = 0)
    (y_bi (fX6_isAt o1 2 h) fun r9 =>
    y_br (r9 = 0)
      (y_bi (z_R h o1 7) fun ob14 =>
      y_gd (z_ok h o0 0) <|
      y_bi (fX0_readSetting o0 o1 ob14 h) fun ⟨r16, h20⟩ =>
      y_gd (y_b r16) <|
      some (r16, h20))
      (y_gd (z_ok h o0 0) <|
      y_bi (fX0_readDream o0 o1 h) fun ⟨r24, h28⟩ =>
      y_gd (y_b r24) <|
      some (r24, h28)))
    (y_gd (z_ok h o0 0) <|
    y_bi (fX0_readTest o0 o1 h) fun ⟨r32, h36⟩ =>
    y_gd (y_b r32) <|
    some (r32, h36))
set_option maxHeartbeats 4000000 in
set_option maxRecDepth 100000 in
theorem mm_X0_readLine {G : z_Gt} (hSK : z_SK (z_S G)) (l : Launch) (ad : Nat → Nat) (o0 : Nat) (o1 : Nat) (h : z_T) {r0 : Int32} {h9 : z_T} (hv : fX0_readLine o0 o1 h = some (r0, h9)) : z_Mi G (z_S G) l yX0_readLine cX0_readLine 2 (.boolean) rm_X0_readLine 0 0 [.ref (ad o0), .ref (ad o1)] ad h h9 r0 := by
  refine z_ofW hSK (by decide) (Nat.le_of_ble_eq_true rfl) ?_
  intro p e s m args below meth c ls hc hr hnm hB hl
  have hx := hc.1.1
  have hb := hc.1.2.1
  have hown := hc.1.2.2.2.1
  have hts := hc.1.2.2.2.2
  replace hc : z_C G (z_S G) ad (z_n h) p m c cX0_readLine 2 s args RX0 meth := hc
  replace hown : s.vm.findClass RX0 = some m.cls := hown
  replace hl : lv_has ls 2 [(0, .ref (ad o0)), (1, .ref (ad o1))] := hl
  show W p l e rm_X0_readLine s m args below meth c s.heap [] 0 0 (MQ below (z_Qi G ad h9 (z_n h) s.heap.size r0) args s 0 0 (z_A ad (z_n h) s.heap.size)) (F0 m 0 ls [])
  obtain ⟨rs, kt⟩ : ∃ rs : Int32 × z_T, rs = (r0, h9) := ⟨_, rfl⟩
  generalize hn0 : z_n h = n0 at hc hB ⊢
  rw [← kt] at hv
  refine lv_aload_n hx hb dX0_readLine_0 rfl (lv_at hl 1 rfl) ?_
  refine z_gets hc hB (hc.2.1.2.2.2.1.1 1 (by decide)) qfX0_53 dX0_readLine_1 ?_
  obtain ⟨g6, hv⟩ := y_gd_e hv
  obtain ⟨r2, c1, hv⟩ := y_bi_e hv
  refine z_thI hc hB (z_runV hc hB 6 (mm_X6_isAt hSK l ad o1 1 h c1) md_X6_isAt qmX0_59 g6 (by decide) rfl rfl rfl ⟨Nat.le_of_ble_eq_true rfl, Nat.le_of_ble_eq_true rfl⟩ rfl hl.1 rfl (Nat.le_of_ble_eq_true rfl) dX0_readLine_4 ⟨Nat.le_of_ble_eq_true rfl, Nat.le_of_ble_eq_true rfl⟩) (fun H locs hB => ?_)
  refine lv_if_eq (tgt := 16) hx hb dX0_readLine_7 (by decide) (fun c7 => ?_) (fun c7 => ?_)
  · replace hv := y_br_t hv c7
    refine lv_aload_n hx hb dX0_readLine_16 rfl (lv_at hl 1 rfl) ?_
    refine z_gets hc hB (hc.2.1.2.2.2.1.1 2 (by decide)) qfX0_66 dX0_readLine_17 ?_
    obtain ⟨r9, c8, hv⟩ := y_bi_e hv
    refine z_thI hc hB (z_runV hc hB 6 (mm_X6_isAt hSK l ad o1 2 h c8) md_X6_isAt qmX0_59 g6 (by decide) rfl rfl rfl ⟨Nat.le_of_ble_eq_true rfl, Nat.le_of_ble_eq_true rfl⟩ rfl hl.1 rfl (Nat.le_of_ble_eq_true rfl) dX0_readLine_20 ⟨Nat.le_of_ble_eq_true rfl, Nat.le_of_ble_eq_true rfl⟩) (fun H locs hB => ?_)
    refine lv_if_eq (tgt := 32) hx hb dX0_readLine_23 (by decide) (fun c13 => ?_) (fun c13 => ?_)
    · replace hv := y_br_t hv c13
      refine lv_aload_n hx hb dX0_readLine_32 rfl (lv_at hl 0 rfl) ?_
      refine lv_aload_n hx hb dX0_readLine_33 rfl (lv_at hl 1 rfl) ?_
      refine lv_aload_n hx hb dX0_readLine_34 rfl (lv_at hl 1 rfl) ?_
      obtain ⟨ob14, eob14, hv⟩ := y_bi_e hv
      refine z_getE hc hB 6 7 g6 eob14 (by decide) (by decide) rfl (z_l2 hc qfX0_72) dX0_readLine_35 ?_
      obtain ⟨g21, hv⟩ := y_gd_e hv
      obtain ⟨⟨r16, h20⟩, c15, hv⟩ := y_bi_e hv
      refine z_thI hc hB (z_runV hc hB 0 (mm_X0_readSetting hSK l ad o0 o1 ob14 h c15) md_X0_readSetting qmX0_75 g21 (by decide) rfl rfl rfl ⟨Nat.le_of_ble_eq_true rfl, Nat.le_of_ble_eq_true rfl⟩ rfl hl.1 rfl (Nat.le_of_ble_eq_true rfl) dX0_readLine_38 ⟨Nat.le_of_ble_eq_true rfl, Nat.le_of_ble_eq_true rfl⟩) (fun H locs hB => ?_)
      obtain ⟨y22, hv⟩ := y_gd_e hv
      replace hv := Option.some.inj hv
      subst hv
      obtain ⟨e1, e2⟩ := y_pr kt
      rw [← e1, ← e2]
      exact z_zret hc hB hr (y_b_n y22) dX0_readLine_41
    · replace hv := y_br_f hv c13
      refine lv_aload_n hx hb dX0_readLine_26 rfl (lv_at hl 0 rfl) ?_
      refine lv_aload_n hx hb dX0_readLine_27 rfl (lv_at hl 1 rfl) ?_
      obtain ⟨g29, hv⟩ := y_gd_e hv
      obtain ⟨⟨r24, h28⟩, c23, hv⟩ := y_bi_e hv
      refine z_thI hc hB (z_runV hc hB 0 (mm_X0_readDream hSK l ad o0 o1 h c23) md_X0_readDream qmX0_69 g29 (by decide) rfl rfl rfl ⟨Nat.le_of_ble_eq_true rfl, Nat.le_of_ble_eq_true rfl⟩ rfl hl.1 rfl (Nat.le_of_ble_eq_true rfl) dX0_readLine_28 ⟨Nat.le_of_ble_eq_true rfl, Nat.le_of_ble_eq_true rfl⟩) (fun H locs hB => ?_)
      obtain ⟨y30, hv⟩ := y_gd_e hv
      replace hv := Option.some.inj hv
      subst hv
      obtain ⟨e1, e2⟩ := y_pr kt
      rw [← e1, ← e2]
      exact z_zret hc hB hr (y_b_n y30) dX0_readLine_31
  · replace hv := y_br_f hv c7
    refine lv_aload_n hx hb dX0_readLine_10 rfl (lv_at hl 0 rfl) ?_
    refine lv_aload_n hx hb dX0_readLine_11 rfl (lv_at hl 1 rfl) ?_
    obtain ⟨g37, hv⟩ := y_gd_e hv
    obtain ⟨⟨r32, h36⟩, c31, hv⟩ := y_bi_e hv
    refine z_thI hc hB (z_runV hc hB 0 (mm_X0_readTest hSK l ad o0 o1 h c31) md_X0_readTest qmX0_63 g37 (by decide) rfl rfl rfl ⟨Nat.le_of_ble_eq_true rfl, Nat.le_of_ble_eq_true rfl⟩ rfl hl.1 rfl (Nat.le_of_ble_eq_true rfl) dX0_readLine_12 ⟨Nat.le_of_ble_eq_true rfl, Nat.le_of_ble_eq_true rfl⟩) (fun H locs hB => ?_)
    obtain ⟨y38, hv⟩ := y_gd_e hv
    replace hv := Option.some.inj hv
    subst hv
    obtain ⟨e1, e2⟩ := y_pr kt
    rw [← e1, ← e2]
    exact z_zret hc hB hr (y_b_n y38) dX0_readLine_15
theorem dX6_take_0 : decode cX6_take 0 = .ok (.aload_n 0, 1) := by decide +kernel
theorem dX6_take_1 : decode cX6_take 1 = .ok (.getfield 60, 3) := by decide +kernel
theorem dX6_take_4 : decode cX6_take 4 = .ok (.iload_n 1, 1) := by decide +kernel
theorem dX6_take_5 : decode cX6_take 5 = .ok (.if_icmp .eq 9, 3) := by decide +kernel
theorem dX6_take_8 : decode cX6_take 8 = .ok (.aload_n 0, 1) := by decide +kernel
theorem dX6_take_9 : decode cX6_take 9 = .ok (.iconst 1, 1) := by decide +kernel
theorem dX6_take_10 : decode cX6_take 10 = .ok (.invokevirtual 93, 3) := by decide +kernel
theorem dX6_take_13 : decode cX6_take 13 = .ok (.ireturn, 1) := by decide +kernel
theorem dX6_take_14 : decode cX6_take 14 = .ok (.aload_n 0, 1) := by decide +kernel
theorem dX6_take_15 : decode cX6_take 15 = .ok (.invokevirtual 34, 3) := by decide +kernel
theorem dX6_take_18 : decode cX6_take 18 = .ok (.iconst 1, 1) := by decide +kernel
theorem dX6_take_19 : decode cX6_take 19 = .ok (.ireturn, 1) := by decide +kernel
abbrev rm_X6_take : Room := { frames := 3, cells := 0, slots := 0, locals := 69 }
noncomputable def fX6_take (o0 : Nat) (x1 : Int32) (h : z_T) : Option (Int32 × z_T) :=
  y_gd (z_ok h o0 6) <|
  y_br ((z_I h o0 4) = x1)
    (y_bi (fX6_advance o0 h) fun h4 =>
    some ((1 : Int32), h4))
    (y_bi (fX6_fail o0 (1 : Int32) h) fun ⟨r6, h10⟩ =>
    y_gd (y_b r6) <|
    some (r6, h10))
set_option maxHeartbeats 4000000 in
set_option maxRecDepth 100000 in
theorem mm_X6_take {G : z_Gt} (hSK : z_SK (z_S G)) (l : Launch) (ad : Nat → Nat) (o0 : Nat) (x1 : Int32) (h : z_T) {r0 : Int32} {h9 : z_T} (hv : fX6_take o0 x1 h = some (r0, h9)) : z_Mi G (z_S G) l yX6_take cX6_take 2 (.boolean) rm_X6_take 0 0 [.ref (ad o0), .int x1] ad h h9 r0 := by
  refine z_ofW hSK (by decide) (Nat.le_of_ble_eq_true rfl) ?_
  intro p e s m args below meth c ls hc hr hnm hB hl
  have hx := hc.1.1
  have hb := hc.1.2.1
  have hown := hc.1.2.2.2.1
  have hts := hc.1.2.2.2.2
  replace hc : z_C G (z_S G) ad (z_n h) p m c cX6_take 2 s args RX6 meth := hc
  replace hown : s.vm.findClass RX6 = some m.cls := hown
  replace hl : lv_has ls 2 [(0, .ref (ad o0)), (1, .int x1)] := hl
  show W p l e rm_X6_take s m args below meth c s.heap [] 0 0 (MQ below (z_Qi G ad h9 (z_n h) s.heap.size r0) args s 0 0 (z_A ad (z_n h) s.heap.size)) (F0 m 0 ls [])
  obtain ⟨rs, kt⟩ : ∃ rs : Int32 × z_T, rs = (r0, h9) := ⟨_, rfl⟩
  generalize hn0 : z_n h = n0 at hc hB ⊢
  rw [← kt] at hv
  refine lv_aload_n hx hb dX6_take_0 rfl (lv_at hl 0 rfl) ?_
  obtain ⟨g1, hv⟩ := y_gd_e hv
  refine z_getI hc hB 6 4 g1 (by decide) (by decide) rfl (z_l1 hc qfX6_60) dX6_take_1 ?_
  refine lv_iload_n hx hb dX6_take_4 rfl (lv_at hl 1 rfl) ?_
  refine lv_icmp_eq (tgt := 14) hx hb dX6_take_5 (by decide) (fun c2 => ?_) (fun c2 => ?_)
  · replace hv := y_br_t hv c2
    refine lv_aload_n hx hb dX6_take_14 rfl (lv_at hl 0 rfl) ?_
    obtain ⟨h4, c3, hv⟩ := y_bi_e hv
    refine z_thV hc hB (z_runV hc hB 6 (mm_X6_advance hSK l ad o0 h c3) md_X6_advance qmX6_34 g1 (by decide) rfl rfl rfl ⟨Nat.le_of_ble_eq_true rfl, Nat.le_of_ble_eq_true rfl⟩ rfl hl.1 rfl (Nat.le_of_ble_eq_true rfl) dX6_take_15 ⟨Nat.le_of_ble_eq_true rfl, Nat.le_of_ble_eq_true rfl⟩) (fun H locs hB => ?_)
    refine lv_iconst (v := (1 : Int32)) hx hb dX6_take_18 (by decide) ?_
    replace hv := Option.some.inj hv
    subst hv
    obtain ⟨e1, e2⟩ := y_pr kt
    rw [← e1, ← e2]
    exact z_zret hc hB hr rfl dX6_take_19
  · replace hv := y_br_f hv c2
    refine lv_aload_n hx hb dX6_take_8 rfl (lv_at hl 0 rfl) ?_
    refine lv_iconst (v := (1 : Int32)) hx hb dX6_take_9 (by decide) ?_
    obtain ⟨⟨r6, h10⟩, c5, hv⟩ := y_bi_e hv
    refine z_thI hc hB (z_runV hc hB 6 (mm_X6_fail hSK l ad o0 (1 : Int32) h c5) md_X6_fail qmX6_93 g1 (by decide) rfl rfl rfl ⟨Nat.le_of_ble_eq_true rfl, Nat.le_of_ble_eq_true rfl⟩ rfl hl.1 rfl (Nat.le_of_ble_eq_true rfl) dX6_take_10 ⟨Nat.le_of_ble_eq_true rfl, Nat.le_of_ble_eq_true rfl⟩) (fun H locs hB => ?_)
    obtain ⟨y11, hv⟩ := y_gd_e hv
    replace hv := Option.some.inj hv
    subst hv
    obtain ⟨e1, e2⟩ := y_pr kt
    rw [← e1, ← e2]
    exact z_zret hc hB hr (y_b_n y11) dX6_take_13
theorem qmX0_42 : Cond.methodLink RX0 42 yX0_readLine ∈ z_ws := List.mem_filter.mpr ⟨List.mem_append_right _ (List.mem_of_getElem? (i := 383) (by decide +kernel)), rfl⟩
theorem qc_X0_readLine : Cond.code yX0_readLine cX0_readLine 2 (some .boolean) ∈ z_ws := List.mem_filter.mpr ⟨List.mem_append_right _ (List.mem_of_getElem? (i := 386) (by decide +kernel)), rfl⟩
theorem qi_X0_readLine : Cond.instanceMethod yX0_readLine ∈ z_ws := List.mem_filter.mpr ⟨List.mem_append_right _ (List.mem_of_getElem? (i := 385) (by decide +kernel)), rfl⟩
theorem qs_X0_readLine : Cond.selects RX0 yX0_readLine yX0_readLine ∈ z_ws := List.mem_filter.mpr ⟨List.mem_append_left _ (List.mem_of_getElem? (i := 1) (by decide +kernel)), rfl⟩
theorem md_X0_readLine : z_mdV yX0_readLine cX0_readLine 2 (some .boolean) 1 := ⟨⟨qn_RX0, qc_X0_readLine, ⟨by decide +kernel, by decide +kernel, by decide +kernel⟩⟩, qi_X0_readLine, qs_X0_readLine⟩
theorem qmX0_46 : Cond.methodLink RX0 46 yX6_take ∈ z_ws := List.mem_filter.mpr ⟨List.mem_append_right _ (List.mem_of_getElem? (i := 444) (by decide +kernel)), rfl⟩
theorem qc_X6_take : Cond.code yX6_take cX6_take 2 (some .boolean) ∈ z_ws := List.mem_filter.mpr ⟨List.mem_append_right _ (List.mem_of_getElem? (i := 447) (by decide +kernel)), rfl⟩
theorem qi_X6_take : Cond.instanceMethod yX6_take ∈ z_ws := List.mem_filter.mpr ⟨List.mem_append_right _ (List.mem_of_getElem? (i := 445) (by decide +kernel)), rfl⟩
theorem qs_X6_take : Cond.selects RX6 yX6_take yX6_take ∈ z_ws := List.mem_filter.mpr ⟨List.mem_append_right _ (List.mem_of_getElem? (i := 446) (by decide +kernel)), rfl⟩
theorem md_X6_take : z_mdV yX6_take cX6_take 2 (some .boolean) 1 := ⟨⟨qn_RX6, qc_X6_take, ⟨by decide +kernel, by decide +kernel, by decide +kernel⟩⟩, qi_X6_take, qs_X6_take⟩
theorem qfX0_50 : Cond.fieldLink RX0 50 "DreamTests$Book" "lines" "I" ∈ z_ws := List.mem_filter.mpr ⟨List.mem_append_right _ (List.mem_of_getElem? (i := 40) (by decide +kernel)), rfl⟩
theorem dX0_readLines_0 : decode cX0_readLines 0 = .ok (.iconst 0, 1) := by decide +kernel
theorem dX0_readLines_1 : decode cX0_readLines 1 = .ok (.istore_n 2, 1) := by decide +kernel
theorem dX0_readLines_2 : decode cX0_readLines 2 = .ok (.iload_n 2, 1) := by decide +kernel
theorem dX0_readLines_3 : decode cX0_readLines 3 = .ok (.sipush 940, 3) := by decide +kernel
theorem dX0_readLines_6 : decode cX0_readLines 6 = .ok (.if_icmp .ge 45, 3) := by decide +kernel
theorem dX0_readLines_9 : decode cX0_readLines 9 = .ok (.aload_n 1, 1) := by decide +kernel
theorem dX0_readLines_10 : decode cX0_readLines 10 = .ok (.getfield 36, 3) := by decide +kernel
theorem dX0_readLines_13 : decode cX0_readLines 13 = .ok (.ifCond .eq 38, 3) := by decide +kernel
theorem dX0_readLines_16 : decode cX0_readLines 16 = .ok (.aload_n 0, 1) := by decide +kernel
theorem dX0_readLines_17 : decode cX0_readLines 17 = .ok (.aload_n 1, 1) := by decide +kernel
theorem dX0_readLines_18 : decode cX0_readLines 18 = .ok (.invokevirtual 42, 3) := by decide +kernel
theorem dX0_readLines_21 : decode cX0_readLines 21 = .ok (.ifCond .eq 12, 3) := by decide +kernel
theorem dX0_readLines_24 : decode cX0_readLines 24 = .ok (.aload_n 1, 1) := by decide +kernel
theorem dX0_readLines_25 : decode cX0_readLines 25 = .ok (.bipush 59, 2) := by decide +kernel
theorem dX0_readLines_27 : decode cX0_readLines 27 = .ok (.invokevirtual 46, 3) := by decide +kernel
theorem dX0_readLines_30 : decode cX0_readLines 30 = .ok (.ifCond .ne 5, 3) := by decide +kernel
theorem dX0_readLines_33 : decode cX0_readLines 33 = .ok (.iconst 0, 1) := by decide +kernel
theorem dX0_readLines_34 : decode cX0_readLines 34 = .ok (.ireturn, 1) := by decide +kernel
theorem dX0_readLines_35 : decode cX0_readLines 35 = .ok (.aload_n 0, 1) := by decide +kernel
theorem dX0_readLines_36 : decode cX0_readLines 36 = .ok (.dup, 1) := by decide +kernel
theorem dX0_readLines_37 : decode cX0_readLines 37 = .ok (.getfield 50, 3) := by decide +kernel
theorem dX0_readLines_40 : decode cX0_readLines 40 = .ok (.iconst 1, 1) := by decide +kernel
theorem dX0_readLines_41 : decode cX0_readLines 41 = .ok (.iadd, 1) := by decide +kernel
theorem dX0_readLines_42 : decode cX0_readLines 42 = .ok (.putfield 50, 3) := by decide +kernel
theorem dX0_readLines_45 : decode cX0_readLines 45 = .ok (.iinc 2 1, 3) := by decide +kernel
theorem dX0_readLines_48 : decode cX0_readLines 48 = .ok (.goto (-46), 3) := by decide +kernel
theorem dX0_readLines_51 : decode cX0_readLines 51 = .ok (.iconst 1, 1) := by decide +kernel
theorem dX0_readLines_52 : decode cX0_readLines 52 = .ok (.ireturn, 1) := by decide +kernel
abbrev rm_X0_readLines : Room := { frames := 6, cells := 0, slots := 0, locals := 140 }
noncomputable def fX0_readLines_b2_i (o0 : Nat) (o1 : Nat) (x2 : Int32) (h : z_T) : Option ((Int32 × z_T) ⊕ (Int32 × z_T)) :=
  y_br ((940 : Int32) ≤ x2)
    (y_mp <|
    some ((1 : Int32), h))
    (y_gd (z_ok h o1 6) <|
    y_br ((z_I h o1 4) = 0)
      (y_mp <|
      some ((1 : Int32), h))
      (y_gd (z_ok h o0 0) <|
      y_bi (fX0_readLine o0 o1 h) fun ⟨r7, h11⟩ =>
      y_br (r7 = 0)
        (y_mp <|
        some ((0 : Int32), h11))
        (y_gd (z_ok h11 o1 6) <|
        y_bi (fX6_take o1 (59 : Int32) h11) fun ⟨r16, h20⟩ =>
        y_br (r16 = 0)
          (y_mp <|
          some ((0 : Int32), h20))
          (y_gd (z_ok h20 o0 0) <|
          y_nm (z_sI h20 o0 0 ((z_I h20 o0 0) + (1 : Int32))) fun h24 =>
          y_nm (x2 + 1) fun v25 =>
          some (.inl (v25, h24))))))
noncomputable def fX0_readLines_b2 (o0 : Nat) (o1 : Nat) (x2 : Int32) (h : z_T) : Option (Int32 × z_T) := y_lp (fun q : Int32 × z_T => fX0_readLines_b2_i o0 o1 q.1 q.2) (x2, h)
noncomputable def fX0_readLines (o0 : Nat) (o1 : Nat) (h : z_T) : Option (Int32 × z_T) :=
  fX0_readLines_b2 o0 o1 (0 : Int32) h
set_option maxHeartbeats 4000000 in
set_option maxRecDepth 100000 in
theorem mm_X0_readLines {G : z_Gt} (hSK : z_SK (z_S G)) (l : Launch) (ad : Nat → Nat) (o0 : Nat) (o1 : Nat) (h : z_T) {r0 : Int32} {h9 : z_T} (hv : fX0_readLines o0 o1 h = some (r0, h9)) : z_Mi G (z_S G) l yX0_readLines cX0_readLines 3 (.boolean) rm_X0_readLines 0 0 [.ref (ad o0), .ref (ad o1)] ad h h9 r0 := by
  refine z_ofW hSK (by decide) (Nat.le_of_ble_eq_true rfl) ?_
  intro p e s m args below meth c ls hc hr hnm hB hl
  have hx := hc.1.1
  have hb := hc.1.2.1
  have hown := hc.1.2.2.2.1
  have hts := hc.1.2.2.2.2
  replace hc : z_C G (z_S G) ad (z_n h) p m c cX0_readLines 3 s args RX0 meth := hc
  replace hown : s.vm.findClass RX0 = some m.cls := hown
  replace hl : lv_has ls 3 [(0, .ref (ad o0)), (1, .ref (ad o1))] := hl
  show W p l e rm_X0_readLines s m args below meth c s.heap [] 0 0 (MQ below (z_Qi G ad h9 (z_n h) s.heap.size r0) args s 0 0 (z_A ad (z_n h) s.heap.size)) (F0 m 0 ls [])
  obtain ⟨rs, kt⟩ : ∃ rs : Int32 × z_T, rs = (r0, h9) := ⟨_, rfl⟩
  generalize hn0 : z_n h = n0 at hc hB ⊢
  have L2 : ∀ (nn2 : Nat) (x2 : Int32) (h : z_T) (H : Heap) (locs : List Loc) (ls : Array Slot), z_B G ad n0 s h H locs → lv_has ls 3 [(0, .ref (ad o0)), (1, .ref (ad o1)), (2, .int x2)] → ∀ vv2, y_lpN (fun q : Int32 × z_T => fX0_readLines_b2_i o0 o1 q.1 q.2) nn2 (x2, h) = some vv2 → vv2 = (r0, h9) → W p l e rm_X0_readLines s m args below meth c H locs 0 0 (MQ below (z_Qi G ad h9 n0 s.heap.size r0) args s 0 0 (z_A ad n0 s.heap.size)) (F0 m 2 ls []) := by
    intro nn2
    induction nn2 with
    | zero => intro x2 h H locs ls hB hl vv2 hv kv2; exact absurd hv (fun q => y_lpN_0 q)
    | succ nn2 ih2 =>
      intro x2 h H locs ls hB hl vv2 hv kv2
      obtain ⟨w, hq, kw2⟩ := y_lpN_e hv
      clear hv
      have hv : fX0_readLines_b2_i o0 o1 x2 h = some w := hq
      clear hq
      refine lv_iload_n hx hb dX0_readLines_2 rfl (lv_at hl 2 rfl) ?_
      refine lv_sipush (v := (940 : Int32)) hx hb dX0_readLines_3 (by decide) ?_
      refine lv_icmp_ge (tgt := 51) hx hb dX0_readLines_6 (by decide) (fun c1 => ?_) (fun c1 => ?_)
      · replace hv := y_br_t hv c1
        obtain ⟨t2, hq, ew⟩ := y_mp_e hv
        clear hv; subst ew
        replace kw2 : t2 = _ := kw2
        subst kw2
        have hv := hq
        clear hq
        refine lv_iconst (v := (1 : Int32)) hx hb dX0_readLines_51 (by decide) ?_
        replace hv := Option.some.inj hv
        subst hv
        obtain ⟨e1, e2⟩ := y_pr kv2
        rw [← e1, ← e2]
        exact z_zret hc hB hr rfl dX0_readLines_52
      · replace hv := y_br_f hv c1
        refine lv_aload_n hx hb dX0_readLines_9 rfl (lv_at hl 1 rfl) ?_
        obtain ⟨g3, hv⟩ := y_gd_e hv
        refine z_getI hc hB 6 4 g3 (by decide) (by decide) rfl (z_l2 hc qfX0_36) dX0_readLines_10 ?_
        refine lv_if_eq (tgt := 51) hx hb dX0_readLines_13 (by decide) (fun c4 => ?_) (fun c4 => ?_)
        · replace hv := y_br_t hv c4
          obtain ⟨t5, hq, ew⟩ := y_mp_e hv
          clear hv; subst ew
          replace kw2 : t5 = _ := kw2
          subst kw2
          have hv := hq
          clear hq
          refine lv_iconst (v := (1 : Int32)) hx hb dX0_readLines_51 (by decide) ?_
          replace hv := Option.some.inj hv
          subst hv
          obtain ⟨e1, e2⟩ := y_pr kv2
          rw [← e1, ← e2]
          exact z_zret hc hB hr rfl dX0_readLines_52
        · replace hv := y_br_f hv c4
          refine lv_aload_n hx hb dX0_readLines_16 rfl (lv_at hl 0 rfl) ?_
          refine lv_aload_n hx hb dX0_readLines_17 rfl (lv_at hl 1 rfl) ?_
          obtain ⟨g12, hv⟩ := y_gd_e hv
          obtain ⟨⟨r7, h11⟩, c6, hv⟩ := y_bi_e hv
          refine z_thI hc hB (z_runV hc hB 0 (mm_X0_readLine hSK l ad o0 o1 h c6) md_X0_readLine qmX0_42 g12 (by decide) rfl rfl rfl ⟨Nat.le_of_ble_eq_true rfl, Nat.le_of_ble_eq_true rfl⟩ rfl hl.1 rfl (Nat.le_of_ble_eq_true rfl) dX0_readLines_18 ⟨Nat.le_of_ble_eq_true rfl, Nat.le_of_ble_eq_true rfl⟩) (fun H locs hB => ?_)
          refine lv_if_eq (tgt := 33) hx hb dX0_readLines_21 (by decide) (fun c13 => ?_) (fun c13 => ?_)
          · replace hv := y_br_t hv c13
            obtain ⟨t14, hq, ew⟩ := y_mp_e hv
            clear hv; subst ew
            replace kw2 : t14 = _ := kw2
            subst kw2
            have hv := hq
            clear hq
            refine lv_iconst (v := (0 : Int32)) hx hb dX0_readLines_33 (by decide) ?_
            replace hv := Option.some.inj hv
            subst hv
            obtain ⟨e1, e2⟩ := y_pr kv2
            rw [← e1, ← e2]
            exact z_zret hc hB hr rfl dX0_readLines_34
          · replace hv := y_br_f hv c13
            refine lv_aload_n hx hb dX0_readLines_24 rfl (lv_at hl 1 rfl) ?_
            refine lv_bipush (v := (59 : Int32)) hx hb dX0_readLines_25 (by decide) ?_
            obtain ⟨g21, hv⟩ := y_gd_e hv
            obtain ⟨⟨r16, h20⟩, c15, hv⟩ := y_bi_e hv
            refine z_thI hc hB (z_runV hc hB 6 (mm_X6_take hSK l ad o1 (59 : Int32) h11 c15) md_X6_take qmX0_46 g21 (by decide) rfl rfl rfl ⟨Nat.le_of_ble_eq_true rfl, Nat.le_of_ble_eq_true rfl⟩ rfl hl.1 rfl (Nat.le_of_ble_eq_true rfl) dX0_readLines_27 ⟨Nat.le_of_ble_eq_true rfl, Nat.le_of_ble_eq_true rfl⟩) (fun H locs hB => ?_)
            refine lv_if_ne (tgt := 35) hx hb dX0_readLines_30 (by decide) (fun c22 => ?_) (fun c22 => ?_)
            · replace hv := y_br_f hv c22
              refine lv_aload_n hx hb dX0_readLines_35 rfl (lv_at hl 0 rfl) ?_
              refine lv_dup hx hb dX0_readLines_36 rfl ?_
              obtain ⟨g23, hv⟩ := y_gd_e hv
              refine z_getI hc hB 0 0 g23 (by decide) (by decide) rfl (z_l1 hc qfX0_50) dX0_readLines_37 ?_
              refine lv_iconst (v := (1 : Int32)) hx hb dX0_readLines_40 (by decide) ?_
              refine lv_iadd hx hb dX0_readLines_41 ?_
              obtain ⟨h24, eh24, hv⟩ := y_nm_e hv
              refine y_putI hc hB 0 0 eh24 g23 (z_l1 hc qfX0_50) dX0_readLines_42 (by decide) (by decide) rfl rfl rfl rfl (fun H locs hB => ?_)
              obtain ⟨v25, ev25, hv⟩ := y_nm_e hv
              refine lv_iinc (v := v25) (lv' := [(2, .int v25), (0, .ref (ad o0)), (1, .ref (ad o1))]) hx hb dX0_readLines_45 hl (k := 2) rfl (by rw [ev25]; rfl) (by decide) rfl (fun ls hl => ?_)
              refine lv_goto (tgt := 2) hx hb dX0_readLines_48 (by decide) ?_
              replace hv := Option.some.inj hv
              subst hv
              exact ih2 v25 h24 _ _ _ hB (lv_sub hl [1, 2, 0] rfl) _ kw2 kv2
            · replace hv := y_br_t hv c22
              obtain ⟨t26, hq, ew⟩ := y_mp_e hv
              clear hv; subst ew
              replace kw2 : t26 = _ := kw2
              subst kw2
              have hv := hq
              clear hq
              refine lv_iconst (v := (0 : Int32)) hx hb dX0_readLines_33 (by decide) ?_
              replace hv := Option.some.inj hv
              subst hv
              obtain ⟨e1, e2⟩ := y_pr kv2
              rw [← e1, ← e2]
              exact z_zret hc hB hr rfl dX0_readLines_34
  rw [← kt] at hv
  refine lv_iconst (v := (0 : Int32)) hx hb dX0_readLines_0 (by decide) ?_
  refine lv_istore_n (lv' := [(2, .int (0 : Int32)), (0, .ref (ad o0)), (1, .ref (ad o1))]) hx hb dX0_readLines_1 rfl hl (by decide) rfl (fun ls hl => ?_)
  obtain ⟨n, hv⟩ := y_lp_e hv
  exact L2 n (0 : Int32) h _ _ _ hB (lv_sub hl [1, 2, 0] rfl) _ hv kt
theorem dX0_hasTest_0 : decode cX0_hasTest 0 = .ok (.iload_n 1, 1) := by decide +kernel
theorem dX0_hasTest_1 : decode cX0_hasTest 1 = .ok (.ifCond .lt 15, 3) := by decide +kernel
theorem dX0_hasTest_4 : decode cX0_hasTest 4 = .ok (.iload_n 1, 1) := by decide +kernel
theorem dX0_hasTest_5 : decode cX0_hasTest 5 = .ok (.aload_n 0, 1) := by decide +kernel
theorem dX0_hasTest_6 : decode cX0_hasTest 6 = .ok (.getfield 79, 3) := by decide +kernel
theorem dX0_hasTest_9 : decode cX0_hasTest 9 = .ok (.if_icmp .ge 7, 3) := by decide +kernel
theorem dX0_hasTest_12 : decode cX0_hasTest 12 = .ok (.iconst 1, 1) := by decide +kernel
theorem dX0_hasTest_13 : decode cX0_hasTest 13 = .ok (.goto 4, 3) := by decide +kernel
theorem dX0_hasTest_16 : decode cX0_hasTest 16 = .ok (.iconst 0, 1) := by decide +kernel
theorem dX0_hasTest_17 : decode cX0_hasTest 17 = .ok (.ireturn, 1) := by decide +kernel
abbrev rm_X0_hasTest : Room := { frames := 0, cells := 0, slots := 0, locals := 0 }
noncomputable def fX0_hasTest_b16  (h : z_T) : Option (Int32) :=
  some (0 : Int32)
noncomputable def fX0_hasTest (o0 : Nat) (x1 : Int32) (h : z_T) : Option (Int32) :=
  y_br (x1 < 0)
    (fX0_hasTest_b16 h)
    (y_gd (z_ok h o0 0) <|
    y_br ((z_I h o0 1) ≤ x1)
      (fX0_hasTest_b16 h)
      (some (1 : Int32)))
set_option maxHeartbeats 4000000 in
set_option maxRecDepth 100000 in
theorem mm_X0_hasTest {G : z_Gt} (hSK : z_SK (z_S G)) (l : Launch) (ad : Nat → Nat) (o0 : Nat) (x1 : Int32) (h : z_T) {r0 : Int32} (hv : fX0_hasTest o0 x1 h = some r0) : z_Mi G (z_S G) l yX0_hasTest cX0_hasTest 2 (.boolean) rm_X0_hasTest 0 0 [.ref (ad o0), .int x1] ad h h r0 := by
  refine z_ofW hSK (by decide) (Nat.le_of_ble_eq_true rfl) ?_
  intro p e s m args below meth c ls hc hr hnm hB hl
  have hx := hc.1.1
  have hb := hc.1.2.1
  have hown := hc.1.2.2.2.1
  have hts := hc.1.2.2.2.2
  replace hc : z_C G (z_S G) ad (z_n h) p m c cX0_hasTest 2 s args RX0 meth := hc
  replace hown : s.vm.findClass RX0 = some m.cls := hown
  replace hl : lv_has ls 2 [(0, .ref (ad o0)), (1, .int x1)] := hl
  show W p l e rm_X0_hasTest s m args below meth c s.heap [] 0 0 (MQ below (z_Qi G ad h (z_n h) s.heap.size r0) args s 0 0 (z_A ad (z_n h) s.heap.size)) (F0 m 0 ls [])
  obtain ⟨rs, kt⟩ : ∃ rs : Int32, rs = r0 := ⟨_, rfl⟩
  generalize hn0 : z_n h = n0 at hc hB ⊢
  have b16 : ∀ (H : Heap) (locs : List Loc) (ls : Array Slot), z_B G ad n0 s h H locs → lv_has ls 2 [] → ∀ w, fX0_hasTest_b16 h = some w → w = r0 → W p l e rm_X0_hasTest s m args below meth c H locs 0 0 (MQ below (z_Qi G ad h n0 s.heap.size r0) args s 0 0 (z_A ad n0 s.heap.size)) (F0 m 16 ls []) := by
    intro H locs ls hB hl w hv kb
    refine lv_iconst (v := (0 : Int32)) hx hb dX0_hasTest_16 (by decide) ?_
    replace hv := Option.some.inj hv
    subst hv
    rw [← kb]
    exact z_zret hc hB hr rfl dX0_hasTest_17
  rw [← kt] at hv
  refine lv_iload_n hx hb dX0_hasTest_0 rfl (lv_at hl 1 rfl) ?_
  refine lv_if_lt (tgt := 16) hx hb dX0_hasTest_1 (by decide) (fun c1 => ?_) (fun c1 => ?_)
  · replace hv := y_br_t hv c1
    exact b16 _ _ _ hB (lv_sub hl [] rfl) _ hv kt
  · replace hv := y_br_f hv c1
    refine lv_iload_n hx hb dX0_hasTest_4 rfl (lv_at hl 1 rfl) ?_
    refine lv_aload_n hx hb dX0_hasTest_5 rfl (lv_at hl 0 rfl) ?_
    obtain ⟨g2, hv⟩ := y_gd_e hv
    refine z_getI hc hB 0 1 g2 (by decide) (by decide) rfl (z_l1 hc qfX0_79) dX0_hasTest_6 ?_
    refine lv_icmp_ge (tgt := 16) hx hb dX0_hasTest_9 (by decide) (fun c3 => ?_) (fun c3 => ?_)
    · replace hv := y_br_t hv c3
      exact b16 _ _ _ hB (lv_sub hl [] rfl) _ hv kt
    · replace hv := y_br_f hv c3
      refine lv_iconst (v := (1 : Int32)) hx hb dX0_hasTest_12 (by decide) ?_
      refine lv_goto (tgt := 17) hx hb dX0_hasTest_13 (by decide) ?_
      replace hv := Option.some.inj hv
      subst hv
      rw [← kt]
      exact z_zret hc hB hr rfl dX0_hasTest_17
theorem dX0_hasTests_0 : decode cX0_hasTests 0 = .ok (.iload_n 1, 1) := by decide +kernel
theorem dX0_hasTests_1 : decode cX0_hasTests 1 = .ok (.ifCond .lt 16, 3) := by decide +kernel
theorem dX0_hasTests_4 : decode cX0_hasTests 4 = .ok (.iload_n 1, 1) := by decide +kernel
theorem dX0_hasTests_5 : decode cX0_hasTests 5 = .ok (.aload_n 0, 1) := by decide +kernel
theorem dX0_hasTests_6 : decode cX0_hasTests 6 = .ok (.getfield 79, 3) := by decide +kernel
theorem dX0_hasTests_9 : decode cX0_hasTests 9 = .ok (.ishr, 1) := by decide +kernel
theorem dX0_hasTests_10 : decode cX0_hasTests 10 = .ok (.ifCond .ne 7, 3) := by decide +kernel
theorem dX0_hasTests_13 : decode cX0_hasTests 13 = .ok (.iconst 1, 1) := by decide +kernel
theorem dX0_hasTests_14 : decode cX0_hasTests 14 = .ok (.goto 4, 3) := by decide +kernel
theorem dX0_hasTests_17 : decode cX0_hasTests 17 = .ok (.iconst 0, 1) := by decide +kernel
theorem dX0_hasTests_18 : decode cX0_hasTests 18 = .ok (.ireturn, 1) := by decide +kernel
abbrev rm_X0_hasTests : Room := { frames := 0, cells := 0, slots := 0, locals := 0 }
noncomputable def fX0_hasTests_b17  (h : z_T) : Option (Int32) :=
  some (0 : Int32)
noncomputable def fX0_hasTests (o0 : Nat) (x1 : Int32) (h : z_T) : Option (Int32) :=
  y_br (x1 < 0)
    (fX0_hasTests_b17 h)
    (y_gd (z_ok h o0 0) <|
    y_br ((x1 >>> ((z_I h o0 1) &&& 31)) = 0)
      (some (1 : Int32))
      (fX0_hasTests_b17 h))
set_option maxHeartbeats 4000000 in
set_option maxRecDepth 100000 in
theorem mm_X0_hasTests {G : z_Gt} (hSK : z_SK (z_S G)) (l : Launch) (ad : Nat → Nat) (o0 : Nat) (x1 : Int32) (h : z_T) {r0 : Int32} (hv : fX0_hasTests o0 x1 h = some r0) : z_Mi G (z_S G) l yX0_hasTests cX0_hasTests 2 (.boolean) rm_X0_hasTests 0 0 [.ref (ad o0), .int x1] ad h h r0 := by
  refine z_ofW hSK (by decide) (Nat.le_of_ble_eq_true rfl) ?_
  intro p e s m args below meth c ls hc hr hnm hB hl
  have hx := hc.1.1
  have hb := hc.1.2.1
  have hown := hc.1.2.2.2.1
  have hts := hc.1.2.2.2.2
  replace hc : z_C G (z_S G) ad (z_n h) p m c cX0_hasTests 2 s args RX0 meth := hc
  replace hown : s.vm.findClass RX0 = some m.cls := hown
  replace hl : lv_has ls 2 [(0, .ref (ad o0)), (1, .int x1)] := hl
  show W p l e rm_X0_hasTests s m args below meth c s.heap [] 0 0 (MQ below (z_Qi G ad h (z_n h) s.heap.size r0) args s 0 0 (z_A ad (z_n h) s.heap.size)) (F0 m 0 ls [])
  obtain ⟨rs, kt⟩ : ∃ rs : Int32, rs = r0 := ⟨_, rfl⟩
  generalize hn0 : z_n h = n0 at hc hB ⊢
  have b17 : ∀ (H : Heap) (locs : List Loc) (ls : Array Slot), z_B G ad n0 s h H locs → lv_has ls 2 [] → ∀ w, fX0_hasTests_b17 h = some w → w = r0 → W p l e rm_X0_hasTests s m args below meth c H locs 0 0 (MQ below (z_Qi G ad h n0 s.heap.size r0) args s 0 0 (z_A ad n0 s.heap.size)) (F0 m 17 ls []) := by
    intro H locs ls hB hl w hv kb
    refine lv_iconst (v := (0 : Int32)) hx hb dX0_hasTests_17 (by decide) ?_
    replace hv := Option.some.inj hv
    subst hv
    rw [← kb]
    exact z_zret hc hB hr rfl dX0_hasTests_18
  rw [← kt] at hv
  refine lv_iload_n hx hb dX0_hasTests_0 rfl (lv_at hl 1 rfl) ?_
  refine lv_if_lt (tgt := 17) hx hb dX0_hasTests_1 (by decide) (fun c1 => ?_) (fun c1 => ?_)
  · replace hv := y_br_t hv c1
    exact b17 _ _ _ hB (lv_sub hl [] rfl) _ hv kt
  · replace hv := y_br_f hv c1
    refine lv_iload_n hx hb dX0_hasTests_4 rfl (lv_at hl 1 rfl) ?_
    refine lv_aload_n hx hb dX0_hasTests_5 rfl (lv_at hl 0 rfl) ?_
    obtain ⟨g2, hv⟩ := y_gd_e hv
    refine z_getI hc hB 0 1 g2 (by decide) (by decide) rfl (z_l1 hc qfX0_79) dX0_hasTests_6 ?_
    refine lv_ishr hx hb dX0_hasTests_9 ?_
    refine lv_if_ne (tgt := 17) hx hb dX0_hasTests_10 (by decide) (fun c3 => ?_) (fun c3 => ?_)
    · replace hv := y_br_f hv c3
      exact b17 _ _ _ hB (lv_sub hl [] rfl) _ hv kt
    · replace hv := y_br_t hv c3
      refine lv_iconst (v := (1 : Int32)) hx hb dX0_hasTests_13 (by decide) ?_
      refine lv_goto (tgt := 18) hx hb dX0_hasTests_14 (by decide) ?_
      replace hv := Option.some.inj hv
      subst hv
      rw [← kt]
      exact z_zret hc hB hr rfl dX0_hasTests_18
theorem dX0_hasDream_0 : decode cX0_hasDream 0 = .ok (.iload_n 1, 1) := by decide +kernel
theorem dX0_hasDream_1 : decode cX0_hasDream 1 = .ok (.ifCond .lt 15, 3) := by decide +kernel
theorem dX0_hasDream_4 : decode cX0_hasDream 4 = .ok (.iload_n 1, 1) := by decide +kernel
theorem dX0_hasDream_5 : decode cX0_hasDream 5 = .ok (.aload_n 0, 1) := by decide +kernel
theorem dX0_hasDream_6 : decode cX0_hasDream 6 = .ok (.getfield 99, 3) := by decide +kernel
theorem dX0_hasDream_9 : decode cX0_hasDream 9 = .ok (.if_icmp .ge 7, 3) := by decide +kernel
theorem dX0_hasDream_12 : decode cX0_hasDream 12 = .ok (.iconst 1, 1) := by decide +kernel
theorem dX0_hasDream_13 : decode cX0_hasDream 13 = .ok (.goto 4, 3) := by decide +kernel
theorem dX0_hasDream_16 : decode cX0_hasDream 16 = .ok (.iconst 0, 1) := by decide +kernel
theorem dX0_hasDream_17 : decode cX0_hasDream 17 = .ok (.ireturn, 1) := by decide +kernel
abbrev rm_X0_hasDream : Room := { frames := 0, cells := 0, slots := 0, locals := 0 }
noncomputable def fX0_hasDream_b16  (h : z_T) : Option (Int32) :=
  some (0 : Int32)
noncomputable def fX0_hasDream (o0 : Nat) (x1 : Int32) (h : z_T) : Option (Int32) :=
  y_br (x1 < 0)
    (fX0_hasDream_b16 h)
    (y_gd (z_ok h o0 0) <|
    y_br ((z_I h o0 2) ≤ x1)
      (fX0_hasDream_b16 h)
      (some (1 : Int32)))
set_option maxHeartbeats 4000000 in
set_option maxRecDepth 100000 in
theorem mm_X0_hasDream {G : z_Gt} (hSK : z_SK (z_S G)) (l : Launch) (ad : Nat → Nat) (o0 : Nat) (x1 : Int32) (h : z_T) {r0 : Int32} (hv : fX0_hasDream o0 x1 h = some r0) : z_Mi G (z_S G) l yX0_hasDream cX0_hasDream 2 (.boolean) rm_X0_hasDream 0 0 [.ref (ad o0), .int x1] ad h h r0 := by
  refine z_ofW hSK (by decide) (Nat.le_of_ble_eq_true rfl) ?_
  intro p e s m args below meth c ls hc hr hnm hB hl
  have hx := hc.1.1
  have hb := hc.1.2.1
  have hown := hc.1.2.2.2.1
  have hts := hc.1.2.2.2.2
  replace hc : z_C G (z_S G) ad (z_n h) p m c cX0_hasDream 2 s args RX0 meth := hc
  replace hown : s.vm.findClass RX0 = some m.cls := hown
  replace hl : lv_has ls 2 [(0, .ref (ad o0)), (1, .int x1)] := hl
  show W p l e rm_X0_hasDream s m args below meth c s.heap [] 0 0 (MQ below (z_Qi G ad h (z_n h) s.heap.size r0) args s 0 0 (z_A ad (z_n h) s.heap.size)) (F0 m 0 ls [])
  obtain ⟨rs, kt⟩ : ∃ rs : Int32, rs = r0 := ⟨_, rfl⟩
  generalize hn0 : z_n h = n0 at hc hB ⊢
  have b16 : ∀ (H : Heap) (locs : List Loc) (ls : Array Slot), z_B G ad n0 s h H locs → lv_has ls 2 [] → ∀ w, fX0_hasDream_b16 h = some w → w = r0 → W p l e rm_X0_hasDream s m args below meth c H locs 0 0 (MQ below (z_Qi G ad h n0 s.heap.size r0) args s 0 0 (z_A ad n0 s.heap.size)) (F0 m 16 ls []) := by
    intro H locs ls hB hl w hv kb
    refine lv_iconst (v := (0 : Int32)) hx hb dX0_hasDream_16 (by decide) ?_
    replace hv := Option.some.inj hv
    subst hv
    rw [← kb]
    exact z_zret hc hB hr rfl dX0_hasDream_17
  rw [← kt] at hv
  refine lv_iload_n hx hb dX0_hasDream_0 rfl (lv_at hl 1 rfl) ?_
  refine lv_if_lt (tgt := 16) hx hb dX0_hasDream_1 (by decide) (fun c1 => ?_) (fun c1 => ?_)
  · replace hv := y_br_t hv c1
    exact b16 _ _ _ hB (lv_sub hl [] rfl) _ hv kt
  · replace hv := y_br_f hv c1
    refine lv_iload_n hx hb dX0_hasDream_4 rfl (lv_at hl 1 rfl) ?_
    refine lv_aload_n hx hb dX0_hasDream_5 rfl (lv_at hl 0 rfl) ?_
    obtain ⟨g2, hv⟩ := y_gd_e hv
    refine z_getI hc hB 0 2 g2 (by decide) (by decide) rfl (z_l1 hc qfX0_99) dX0_hasDream_6 ?_
    refine lv_icmp_ge (tgt := 16) hx hb dX0_hasDream_9 (by decide) (fun c3 => ?_) (fun c3 => ?_)
    · replace hv := y_br_t hv c3
      exact b16 _ _ _ hB (lv_sub hl [] rfl) _ hv kt
    · replace hv := y_br_f hv c3
      refine lv_iconst (v := (1 : Int32)) hx hb dX0_hasDream_12 (by decide) ?_
      refine lv_goto (tgt := 17) hx hb dX0_hasDream_13 (by decide) ?_
      replace hv := Option.some.inj hv
      subst hv
      rw [← kt]
      exact z_zret hc hB hr rfl dX0_hasDream_17
theorem dX0_setting_0 : decode cX0_setting 0 = .ok (.iload_n 1, 1) := by decide +kernel
theorem dX0_setting_1 : decode cX0_setting 1 = .ok (.ifCond .lt 21, 3) := by decide +kernel
theorem dX0_setting_4 : decode cX0_setting 4 = .ok (.iload_n 1, 1) := by decide +kernel
theorem dX0_setting_5 : decode cX0_setting 5 = .ok (.aload_n 0, 1) := by decide +kernel
theorem dX0_setting_6 : decode cX0_setting 6 = .ok (.getfield 9, 3) := by decide +kernel
theorem dX0_setting_9 : decode cX0_setting 9 = .ok (.arraylength, 1) := by decide +kernel
theorem dX0_setting_10 : decode cX0_setting 10 = .ok (.if_icmp .ge 12, 3) := by decide +kernel
theorem dX0_setting_13 : decode cX0_setting 13 = .ok (.aload_n 0, 1) := by decide +kernel
theorem dX0_setting_14 : decode cX0_setting 14 = .ok (.getfield 9, 3) := by decide +kernel
theorem dX0_setting_17 : decode cX0_setting 17 = .ok (.iload_n 1, 1) := by decide +kernel
theorem dX0_setting_18 : decode cX0_setting 18 = .ok (.iaload, 1) := by decide +kernel
theorem dX0_setting_19 : decode cX0_setting 19 = .ok (.goto 4, 3) := by decide +kernel
theorem dX0_setting_22 : decode cX0_setting 22 = .ok (.iconst 0, 1) := by decide +kernel
theorem dX0_setting_23 : decode cX0_setting 23 = .ok (.ireturn, 1) := by decide +kernel
abbrev rm_X0_setting : Room := { frames := 0, cells := 0, slots := 0, locals := 0 }
noncomputable def fX0_setting_b22  (h : z_T) : Option (Int32) :=
  some (0 : Int32)
noncomputable def fX0_setting (o0 : Nat) (x1 : Int32) (h : z_T) : Option (Int32) :=
  y_br (x1 < 0)
    (fX0_setting_b22 h)
    (y_gd (z_ok h o0 0) <|
    y_bi (z_R h o0 4) fun o3 =>
    y_gd (z_ok h o3 13) <|
    y_br ((nI (z_N h o3)) ≤ x1)
      (fX0_setting_b22 h)
      (y_gd (z_ix x1 (z_N h o3)) <|
      some (z_I h o3 x1.toNatClampNeg)))
set_option maxHeartbeats 4000000 in
set_option maxRecDepth 100000 in
theorem mm_X0_setting {G : z_Gt} (hSK : z_SK (z_S G)) (l : Launch) (ad : Nat → Nat) (o0 : Nat) (x1 : Int32) (h : z_T) {r0 : Int32} (hv : fX0_setting o0 x1 h = some r0) : z_Mi G (z_S G) l yX0_setting cX0_setting 2 (.int) rm_X0_setting 0 0 [.ref (ad o0), .int x1] ad h h r0 := by
  refine z_ofW hSK (by decide) (Nat.le_of_ble_eq_true rfl) ?_
  intro p e s m args below meth c ls hc hr hnm hB hl
  have hx := hc.1.1
  have hb := hc.1.2.1
  have hown := hc.1.2.2.2.1
  have hts := hc.1.2.2.2.2
  replace hc : z_C G (z_S G) ad (z_n h) p m c cX0_setting 2 s args RX0 meth := hc
  replace hown : s.vm.findClass RX0 = some m.cls := hown
  replace hl : lv_has ls 2 [(0, .ref (ad o0)), (1, .int x1)] := hl
  show W p l e rm_X0_setting s m args below meth c s.heap [] 0 0 (MQ below (z_Qi G ad h (z_n h) s.heap.size r0) args s 0 0 (z_A ad (z_n h) s.heap.size)) (F0 m 0 ls [])
  obtain ⟨rs, kt⟩ : ∃ rs : Int32, rs = r0 := ⟨_, rfl⟩
  generalize hn0 : z_n h = n0 at hc hB ⊢
  have b22 : ∀ (H : Heap) (locs : List Loc) (ls : Array Slot), z_B G ad n0 s h H locs → lv_has ls 2 [] → ∀ w, fX0_setting_b22 h = some w → w = r0 → W p l e rm_X0_setting s m args below meth c H locs 0 0 (MQ below (z_Qi G ad h n0 s.heap.size r0) args s 0 0 (z_A ad n0 s.heap.size)) (F0 m 22 ls []) := by
    intro H locs ls hB hl w hv kb
    refine lv_iconst (v := (0 : Int32)) hx hb dX0_setting_22 (by decide) ?_
    replace hv := Option.some.inj hv
    subst hv
    rw [← kb]
    exact z_iret hc hB hr dX0_setting_23
  rw [← kt] at hv
  refine lv_iload_n hx hb dX0_setting_0 rfl (lv_at hl 1 rfl) ?_
  refine lv_if_lt (tgt := 22) hx hb dX0_setting_1 (by decide) (fun c1 => ?_) (fun c1 => ?_)
  · replace hv := y_br_t hv c1
    exact b22 _ _ _ hB (lv_sub hl [] rfl) _ hv kt
  · replace hv := y_br_f hv c1
    refine lv_iload_n hx hb dX0_setting_4 rfl (lv_at hl 1 rfl) ?_
    refine lv_aload_n hx hb dX0_setting_5 rfl (lv_at hl 0 rfl) ?_
    obtain ⟨g2, hv⟩ := y_gd_e hv
    obtain ⟨o3, eo3, hv⟩ := y_bi_e hv
    refine z_getR hc hB 0 4 g2 eo3 (by decide) (by decide) rfl (z_l1 hc qfX0_9) dX0_setting_6 ?_
    obtain ⟨g4, hv⟩ := y_gd_e hv
    refine z_alen hc hB 13 (by decide) (by decide) g4 dX0_setting_9 ?_
    refine lv_icmp_ge (tgt := 22) hx hb dX0_setting_10 (by decide) (fun c5 => ?_) (fun c5 => ?_)
    · replace hv := y_br_t hv c5
      exact b22 _ _ _ hB (lv_sub hl [] rfl) _ hv kt
    · replace hv := y_br_f hv c5
      refine lv_aload_n hx hb dX0_setting_13 rfl (lv_at hl 0 rfl) ?_
      refine z_getR hc hB 0 4 g2 eo3 (by decide) (by decide) rfl (z_l1 hc qfX0_9) dX0_setting_14 ?_
      refine lv_iload_n hx hb dX0_setting_17 rfl (lv_at hl 1 rfl) ?_
      obtain ⟨i6, hv⟩ := y_gd_e hv
      refine z_iald hc hB g4 i6 dX0_setting_18 ?_
      refine lv_goto (tgt := 23) hx hb dX0_setting_19 (by decide) ?_
      replace hv := Option.some.inj hv
      subst hv
      rw [← kt]
      exact z_iret hc hB hr dX0_setting_23
theorem dX0_nameOf_0 : decode cX0_nameOf 0 = .ok (.iload_n 1, 1) := by decide +kernel
theorem dX0_nameOf_1 : decode cX0_nameOf 1 = .ok (.ifCond .lt 21, 3) := by decide +kernel
theorem dX0_nameOf_4 : decode cX0_nameOf 4 = .ok (.iload_n 1, 1) := by decide +kernel
theorem dX0_nameOf_5 : decode cX0_nameOf 5 = .ok (.aload_n 0, 1) := by decide +kernel
theorem dX0_nameOf_6 : decode cX0_nameOf 6 = .ok (.getfield 15, 3) := by decide +kernel
theorem dX0_nameOf_9 : decode cX0_nameOf 9 = .ok (.arraylength, 1) := by decide +kernel
theorem dX0_nameOf_10 : decode cX0_nameOf 10 = .ok (.if_icmp .ge 12, 3) := by decide +kernel
theorem dX0_nameOf_13 : decode cX0_nameOf 13 = .ok (.aload_n 0, 1) := by decide +kernel
theorem dX0_nameOf_14 : decode cX0_nameOf 14 = .ok (.getfield 15, 3) := by decide +kernel
theorem dX0_nameOf_17 : decode cX0_nameOf 17 = .ok (.iload_n 1, 1) := by decide +kernel
theorem dX0_nameOf_18 : decode cX0_nameOf 18 = .ok (.laload, 1) := by decide +kernel
theorem dX0_nameOf_19 : decode cX0_nameOf 19 = .ok (.goto 4, 3) := by decide +kernel
theorem dX0_nameOf_22 : decode cX0_nameOf 22 = .ok (.lconst 0, 1) := by decide +kernel
theorem dX0_nameOf_23 : decode cX0_nameOf 23 = .ok (.lreturn, 1) := by decide +kernel
abbrev rm_X0_nameOf : Room := { frames := 0, cells := 0, slots := 0, locals := 0 }
noncomputable def fX0_nameOf_b22  (h : z_T) : Option (Int64) :=
  some (0 : Int64)
noncomputable def fX0_nameOf (o0 : Nat) (x1 : Int32) (h : z_T) : Option (Int64) :=
  y_br (x1 < 0)
    (fX0_nameOf_b22 h)
    (y_gd (z_ok h o0 0) <|
    y_bi (z_R h o0 5) fun o3 =>
    y_gd (z_ok h o3 14) <|
    y_br ((nI (z_N h o3)) ≤ x1)
      (fX0_nameOf_b22 h)
      (y_gd (z_ix x1 (z_N h o3)) <|
      some (z_L h o3 x1.toNatClampNeg)))
set_option maxHeartbeats 4000000 in
set_option maxRecDepth 100000 in
theorem mm_X0_nameOf {G : z_Gt} (hSK : z_SK (z_S G)) (l : Launch) (ad : Nat → Nat) (o0 : Nat) (x1 : Int32) (h : z_T) {r0 : Int64} (hv : fX0_nameOf o0 x1 h = some r0) : z_Ml G (z_S G) l yX0_nameOf cX0_nameOf 2 (.long) rm_X0_nameOf 0 0 [.ref (ad o0), .int x1] ad h h r0 := by
  refine z_ofW hSK (by decide) (Nat.le_of_ble_eq_true rfl) ?_
  intro p e s m args below meth c ls hc hr hnm hB hl
  have hx := hc.1.1
  have hb := hc.1.2.1
  have hown := hc.1.2.2.2.1
  have hts := hc.1.2.2.2.2
  replace hc : z_C G (z_S G) ad (z_n h) p m c cX0_nameOf 2 s args RX0 meth := hc
  replace hown : s.vm.findClass RX0 = some m.cls := hown
  replace hl : lv_has ls 2 [(0, .ref (ad o0)), (1, .int x1)] := hl
  show W p l e rm_X0_nameOf s m args below meth c s.heap [] 0 0 (MQ below (z_Ql G ad h (z_n h) s.heap.size r0) args s 0 0 (z_A ad (z_n h) s.heap.size)) (F0 m 0 ls [])
  obtain ⟨rs, kt⟩ : ∃ rs : Int64, rs = r0 := ⟨_, rfl⟩
  generalize hn0 : z_n h = n0 at hc hB ⊢
  have b22 : ∀ (H : Heap) (locs : List Loc) (ls : Array Slot), z_B G ad n0 s h H locs → lv_has ls 2 [] → ∀ w, fX0_nameOf_b22 h = some w → w = r0 → W p l e rm_X0_nameOf s m args below meth c H locs 0 0 (MQ below (z_Ql G ad h n0 s.heap.size r0) args s 0 0 (z_A ad n0 s.heap.size)) (F0 m 22 ls []) := by
    intro H locs ls hB hl w hv kb
    refine lv_lconst (v := (0 : Int64)) hx hb dX0_nameOf_22 (by decide) ?_
    replace hv := Option.some.inj hv
    subst hv
    rw [← kb]
    exact z_lret hc hB hr dX0_nameOf_23
  rw [← kt] at hv
  refine lv_iload_n hx hb dX0_nameOf_0 rfl (lv_at hl 1 rfl) ?_
  refine lv_if_lt (tgt := 22) hx hb dX0_nameOf_1 (by decide) (fun c1 => ?_) (fun c1 => ?_)
  · replace hv := y_br_t hv c1
    exact b22 _ _ _ hB (lv_sub hl [] rfl) _ hv kt
  · replace hv := y_br_f hv c1
    refine lv_iload_n hx hb dX0_nameOf_4 rfl (lv_at hl 1 rfl) ?_
    refine lv_aload_n hx hb dX0_nameOf_5 rfl (lv_at hl 0 rfl) ?_
    obtain ⟨g2, hv⟩ := y_gd_e hv
    obtain ⟨o3, eo3, hv⟩ := y_bi_e hv
    refine z_getR hc hB 0 5 g2 eo3 (by decide) (by decide) rfl (z_l1 hc qfX0_15) dX0_nameOf_6 ?_
    obtain ⟨g4, hv⟩ := y_gd_e hv
    refine z_alen hc hB 14 (by decide) (by decide) g4 dX0_nameOf_9 ?_
    refine lv_icmp_ge (tgt := 22) hx hb dX0_nameOf_10 (by decide) (fun c5 => ?_) (fun c5 => ?_)
    · replace hv := y_br_t hv c5
      exact b22 _ _ _ hB (lv_sub hl [] rfl) _ hv kt
    · replace hv := y_br_f hv c5
      refine lv_aload_n hx hb dX0_nameOf_13 rfl (lv_at hl 0 rfl) ?_
      refine z_getR hc hB 0 5 g2 eo3 (by decide) (by decide) rfl (z_l1 hc qfX0_15) dX0_nameOf_14 ?_
      refine lv_iload_n hx hb dX0_nameOf_17 rfl (lv_at hl 1 rfl) ?_
      obtain ⟨i6, hv⟩ := y_gd_e hv
      refine z_lald hc hB g4 i6 dX0_nameOf_18 ?_
      refine lv_goto (tgt := 23) hx hb dX0_nameOf_19 (by decide) ?_
      replace hv := Option.some.inj hv
      subst hv
      rw [← kt]
      exact z_lret hc hB hr dX0_nameOf_23
theorem dX0_inRoom_0 : decode cX0_inRoom 0 = .ok (.iload_n 1, 1) := by decide +kernel
theorem dX0_inRoom_1 : decode cX0_inRoom 1 = .ok (.ifCond .lt 21, 3) := by decide +kernel
theorem dX0_inRoom_4 : decode cX0_inRoom 4 = .ok (.iload_n 1, 1) := by decide +kernel
theorem dX0_inRoom_5 : decode cX0_inRoom 5 = .ok (.aload_n 0, 1) := by decide +kernel
theorem dX0_inRoom_6 : decode cX0_inRoom 6 = .ok (.getfield 19, 3) := by decide +kernel
theorem dX0_inRoom_9 : decode cX0_inRoom 9 = .ok (.arraylength, 1) := by decide +kernel
theorem dX0_inRoom_10 : decode cX0_inRoom 10 = .ok (.if_icmp .ge 12, 3) := by decide +kernel
theorem dX0_inRoom_13 : decode cX0_inRoom 13 = .ok (.aload_n 0, 1) := by decide +kernel
theorem dX0_inRoom_14 : decode cX0_inRoom 14 = .ok (.getfield 19, 3) := by decide +kernel
theorem dX0_inRoom_17 : decode cX0_inRoom 17 = .ok (.iload_n 1, 1) := by decide +kernel
theorem dX0_inRoom_18 : decode cX0_inRoom 18 = .ok (.iaload, 1) := by decide +kernel
theorem dX0_inRoom_19 : decode cX0_inRoom 19 = .ok (.goto 4, 3) := by decide +kernel
theorem dX0_inRoom_22 : decode cX0_inRoom 22 = .ok (.iconst 0, 1) := by decide +kernel
theorem dX0_inRoom_23 : decode cX0_inRoom 23 = .ok (.ireturn, 1) := by decide +kernel
abbrev rm_X0_inRoom : Room := { frames := 0, cells := 0, slots := 0, locals := 0 }
noncomputable def fX0_inRoom_b22  (h : z_T) : Option (Int32) :=
  some (0 : Int32)
noncomputable def fX0_inRoom (o0 : Nat) (x1 : Int32) (h : z_T) : Option (Int32) :=
  y_br (x1 < 0)
    (fX0_inRoom_b22 h)
    (y_gd (z_ok h o0 0) <|
    y_bi (z_R h o0 6) fun o3 =>
    y_gd (z_ok h o3 13) <|
    y_br ((nI (z_N h o3)) ≤ x1)
      (fX0_inRoom_b22 h)
      (y_gd (z_ix x1 (z_N h o3)) <|
      some (z_I h o3 x1.toNatClampNeg)))
set_option maxHeartbeats 4000000 in
set_option maxRecDepth 100000 in
theorem mm_X0_inRoom {G : z_Gt} (hSK : z_SK (z_S G)) (l : Launch) (ad : Nat → Nat) (o0 : Nat) (x1 : Int32) (h : z_T) {r0 : Int32} (hv : fX0_inRoom o0 x1 h = some r0) : z_Mi G (z_S G) l yX0_inRoom cX0_inRoom 2 (.int) rm_X0_inRoom 0 0 [.ref (ad o0), .int x1] ad h h r0 := by
  refine z_ofW hSK (by decide) (Nat.le_of_ble_eq_true rfl) ?_
  intro p e s m args below meth c ls hc hr hnm hB hl
  have hx := hc.1.1
  have hb := hc.1.2.1
  have hown := hc.1.2.2.2.1
  have hts := hc.1.2.2.2.2
  replace hc : z_C G (z_S G) ad (z_n h) p m c cX0_inRoom 2 s args RX0 meth := hc
  replace hown : s.vm.findClass RX0 = some m.cls := hown
  replace hl : lv_has ls 2 [(0, .ref (ad o0)), (1, .int x1)] := hl
  show W p l e rm_X0_inRoom s m args below meth c s.heap [] 0 0 (MQ below (z_Qi G ad h (z_n h) s.heap.size r0) args s 0 0 (z_A ad (z_n h) s.heap.size)) (F0 m 0 ls [])
  obtain ⟨rs, kt⟩ : ∃ rs : Int32, rs = r0 := ⟨_, rfl⟩
  generalize hn0 : z_n h = n0 at hc hB ⊢
  have b22 : ∀ (H : Heap) (locs : List Loc) (ls : Array Slot), z_B G ad n0 s h H locs → lv_has ls 2 [] → ∀ w, fX0_inRoom_b22 h = some w → w = r0 → W p l e rm_X0_inRoom s m args below meth c H locs 0 0 (MQ below (z_Qi G ad h n0 s.heap.size r0) args s 0 0 (z_A ad n0 s.heap.size)) (F0 m 22 ls []) := by
    intro H locs ls hB hl w hv kb
    refine lv_iconst (v := (0 : Int32)) hx hb dX0_inRoom_22 (by decide) ?_
    replace hv := Option.some.inj hv
    subst hv
    rw [← kb]
    exact z_iret hc hB hr dX0_inRoom_23
  rw [← kt] at hv
  refine lv_iload_n hx hb dX0_inRoom_0 rfl (lv_at hl 1 rfl) ?_
  refine lv_if_lt (tgt := 22) hx hb dX0_inRoom_1 (by decide) (fun c1 => ?_) (fun c1 => ?_)
  · replace hv := y_br_t hv c1
    exact b22 _ _ _ hB (lv_sub hl [] rfl) _ hv kt
  · replace hv := y_br_f hv c1
    refine lv_iload_n hx hb dX0_inRoom_4 rfl (lv_at hl 1 rfl) ?_
    refine lv_aload_n hx hb dX0_inRoom_5 rfl (lv_at hl 0 rfl) ?_
    obtain ⟨g2, hv⟩ := y_gd_e hv
    obtain ⟨o3, eo3, hv⟩ := y_bi_e hv
    refine z_getR hc hB 0 6 g2 eo3 (by decide) (by decide) rfl (z_l1 hc qfX0_19) dX0_inRoom_6 ?_
    obtain ⟨g4, hv⟩ := y_gd_e hv
    refine z_alen hc hB 13 (by decide) (by decide) g4 dX0_inRoom_9 ?_
    refine lv_icmp_ge (tgt := 22) hx hb dX0_inRoom_10 (by decide) (fun c5 => ?_) (fun c5 => ?_)
    · replace hv := y_br_t hv c5
      exact b22 _ _ _ hB (lv_sub hl [] rfl) _ hv kt
    · replace hv := y_br_f hv c5
      refine lv_aload_n hx hb dX0_inRoom_13 rfl (lv_at hl 0 rfl) ?_
      refine z_getR hc hB 0 6 g2 eo3 (by decide) (by decide) rfl (z_l1 hc qfX0_19) dX0_inRoom_14 ?_
      refine lv_iload_n hx hb dX0_inRoom_17 rfl (lv_at hl 1 rfl) ?_
      obtain ⟨i6, hv⟩ := y_gd_e hv
      refine z_iald hc hB g4 i6 dX0_inRoom_18 ?_
      refine lv_goto (tgt := 23) hx hb dX0_inRoom_19 (by decide) ?_
      replace hv := Option.some.inj hv
      subst hv
      rw [← kt]
      exact z_iret hc hB hr dX0_inRoom_23
theorem dX0_inDream_0 : decode cX0_inDream 0 = .ok (.iload_n 1, 1) := by decide +kernel
theorem dX0_inDream_1 : decode cX0_inDream 1 = .ok (.ifCond .lt 21, 3) := by decide +kernel
theorem dX0_inDream_4 : decode cX0_inDream 4 = .ok (.iload_n 1, 1) := by decide +kernel
theorem dX0_inDream_5 : decode cX0_inDream 5 = .ok (.aload_n 0, 1) := by decide +kernel
theorem dX0_inDream_6 : decode cX0_inDream 6 = .ok (.getfield 22, 3) := by decide +kernel
theorem dX0_inDream_9 : decode cX0_inDream 9 = .ok (.arraylength, 1) := by decide +kernel
theorem dX0_inDream_10 : decode cX0_inDream 10 = .ok (.if_icmp .ge 12, 3) := by decide +kernel
theorem dX0_inDream_13 : decode cX0_inDream 13 = .ok (.aload_n 0, 1) := by decide +kernel
theorem dX0_inDream_14 : decode cX0_inDream 14 = .ok (.getfield 22, 3) := by decide +kernel
theorem dX0_inDream_17 : decode cX0_inDream 17 = .ok (.iload_n 1, 1) := by decide +kernel
theorem dX0_inDream_18 : decode cX0_inDream 18 = .ok (.iaload, 1) := by decide +kernel
theorem dX0_inDream_19 : decode cX0_inDream 19 = .ok (.goto 4, 3) := by decide +kernel
theorem dX0_inDream_22 : decode cX0_inDream 22 = .ok (.iconst 0, 1) := by decide +kernel
theorem dX0_inDream_23 : decode cX0_inDream 23 = .ok (.ireturn, 1) := by decide +kernel
abbrev rm_X0_inDream : Room := { frames := 0, cells := 0, slots := 0, locals := 0 }
noncomputable def fX0_inDream_b22  (h : z_T) : Option (Int32) :=
  some (0 : Int32)
noncomputable def fX0_inDream (o0 : Nat) (x1 : Int32) (h : z_T) : Option (Int32) :=
  y_br (x1 < 0)
    (fX0_inDream_b22 h)
    (y_gd (z_ok h o0 0) <|
    y_bi (z_R h o0 7) fun o3 =>
    y_gd (z_ok h o3 13) <|
    y_br ((nI (z_N h o3)) ≤ x1)
      (fX0_inDream_b22 h)
      (y_gd (z_ix x1 (z_N h o3)) <|
      some (z_I h o3 x1.toNatClampNeg)))
set_option maxHeartbeats 4000000 in
set_option maxRecDepth 100000 in
theorem mm_X0_inDream {G : z_Gt} (hSK : z_SK (z_S G)) (l : Launch) (ad : Nat → Nat) (o0 : Nat) (x1 : Int32) (h : z_T) {r0 : Int32} (hv : fX0_inDream o0 x1 h = some r0) : z_Mi G (z_S G) l yX0_inDream cX0_inDream 2 (.int) rm_X0_inDream 0 0 [.ref (ad o0), .int x1] ad h h r0 := by
  refine z_ofW hSK (by decide) (Nat.le_of_ble_eq_true rfl) ?_
  intro p e s m args below meth c ls hc hr hnm hB hl
  have hx := hc.1.1
  have hb := hc.1.2.1
  have hown := hc.1.2.2.2.1
  have hts := hc.1.2.2.2.2
  replace hc : z_C G (z_S G) ad (z_n h) p m c cX0_inDream 2 s args RX0 meth := hc
  replace hown : s.vm.findClass RX0 = some m.cls := hown
  replace hl : lv_has ls 2 [(0, .ref (ad o0)), (1, .int x1)] := hl
  show W p l e rm_X0_inDream s m args below meth c s.heap [] 0 0 (MQ below (z_Qi G ad h (z_n h) s.heap.size r0) args s 0 0 (z_A ad (z_n h) s.heap.size)) (F0 m 0 ls [])
  obtain ⟨rs, kt⟩ : ∃ rs : Int32, rs = r0 := ⟨_, rfl⟩
  generalize hn0 : z_n h = n0 at hc hB ⊢
  have b22 : ∀ (H : Heap) (locs : List Loc) (ls : Array Slot), z_B G ad n0 s h H locs → lv_has ls 2 [] → ∀ w, fX0_inDream_b22 h = some w → w = r0 → W p l e rm_X0_inDream s m args below meth c H locs 0 0 (MQ below (z_Qi G ad h n0 s.heap.size r0) args s 0 0 (z_A ad n0 s.heap.size)) (F0 m 22 ls []) := by
    intro H locs ls hB hl w hv kb
    refine lv_iconst (v := (0 : Int32)) hx hb dX0_inDream_22 (by decide) ?_
    replace hv := Option.some.inj hv
    subst hv
    rw [← kb]
    exact z_iret hc hB hr dX0_inDream_23
  rw [← kt] at hv
  refine lv_iload_n hx hb dX0_inDream_0 rfl (lv_at hl 1 rfl) ?_
  refine lv_if_lt (tgt := 22) hx hb dX0_inDream_1 (by decide) (fun c1 => ?_) (fun c1 => ?_)
  · replace hv := y_br_t hv c1
    exact b22 _ _ _ hB (lv_sub hl [] rfl) _ hv kt
  · replace hv := y_br_f hv c1
    refine lv_iload_n hx hb dX0_inDream_4 rfl (lv_at hl 1 rfl) ?_
    refine lv_aload_n hx hb dX0_inDream_5 rfl (lv_at hl 0 rfl) ?_
    obtain ⟨g2, hv⟩ := y_gd_e hv
    obtain ⟨o3, eo3, hv⟩ := y_bi_e hv
    refine z_getR hc hB 0 7 g2 eo3 (by decide) (by decide) rfl (z_l1 hc qfX0_22) dX0_inDream_6 ?_
    obtain ⟨g4, hv⟩ := y_gd_e hv
    refine z_alen hc hB 13 (by decide) (by decide) g4 dX0_inDream_9 ?_
    refine lv_icmp_ge (tgt := 22) hx hb dX0_inDream_10 (by decide) (fun c5 => ?_) (fun c5 => ?_)
    · replace hv := y_br_t hv c5
      exact b22 _ _ _ hB (lv_sub hl [] rfl) _ hv kt
    · replace hv := y_br_f hv c5
      refine lv_aload_n hx hb dX0_inDream_13 rfl (lv_at hl 0 rfl) ?_
      refine z_getR hc hB 0 7 g2 eo3 (by decide) (by decide) rfl (z_l1 hc qfX0_22) dX0_inDream_14 ?_
      refine lv_iload_n hx hb dX0_inDream_17 rfl (lv_at hl 1 rfl) ?_
      obtain ⟨i6, hv⟩ := y_gd_e hv
      refine z_iald hc hB g4 i6 dX0_inDream_18 ?_
      refine lv_goto (tgt := 23) hx hb dX0_inDream_19 (by decide) ?_
      replace hv := Option.some.inj hv
      subst hv
      rw [← kt]
      exact z_iret hc hB hr dX0_inDream_23
theorem dX0_weightOf_0 : decode cX0_weightOf 0 = .ok (.iload_n 1, 1) := by decide +kernel
theorem dX0_weightOf_1 : decode cX0_weightOf 1 = .ok (.ifCond .ne 10, 3) := by decide +kernel
theorem dX0_weightOf_4 : decode cX0_weightOf 4 = .ok (.aload_n 0, 1) := by decide +kernel
theorem dX0_weightOf_5 : decode cX0_weightOf 5 = .ok (.getfield 9, 3) := by decide +kernel
theorem dX0_weightOf_8 : decode cX0_weightOf 8 = .ok (.iconst 0, 1) := by decide +kernel
theorem dX0_weightOf_9 : decode cX0_weightOf 9 = .ok (.iaload, 1) := by decide +kernel
theorem dX0_weightOf_10 : decode cX0_weightOf 10 = .ok (.ireturn, 1) := by decide +kernel
theorem dX0_weightOf_11 : decode cX0_weightOf 11 = .ok (.iload_n 1, 1) := by decide +kernel
theorem dX0_weightOf_12 : decode cX0_weightOf 12 = .ok (.ifCond .le 21, 3) := by decide +kernel
theorem dX0_weightOf_15 : decode cX0_weightOf 15 = .ok (.iload_n 1, 1) := by decide +kernel
theorem dX0_weightOf_16 : decode cX0_weightOf 16 = .ok (.aload_n 0, 1) := by decide +kernel
theorem dX0_weightOf_17 : decode cX0_weightOf 17 = .ok (.getfield 28, 3) := by decide +kernel
theorem dX0_weightOf_20 : decode cX0_weightOf 20 = .ok (.arraylength, 1) := by decide +kernel
theorem dX0_weightOf_21 : decode cX0_weightOf 21 = .ok (.if_icmp .ge 12, 3) := by decide +kernel
theorem dX0_weightOf_24 : decode cX0_weightOf 24 = .ok (.aload_n 0, 1) := by decide +kernel
theorem dX0_weightOf_25 : decode cX0_weightOf 25 = .ok (.getfield 28, 3) := by decide +kernel
theorem dX0_weightOf_28 : decode cX0_weightOf 28 = .ok (.iload_n 1, 1) := by decide +kernel
theorem dX0_weightOf_29 : decode cX0_weightOf 29 = .ok (.iaload, 1) := by decide +kernel
theorem dX0_weightOf_30 : decode cX0_weightOf 30 = .ok (.goto 4, 3) := by decide +kernel
theorem dX0_weightOf_33 : decode cX0_weightOf 33 = .ok (.iconst 0, 1) := by decide +kernel
theorem dX0_weightOf_34 : decode cX0_weightOf 34 = .ok (.ireturn, 1) := by decide +kernel
abbrev rm_X0_weightOf : Room := { frames := 0, cells := 0, slots := 0, locals := 0 }
noncomputable def fX0_weightOf_b33  (h : z_T) : Option (Int32) :=
  some (0 : Int32)
noncomputable def fX0_weightOf (o0 : Nat) (x1 : Int32) (h : z_T) : Option (Int32) :=
  y_br (x1 = 0)
    (y_gd (z_ok h o0 0) <|
    y_bi (z_R h o0 4) fun o9 =>
    y_gd (z_ok h o9 13) <|
    y_gd (z_ix (0 : Int32) (z_N h o9)) <|
    some (z_I h o9 (0 : Int32).toNatClampNeg))
    (y_br (x1 ≤ 0)
      (fX0_weightOf_b33 h)
      (y_gd (z_ok h o0 0) <|
      y_bi (z_R h o0 9) fun o4 =>
      y_gd (z_ok h o4 13) <|
      y_br ((nI (z_N h o4)) ≤ x1)
        (fX0_weightOf_b33 h)
        (y_gd (z_ix x1 (z_N h o4)) <|
        some (z_I h o4 x1.toNatClampNeg))))
set_option maxHeartbeats 4000000 in
set_option maxRecDepth 100000 in
theorem mm_X0_weightOf {G : z_Gt} (hSK : z_SK (z_S G)) (l : Launch) (ad : Nat → Nat) (o0 : Nat) (x1 : Int32) (h : z_T) {r0 : Int32} (hv : fX0_weightOf o0 x1 h = some r0) : z_Mi G (z_S G) l yX0_weightOf cX0_weightOf 2 (.int) rm_X0_weightOf 0 0 [.ref (ad o0), .int x1] ad h h r0 := by
  refine z_ofW hSK (by decide) (Nat.le_of_ble_eq_true rfl) ?_
  intro p e s m args below meth c ls hc hr hnm hB hl
  have hx := hc.1.1
  have hb := hc.1.2.1
  have hown := hc.1.2.2.2.1
  have hts := hc.1.2.2.2.2
  replace hc : z_C G (z_S G) ad (z_n h) p m c cX0_weightOf 2 s args RX0 meth := hc
  replace hown : s.vm.findClass RX0 = some m.cls := hown
  replace hl : lv_has ls 2 [(0, .ref (ad o0)), (1, .int x1)] := hl
  show W p l e rm_X0_weightOf s m args below meth c s.heap [] 0 0 (MQ below (z_Qi G ad h (z_n h) s.heap.size r0) args s 0 0 (z_A ad (z_n h) s.heap.size)) (F0 m 0 ls [])
  obtain ⟨rs, kt⟩ : ∃ rs : Int32, rs = r0 := ⟨_, rfl⟩
  generalize hn0 : z_n h = n0 at hc hB ⊢
  have b33 : ∀ (H : Heap) (locs : List Loc) (ls : Array Slot), z_B G ad n0 s h H locs → lv_has ls 2 [] → ∀ w, fX0_weightOf_b33 h = some w → w = r0 → W p l e rm_X0_weightOf s m args below meth c H locs 0 0 (MQ below (z_Qi G ad h n0 s.heap.size r0) args s 0 0 (z_A ad n0 s.heap.size)) (F0 m 33 ls []) := by
    intro H locs ls hB hl w hv kb
    refine lv_iconst (v := (0 : Int32)) hx hb dX0_weightOf_33 (by decide) ?_
    replace hv := Option.some.inj hv
    subst hv
    rw [← kb]
    exact z_iret hc hB hr dX0_weightOf_34
  rw [← kt] at hv
  refine lv_iload_n hx hb dX0_weightOf_0 rfl (lv_at hl 1 rfl) ?_
  refine lv_if_ne (tgt := 11) hx hb dX0_weightOf_1 (by decide) (fun c1 => ?_) (fun c1 => ?_)
  · replace hv := y_br_f hv c1
    refine lv_iload_n hx hb dX0_weightOf_11 rfl (lv_at hl 1 rfl) ?_
    refine lv_if_le (tgt := 33) hx hb dX0_weightOf_12 (by decide) (fun c2 => ?_) (fun c2 => ?_)
    · replace hv := y_br_t hv c2
      exact b33 _ _ _ hB (lv_sub hl [] rfl) _ hv kt
    · replace hv := y_br_f hv c2
      refine lv_iload_n hx hb dX0_weightOf_15 rfl (lv_at hl 1 rfl) ?_
      refine lv_aload_n hx hb dX0_weightOf_16 rfl (lv_at hl 0 rfl) ?_
      obtain ⟨g3, hv⟩ := y_gd_e hv
      obtain ⟨o4, eo4, hv⟩ := y_bi_e hv
      refine z_getR hc hB 0 9 g3 eo4 (by decide) (by decide) rfl (z_l1 hc qfX0_28) dX0_weightOf_17 ?_
      obtain ⟨g5, hv⟩ := y_gd_e hv
      refine z_alen hc hB 13 (by decide) (by decide) g5 dX0_weightOf_20 ?_
      refine lv_icmp_ge (tgt := 33) hx hb dX0_weightOf_21 (by decide) (fun c6 => ?_) (fun c6 => ?_)
      · replace hv := y_br_t hv c6
        exact b33 _ _ _ hB (lv_sub hl [] rfl) _ hv kt
      · replace hv := y_br_f hv c6
        refine lv_aload_n hx hb dX0_weightOf_24 rfl (lv_at hl 0 rfl) ?_
        refine z_getR hc hB 0 9 g3 eo4 (by decide) (by decide) rfl (z_l1 hc qfX0_28) dX0_weightOf_25 ?_
        refine lv_iload_n hx hb dX0_weightOf_28 rfl (lv_at hl 1 rfl) ?_
        obtain ⟨i7, hv⟩ := y_gd_e hv
        refine z_iald hc hB g5 i7 dX0_weightOf_29 ?_
        refine lv_goto (tgt := 34) hx hb dX0_weightOf_30 (by decide) ?_
        replace hv := Option.some.inj hv
        subst hv
        rw [← kt]
        exact z_iret hc hB hr dX0_weightOf_34
  · replace hv := y_br_t hv c1
    refine lv_aload_n hx hb dX0_weightOf_4 rfl (lv_at hl 0 rfl) ?_
    obtain ⟨g8, hv⟩ := y_gd_e hv
    obtain ⟨o9, eo9, hv⟩ := y_bi_e hv
    refine z_getR hc hB 0 4 g8 eo9 (by decide) (by decide) rfl (z_l1 hc qfX0_9) dX0_weightOf_5 ?_
    refine lv_iconst (v := (0 : Int32)) hx hb dX0_weightOf_8 (by decide) ?_
    obtain ⟨g10, hv⟩ := y_gd_e hv
    obtain ⟨i11, hv⟩ := y_gd_e hv
    refine z_iald hc hB g10 i11 dX0_weightOf_9 ?_
    replace hv := Option.some.inj hv
    subst hv
    rw [← kt]
    exact z_iret hc hB hr dX0_weightOf_10
theorem qmX0_133 : Cond.methodLink RX0 133 yX0_weightOf ∈ z_ws := List.mem_filter.mpr ⟨List.mem_append_right _ (List.mem_of_getElem? (i := 633) (by decide +kernel)), rfl⟩
theorem qc_X0_weightOf : Cond.code yX0_weightOf cX0_weightOf 2 (some .int) ∈ z_ws := List.mem_filter.mpr ⟨List.mem_append_right _ (List.mem_of_getElem? (i := 161) (by decide +kernel)), rfl⟩
theorem qi_X0_weightOf : Cond.instanceMethod yX0_weightOf ∈ z_ws := List.mem_filter.mpr ⟨List.mem_append_right _ (List.mem_of_getElem? (i := 159) (by decide +kernel)), rfl⟩
theorem qs_X0_weightOf : Cond.selects RX0 yX0_weightOf yX0_weightOf ∈ z_ws := List.mem_filter.mpr ⟨List.mem_append_right _ (List.mem_of_getElem? (i := 160) (by decide +kernel)), rfl⟩
theorem md_X0_weightOf : z_mdV yX0_weightOf cX0_weightOf 2 (some .int) 1 := ⟨⟨qn_RX0, qc_X0_weightOf, ⟨by decide +kernel, by decide +kernel, by decide +kernel⟩⟩, qi_X0_weightOf, qs_X0_weightOf⟩
theorem dX0_allWeights_0 : decode cX0_allWeights 0 = .ok (.iconst 0, 1) := by decide +kernel
theorem dX0_allWeights_1 : decode cX0_allWeights 1 = .ok (.istore_n 1, 1) := by decide +kernel
theorem dX0_allWeights_2 : decode cX0_allWeights 2 = .ok (.iconst 0, 1) := by decide +kernel
theorem dX0_allWeights_3 : decode cX0_allWeights 3 = .ok (.istore_n 2, 1) := by decide +kernel
theorem dX0_allWeights_4 : decode cX0_allWeights 4 = .ok (.iload_n 2, 1) := by decide +kernel
theorem dX0_allWeights_5 : decode cX0_allWeights 5 = .ok (.bipush 7, 2) := by decide +kernel
theorem dX0_allWeights_7 : decode cX0_allWeights 7 = .ok (.if_icmp .ge 17, 3) := by decide +kernel
theorem dX0_allWeights_10 : decode cX0_allWeights 10 = .ok (.iload_n 1, 1) := by decide +kernel
theorem dX0_allWeights_11 : decode cX0_allWeights 11 = .ok (.aload_n 0, 1) := by decide +kernel
theorem dX0_allWeights_12 : decode cX0_allWeights 12 = .ok (.iload_n 2, 1) := by decide +kernel
theorem dX0_allWeights_13 : decode cX0_allWeights 13 = .ok (.invokevirtual 133, 3) := by decide +kernel
theorem dX0_allWeights_16 : decode cX0_allWeights 16 = .ok (.iadd, 1) := by decide +kernel
theorem dX0_allWeights_17 : decode cX0_allWeights 17 = .ok (.istore_n 1, 1) := by decide +kernel
theorem dX0_allWeights_18 : decode cX0_allWeights 18 = .ok (.iinc 2 1, 3) := by decide +kernel
theorem dX0_allWeights_21 : decode cX0_allWeights 21 = .ok (.goto (-17), 3) := by decide +kernel
theorem dX0_allWeights_24 : decode cX0_allWeights 24 = .ok (.iload_n 1, 1) := by decide +kernel
theorem dX0_allWeights_25 : decode cX0_allWeights 25 = .ok (.ireturn, 1) := by decide +kernel
abbrev rm_X0_allWeights : Room := { frames := 1, cells := 0, slots := 0, locals := 21 }
noncomputable def fX0_allWeights_b4_i (o0 : Nat) (h : z_T) (x1 : Int32) (x2 : Int32) : Option ((Int32 × Int32) ⊕ (Int32)) :=
  y_br ((7 : Int32) ≤ x2)
    (y_mp <|
    some x1)
    (y_gd (z_ok h o0 0) <|
    y_bi (fX0_weightOf o0 x2 h) fun r4 =>
    y_nm ((x1 + r4)) fun v9 =>
    y_nm (x2 + 1) fun v10 =>
    some (.inl (v9, v10)))
noncomputable def fX0_allWeights_b4 (o0 : Nat) (x1 : Int32) (x2 : Int32) (h : z_T) : Option (Int32) := y_lp (fun q : Int32 × Int32 => fX0_allWeights_b4_i o0 h q.1 q.2) (x1, x2)
noncomputable def fX0_allWeights (o0 : Nat) (h : z_T) : Option (Int32) :=
  fX0_allWeights_b4 o0 (0 : Int32) (0 : Int32) h
set_option maxHeartbeats 4000000 in
set_option maxRecDepth 100000 in
theorem mm_X0_allWeights {G : z_Gt} (hSK : z_SK (z_S G)) (l : Launch) (ad : Nat → Nat) (o0 : Nat) (h : z_T) {r0 : Int32} (hv : fX0_allWeights o0 h = some r0) : z_Mi G (z_S G) l yX0_allWeights cX0_allWeights 3 (.int) rm_X0_allWeights 0 0 [.ref (ad o0)] ad h h r0 := by
  refine z_ofW hSK (by decide) (Nat.le_of_ble_eq_true rfl) ?_
  intro p e s m args below meth c ls hc hr hnm hB hl
  have hx := hc.1.1
  have hb := hc.1.2.1
  have hown := hc.1.2.2.2.1
  have hts := hc.1.2.2.2.2
  replace hc : z_C G (z_S G) ad (z_n h) p m c cX0_allWeights 3 s args RX0 meth := hc
  replace hown : s.vm.findClass RX0 = some m.cls := hown
  replace hl : lv_has ls 3 [(0, .ref (ad o0))] := hl
  show W p l e rm_X0_allWeights s m args below meth c s.heap [] 0 0 (MQ below (z_Qi G ad h (z_n h) s.heap.size r0) args s 0 0 (z_A ad (z_n h) s.heap.size)) (F0 m 0 ls [])
  obtain ⟨rs, kt⟩ : ∃ rs : Int32, rs = r0 := ⟨_, rfl⟩
  generalize hn0 : z_n h = n0 at hc hB ⊢
  have L4 : ∀ (nn4 : Nat) (x1 : Int32) (x2 : Int32) (H : Heap) (locs : List Loc) (ls : Array Slot), z_B G ad n0 s h H locs → lv_has ls 3 [(0, .ref (ad o0)), (1, .int x1), (2, .int x2)] → ∀ vv4, y_lpN (fun q : Int32 × Int32 => fX0_allWeights_b4_i o0 h q.1 q.2) nn4 (x1, x2) = some vv4 → vv4 = r0 → W p l e rm_X0_allWeights s m args below meth c H locs 0 0 (MQ below (z_Qi G ad h n0 s.heap.size r0) args s 0 0 (z_A ad n0 s.heap.size)) (F0 m 4 ls []) := by
    intro nn4
    induction nn4 with
    | zero => intro x1 x2 H locs ls hB hl vv4 hv kv4; exact absurd hv (fun q => y_lpN_0 q)
    | succ nn4 ih4 =>
      intro x1 x2 H locs ls hB hl vv4 hv kv4
      obtain ⟨w, hq, kw4⟩ := y_lpN_e hv
      clear hv
      have hv : fX0_allWeights_b4_i o0 h x1 x2 = some w := hq
      clear hq
      refine lv_iload_n hx hb dX0_allWeights_4 rfl (lv_at hl 2 rfl) ?_
      refine lv_bipush (v := (7 : Int32)) hx hb dX0_allWeights_5 (by decide) ?_
      refine lv_icmp_ge (tgt := 24) hx hb dX0_allWeights_7 (by decide) (fun c1 => ?_) (fun c1 => ?_)
      · replace hv := y_br_t hv c1
        obtain ⟨t2, hq, ew⟩ := y_mp_e hv
        clear hv; subst ew
        replace kw4 : t2 = _ := kw4
        subst kw4
        have hv := hq
        clear hq
        refine lv_iload_n hx hb dX0_allWeights_24 rfl (lv_at hl 1 rfl) ?_
        replace hv := Option.some.inj hv
        subst hv
        rw [← kv4]
        exact z_iret hc hB hr dX0_allWeights_25
      · replace hv := y_br_f hv c1
        refine lv_iload_n hx hb dX0_allWeights_10 rfl (lv_at hl 1 rfl) ?_
        refine lv_aload_n hx hb dX0_allWeights_11 rfl (lv_at hl 0 rfl) ?_
        refine lv_iload_n hx hb dX0_allWeights_12 rfl (lv_at hl 2 rfl) ?_
        obtain ⟨g8, hv⟩ := y_gd_e hv
        obtain ⟨r4, c3, hv⟩ := y_bi_e hv
        refine z_thI hc hB (z_runV hc hB 0 (mm_X0_weightOf hSK l ad o0 x2 h c3) md_X0_weightOf qmX0_133 g8 (by decide) rfl rfl rfl ⟨Nat.le_of_ble_eq_true rfl, Nat.le_of_ble_eq_true rfl⟩ rfl hl.1 rfl (Nat.le_of_ble_eq_true rfl) dX0_allWeights_13 ⟨Nat.le_of_ble_eq_true rfl, Nat.le_of_ble_eq_true rfl⟩) (fun H locs hB => ?_)
        refine lv_iadd hx hb dX0_allWeights_16 ?_
        obtain ⟨v9, ev9, hv⟩ := y_nm_e hv
        rw [← ev9]
        refine lv_istore_n (lv' := [(1, .int v9), (0, .ref (ad o0)), (2, .int x2)]) hx hb dX0_allWeights_17 rfl hl (by decide) rfl (fun ls hl => ?_)
        obtain ⟨v10, ev10, hv⟩ := y_nm_e hv
        refine lv_iinc (v := v10) (lv' := [(2, .int v10), (1, .int v9), (0, .ref (ad o0))]) hx hb dX0_allWeights_18 hl (k := 2) rfl (by rw [ev10]; rfl) (by decide) rfl (fun ls hl => ?_)
        refine lv_goto (tgt := 4) hx hb dX0_allWeights_21 (by decide) ?_
        replace hv := Option.some.inj hv
        subst hv
        exact ih4 v9 v10 _ _ _ hB (lv_sub hl [2, 1, 0] rfl) _ kw4 kv4
  rw [← kt] at hv
  refine lv_iconst (v := (0 : Int32)) hx hb dX0_allWeights_0 (by decide) ?_
  refine lv_istore_n (lv' := [(1, .int (0 : Int32)), (0, .ref (ad o0))]) hx hb dX0_allWeights_1 rfl hl (by decide) rfl (fun ls hl => ?_)
  refine lv_iconst (v := (0 : Int32)) hx hb dX0_allWeights_2 (by decide) ?_
  refine lv_istore_n (lv' := [(2, .int (0 : Int32)), (1, .int (0 : Int32)), (0, .ref (ad o0))]) hx hb dX0_allWeights_3 rfl hl (by decide) rfl (fun ls hl => ?_)
  obtain ⟨n, hv⟩ := y_lp_e hv
  exact L4 n (0 : Int32) (0 : Int32) _ _ _ hB (lv_sub hl [2, 1, 0] rfl) _ hv kt
theorem dX0_keptIn_0 : decode cX0_keptIn 0 = .ok (.iload_n 1, 1) := by decide +kernel
theorem dX0_keptIn_1 : decode cX0_keptIn 1 = .ok (.ifCond .lt 21, 3) := by decide +kernel
theorem dX0_keptIn_4 : decode cX0_keptIn 4 = .ok (.iload_n 1, 1) := by decide +kernel
theorem dX0_keptIn_5 : decode cX0_keptIn 5 = .ok (.aload_n 0, 1) := by decide +kernel
theorem dX0_keptIn_6 : decode cX0_keptIn 6 = .ok (.getfield 31, 3) := by decide +kernel
theorem dX0_keptIn_9 : decode cX0_keptIn 9 = .ok (.arraylength, 1) := by decide +kernel
theorem dX0_keptIn_10 : decode cX0_keptIn 10 = .ok (.if_icmp .ge 12, 3) := by decide +kernel
theorem dX0_keptIn_13 : decode cX0_keptIn 13 = .ok (.aload_n 0, 1) := by decide +kernel
theorem dX0_keptIn_14 : decode cX0_keptIn 14 = .ok (.getfield 31, 3) := by decide +kernel
theorem dX0_keptIn_17 : decode cX0_keptIn 17 = .ok (.iload_n 1, 1) := by decide +kernel
theorem dX0_keptIn_18 : decode cX0_keptIn 18 = .ok (.iaload, 1) := by decide +kernel
theorem dX0_keptIn_19 : decode cX0_keptIn 19 = .ok (.goto 4, 3) := by decide +kernel
theorem dX0_keptIn_22 : decode cX0_keptIn 22 = .ok (.iconst 0, 1) := by decide +kernel
theorem dX0_keptIn_23 : decode cX0_keptIn 23 = .ok (.ireturn, 1) := by decide +kernel
abbrev rm_X0_keptIn : Room := { frames := 0, cells := 0, slots := 0, locals := 0 }
noncomputable def fX0_keptIn_b22  (h : z_T) : Option (Int32) :=
  some (0 : Int32)
noncomputable def fX0_keptIn (o0 : Nat) (x1 : Int32) (h : z_T) : Option (Int32) :=
  y_br (x1 < 0)
    (fX0_keptIn_b22 h)
    (y_gd (z_ok h o0 0) <|
    y_bi (z_R h o0 10) fun o3 =>
    y_gd (z_ok h o3 13) <|
    y_br ((nI (z_N h o3)) ≤ x1)
      (fX0_keptIn_b22 h)
      (y_gd (z_ix x1 (z_N h o3)) <|
      some (z_I h o3 x1.toNatClampNeg)))
set_option maxHeartbeats 4000000 in
set_option maxRecDepth 100000 in
theorem mm_X0_keptIn {G : z_Gt} (hSK : z_SK (z_S G)) (l : Launch) (ad : Nat → Nat) (o0 : Nat) (x1 : Int32) (h : z_T) {r0 : Int32} (hv : fX0_keptIn o0 x1 h = some r0) : z_Mi G (z_S G) l yX0_keptIn cX0_keptIn 2 (.int) rm_X0_keptIn 0 0 [.ref (ad o0), .int x1] ad h h r0 := by
  refine z_ofW hSK (by decide) (Nat.le_of_ble_eq_true rfl) ?_
  intro p e s m args below meth c ls hc hr hnm hB hl
  have hx := hc.1.1
  have hb := hc.1.2.1
  have hown := hc.1.2.2.2.1
  have hts := hc.1.2.2.2.2
  replace hc : z_C G (z_S G) ad (z_n h) p m c cX0_keptIn 2 s args RX0 meth := hc
  replace hown : s.vm.findClass RX0 = some m.cls := hown
  replace hl : lv_has ls 2 [(0, .ref (ad o0)), (1, .int x1)] := hl
  show W p l e rm_X0_keptIn s m args below meth c s.heap [] 0 0 (MQ below (z_Qi G ad h (z_n h) s.heap.size r0) args s 0 0 (z_A ad (z_n h) s.heap.size)) (F0 m 0 ls [])
  obtain ⟨rs, kt⟩ : ∃ rs : Int32, rs = r0 := ⟨_, rfl⟩
  generalize hn0 : z_n h = n0 at hc hB ⊢
  have b22 : ∀ (H : Heap) (locs : List Loc) (ls : Array Slot), z_B G ad n0 s h H locs → lv_has ls 2 [] → ∀ w, fX0_keptIn_b22 h = some w → w = r0 → W p l e rm_X0_keptIn s m args below meth c H locs 0 0 (MQ below (z_Qi G ad h n0 s.heap.size r0) args s 0 0 (z_A ad n0 s.heap.size)) (F0 m 22 ls []) := by
    intro H locs ls hB hl w hv kb
    refine lv_iconst (v := (0 : Int32)) hx hb dX0_keptIn_22 (by decide) ?_
    replace hv := Option.some.inj hv
    subst hv
    rw [← kb]
    exact z_iret hc hB hr dX0_keptIn_23
  rw [← kt] at hv
  refine lv_iload_n hx hb dX0_keptIn_0 rfl (lv_at hl 1 rfl) ?_
  refine lv_if_lt (tgt := 22) hx hb dX0_keptIn_1 (by decide) (fun c1 => ?_) (fun c1 => ?_)
  · replace hv := y_br_t hv c1
    exact b22 _ _ _ hB (lv_sub hl [] rfl) _ hv kt
  · replace hv := y_br_f hv c1
    refine lv_iload_n hx hb dX0_keptIn_4 rfl (lv_at hl 1 rfl) ?_
    refine lv_aload_n hx hb dX0_keptIn_5 rfl (lv_at hl 0 rfl) ?_
    obtain ⟨g2, hv⟩ := y_gd_e hv
    obtain ⟨o3, eo3, hv⟩ := y_bi_e hv
    refine z_getR hc hB 0 10 g2 eo3 (by decide) (by decide) rfl (z_l1 hc qfX0_31) dX0_keptIn_6 ?_
    obtain ⟨g4, hv⟩ := y_gd_e hv
    refine z_alen hc hB 13 (by decide) (by decide) g4 dX0_keptIn_9 ?_
    refine lv_icmp_ge (tgt := 22) hx hb dX0_keptIn_10 (by decide) (fun c5 => ?_) (fun c5 => ?_)
    · replace hv := y_br_t hv c5
      exact b22 _ _ _ hB (lv_sub hl [] rfl) _ hv kt
    · replace hv := y_br_f hv c5
      refine lv_aload_n hx hb dX0_keptIn_13 rfl (lv_at hl 0 rfl) ?_
      refine z_getR hc hB 0 10 g2 eo3 (by decide) (by decide) rfl (z_l1 hc qfX0_31) dX0_keptIn_14 ?_
      refine lv_iload_n hx hb dX0_keptIn_17 rfl (lv_at hl 1 rfl) ?_
      obtain ⟨i6, hv⟩ := y_gd_e hv
      refine z_iald hc hB g4 i6 dX0_keptIn_18 ?_
      refine lv_goto (tgt := 23) hx hb dX0_keptIn_19 (by decide) ?_
      replace hv := Option.some.inj hv
      subst hv
      rw [← kt]
      exact z_iret hc hB hr dX0_keptIn_23
theorem qmX0_137 : Cond.methodLink RX0 137 yX0_keptIn ∈ z_ws := List.mem_filter.mpr ⟨List.mem_append_right _ (List.mem_of_getElem? (i := 481) (by decide +kernel)), rfl⟩
theorem qc_X0_keptIn : Cond.code yX0_keptIn cX0_keptIn 2 (some .int) ∈ z_ws := List.mem_filter.mpr ⟨List.mem_append_right _ (List.mem_of_getElem? (i := 484) (by decide +kernel)), rfl⟩
theorem qi_X0_keptIn : Cond.instanceMethod yX0_keptIn ∈ z_ws := List.mem_filter.mpr ⟨List.mem_append_right _ (List.mem_of_getElem? (i := 482) (by decide +kernel)), rfl⟩
theorem qs_X0_keptIn : Cond.selects RX0 yX0_keptIn yX0_keptIn ∈ z_ws := List.mem_filter.mpr ⟨List.mem_append_right _ (List.mem_of_getElem? (i := 483) (by decide +kernel)), rfl⟩
theorem md_X0_keptIn : z_mdV yX0_keptIn cX0_keptIn 2 (some .int) 1 := ⟨⟨qn_RX0, qc_X0_keptIn, ⟨by decide +kernel, by decide +kernel, by decide +kernel⟩⟩, qi_X0_keptIn, qs_X0_keptIn⟩
theorem dX0_keepersOf_0 : decode cX0_keepersOf 0 = .ok (.iconst 0, 1) := by decide +kernel
theorem dX0_keepersOf_1 : decode cX0_keepersOf 1 = .ok (.istore_n 2, 1) := by decide +kernel
theorem dX0_keepersOf_2 : decode cX0_keepersOf 2 = .ok (.iconst 0, 1) := by decide +kernel
theorem dX0_keepersOf_3 : decode cX0_keepersOf 3 = .ok (.istore_n 3, 1) := by decide +kernel
theorem dX0_keepersOf_4 : decode cX0_keepersOf 4 = .ok (.iload_n 3, 1) := by decide +kernel
theorem dX0_keepersOf_5 : decode cX0_keepersOf 5 = .ok (.bipush 6, 2) := by decide +kernel
theorem dX0_keepersOf_7 : decode cX0_keepersOf 7 = .ok (.if_icmp .ge 29, 3) := by decide +kernel
theorem dX0_keepersOf_10 : decode cX0_keepersOf 10 = .ok (.aload_n 0, 1) := by decide +kernel
theorem dX0_keepersOf_11 : decode cX0_keepersOf 11 = .ok (.iload_n 3, 1) := by decide +kernel
theorem dX0_keepersOf_12 : decode cX0_keepersOf 12 = .ok (.iconst 1, 1) := by decide +kernel
theorem dX0_keepersOf_13 : decode cX0_keepersOf 13 = .ok (.iadd, 1) := by decide +kernel
theorem dX0_keepersOf_14 : decode cX0_keepersOf 14 = .ok (.invokevirtual 137, 3) := by decide +kernel
theorem dX0_keepersOf_17 : decode cX0_keepersOf 17 = .ok (.iconst 1, 1) := by decide +kernel
theorem dX0_keepersOf_18 : decode cX0_keepersOf 18 = .ok (.iload_n 1, 1) := by decide +kernel
theorem dX0_keepersOf_19 : decode cX0_keepersOf 19 = .ok (.ishl, 1) := by decide +kernel
theorem dX0_keepersOf_20 : decode cX0_keepersOf 20 = .ok (.iand, 1) := by decide +kernel
theorem dX0_keepersOf_21 : decode cX0_keepersOf 21 = .ok (.ifCond .eq 9, 3) := by decide +kernel
theorem dX0_keepersOf_24 : decode cX0_keepersOf 24 = .ok (.iload_n 2, 1) := by decide +kernel
theorem dX0_keepersOf_25 : decode cX0_keepersOf 25 = .ok (.iconst 1, 1) := by decide +kernel
theorem dX0_keepersOf_26 : decode cX0_keepersOf 26 = .ok (.iload_n 3, 1) := by decide +kernel
theorem dX0_keepersOf_27 : decode cX0_keepersOf 27 = .ok (.ishl, 1) := by decide +kernel
theorem dX0_keepersOf_28 : decode cX0_keepersOf 28 = .ok (.ior, 1) := by decide +kernel
theorem dX0_keepersOf_29 : decode cX0_keepersOf 29 = .ok (.istore_n 2, 1) := by decide +kernel
theorem dX0_keepersOf_30 : decode cX0_keepersOf 30 = .ok (.iinc 3 1, 3) := by decide +kernel
theorem dX0_keepersOf_33 : decode cX0_keepersOf 33 = .ok (.goto (-29), 3) := by decide +kernel
theorem dX0_keepersOf_36 : decode cX0_keepersOf 36 = .ok (.iload_n 2, 1) := by decide +kernel
theorem dX0_keepersOf_37 : decode cX0_keepersOf 37 = .ok (.ireturn, 1) := by decide +kernel
abbrev rm_X0_keepersOf : Room := { frames := 1, cells := 0, slots := 0, locals := 21 }
noncomputable def fX0_keepersOf_b30 (o0 : Nat) (x1 : Int32) (x2 : Int32) (x3 : Int32) (h : z_T) : Option ((Int32 × Int32) ⊕ (Int32)) :=
  y_nm (x3 + 1) fun v1 =>
  some (.inl (x2, v1))
noncomputable def fX0_keepersOf_b4_i (o0 : Nat) (x1 : Int32) (h : z_T) (x2 : Int32) (x3 : Int32) : Option ((Int32 × Int32) ⊕ (Int32)) :=
  y_br ((6 : Int32) ≤ x3)
    (y_mp <|
    some x2)
    (y_gd (z_ok h o0 0) <|
    y_bi (fX0_keptIn o0 (x3 + (1 : Int32)) h) fun r5 =>
    y_br ((r5 &&& ((1 : Int32) <<< (x1 &&& 31))) = 0)
      (fX0_keepersOf_b30 o0 x1 x2 x3 h)
      (y_nm ((x2 ||| ((1 : Int32) <<< (x3 &&& 31)))) fun v11 =>
      fX0_keepersOf_b30 o0 x1 v11 x3 h))
noncomputable def fX0_keepersOf_b4 (o0 : Nat) (x1 : Int32) (x2 : Int32) (x3 : Int32) (h : z_T) : Option (Int32) := y_lp (fun q : Int32 × Int32 => fX0_keepersOf_b4_i o0 x1 h q.1 q.2) (x2, x3)
noncomputable def fX0_keepersOf (o0 : Nat) (x1 : Int32) (h : z_T) : Option (Int32) :=
  fX0_keepersOf_b4 o0 x1 (0 : Int32) (0 : Int32) h
set_option maxHeartbeats 4000000 in
set_option maxRecDepth 100000 in
theorem mm_X0_keepersOf {G : z_Gt} (hSK : z_SK (z_S G)) (l : Launch) (ad : Nat → Nat) (o0 : Nat) (x1 : Int32) (h : z_T) {r0 : Int32} (hv : fX0_keepersOf o0 x1 h = some r0) : z_Mi G (z_S G) l yX0_keepersOf cX0_keepersOf 4 (.int) rm_X0_keepersOf 0 0 [.ref (ad o0), .int x1] ad h h r0 := by
  refine z_ofW hSK (by decide) (Nat.le_of_ble_eq_true rfl) ?_
  intro p e s m args below meth c ls hc hr hnm hB hl
  have hx := hc.1.1
  have hb := hc.1.2.1
  have hown := hc.1.2.2.2.1
  have hts := hc.1.2.2.2.2
  replace hc : z_C G (z_S G) ad (z_n h) p m c cX0_keepersOf 4 s args RX0 meth := hc
  replace hown : s.vm.findClass RX0 = some m.cls := hown
  replace hl : lv_has ls 4 [(0, .ref (ad o0)), (1, .int x1)] := hl
  show W p l e rm_X0_keepersOf s m args below meth c s.heap [] 0 0 (MQ below (z_Qi G ad h (z_n h) s.heap.size r0) args s 0 0 (z_A ad (z_n h) s.heap.size)) (F0 m 0 ls [])
  obtain ⟨rs, kt⟩ : ∃ rs : Int32, rs = r0 := ⟨_, rfl⟩
  generalize hn0 : z_n h = n0 at hc hB ⊢
  have L4 : ∀ (nn4 : Nat) (x2 : Int32) (x3 : Int32) (H : Heap) (locs : List Loc) (ls : Array Slot), z_B G ad n0 s h H locs → lv_has ls 4 [(0, .ref (ad o0)), (1, .int x1), (2, .int x2), (3, .int x3)] → ∀ vv4, y_lpN (fun q : Int32 × Int32 => fX0_keepersOf_b4_i o0 x1 h q.1 q.2) nn4 (x2, x3) = some vv4 → vv4 = r0 → W p l e rm_X0_keepersOf s m args below meth c H locs 0 0 (MQ below (z_Qi G ad h n0 s.heap.size r0) args s 0 0 (z_A ad n0 s.heap.size)) (F0 m 4 ls []) := by
    intro nn4
    induction nn4 with
    | zero => intro x2 x3 H locs ls hB hl vv4 hv kv4; exact absurd hv (fun q => y_lpN_0 q)
    | succ nn4 ih4 =>
      intro x2 x3 H locs ls hB hl vv4 hv kv4
      obtain ⟨w, hq, kw4⟩ := y_lpN_e hv
      clear hv
      have hv : fX0_keepersOf_b4_i o0 x1 h x2 x3 = some w := hq
      clear hq
      have b30 : ∀ (x2 : Int32) (x3 : Int32) (H : Heap) (locs : List Loc) (ls : Array Slot), z_B G ad n0 s h H locs → lv_has ls 4 [(0, .ref (ad o0)), (1, .int x1), (2, .int x2), (3, .int x3)] → ∀ w, fX0_keepersOf_b30 o0 x1 x2 x3 h = some w → y_lq (fun q : Int32 × Int32 => fX0_keepersOf_b4_i o0 x1 h q.1 q.2) nn4 vv4 w → W p l e rm_X0_keepersOf s m args below meth c H locs 0 0 (MQ below (z_Qi G ad h n0 s.heap.size r0) args s 0 0 (z_A ad n0 s.heap.size)) (F0 m 30 ls []) := by
        intro x2 x3 H locs ls hB hl w hv kw4
        obtain ⟨v1, ev1, hv⟩ := y_nm_e hv
        refine lv_iinc (v := v1) (lv' := [(3, .int v1), (0, .ref (ad o0)), (1, .int x1), (2, .int x2)]) hx hb dX0_keepersOf_30 hl (k := 3) rfl (by rw [ev1]; rfl) (by decide) rfl (fun ls hl => ?_)
        refine lv_goto (tgt := 4) hx hb dX0_keepersOf_33 (by decide) ?_
        replace hv := Option.some.inj hv
        subst hv
        exact ih4 x2 v1 _ _ _ hB (lv_sub hl [1, 2, 3, 0] rfl) _ kw4 kv4
      refine lv_iload_n hx hb dX0_keepersOf_4 rfl (lv_at hl 3 rfl) ?_
      refine lv_bipush (v := (6 : Int32)) hx hb dX0_keepersOf_5 (by decide) ?_
      refine lv_icmp_ge (tgt := 36) hx hb dX0_keepersOf_7 (by decide) (fun c2 => ?_) (fun c2 => ?_)
      · replace hv := y_br_t hv c2
        obtain ⟨t3, hq, ew⟩ := y_mp_e hv
        clear hv; subst ew
        replace kw4 : t3 = _ := kw4
        subst kw4
        have hv := hq
        clear hq
        refine lv_iload_n hx hb dX0_keepersOf_36 rfl (lv_at hl 2 rfl) ?_
        replace hv := Option.some.inj hv
        subst hv
        rw [← kv4]
        exact z_iret hc hB hr dX0_keepersOf_37
      · replace hv := y_br_f hv c2
        refine lv_aload_n hx hb dX0_keepersOf_10 rfl (lv_at hl 0 rfl) ?_
        refine lv_iload_n hx hb dX0_keepersOf_11 rfl (lv_at hl 3 rfl) ?_
        refine lv_iconst (v := (1 : Int32)) hx hb dX0_keepersOf_12 (by decide) ?_
        refine lv_iadd hx hb dX0_keepersOf_13 ?_
        obtain ⟨g9, hv⟩ := y_gd_e hv
        obtain ⟨r5, c4, hv⟩ := y_bi_e hv
        refine z_thI hc hB (z_runV hc hB 0 (mm_X0_keptIn hSK l ad o0 (x3 + (1 : Int32)) h c4) md_X0_keptIn qmX0_137 g9 (by decide) rfl rfl rfl ⟨Nat.le_of_ble_eq_true rfl, Nat.le_of_ble_eq_true rfl⟩ rfl hl.1 rfl (Nat.le_of_ble_eq_true rfl) dX0_keepersOf_14 ⟨Nat.le_of_ble_eq_true rfl, Nat.le_of_ble_eq_true rfl⟩) (fun H locs hB => ?_)
        refine lv_iconst (v := (1 : Int32)) hx hb dX0_keepersOf_17 (by decide) ?_
        refine lv_iload_n hx hb dX0_keepersOf_18 rfl (lv_at hl 1 rfl) ?_
        refine lv_ishl hx hb dX0_keepersOf_19 ?_
        refine lv_iand hx hb dX0_keepersOf_20 ?_
        refine lv_if_eq (tgt := 30) hx hb dX0_keepersOf_21 (by decide) (fun c10 => ?_) (fun c10 => ?_)
        · replace hv := y_br_t hv c10
          exact b30 x2 x3 _ _ _ hB (lv_sub hl [0, 1, 2, 3] rfl) _ hv kw4
        · replace hv := y_br_f hv c10
          refine lv_iload_n hx hb dX0_keepersOf_24 rfl (lv_at hl 2 rfl) ?_
          refine lv_iconst (v := (1 : Int32)) hx hb dX0_keepersOf_25 (by decide) ?_
          refine lv_iload_n hx hb dX0_keepersOf_26 rfl (lv_at hl 3 rfl) ?_
          refine lv_ishl hx hb dX0_keepersOf_27 ?_
          refine lv_ior hx hb dX0_keepersOf_28 ?_
          obtain ⟨v11, ev11, hv⟩ := y_nm_e hv
          rw [← ev11]
          refine lv_istore_n (lv' := [(2, .int v11), (0, .ref (ad o0)), (1, .int x1), (3, .int x3)]) hx hb dX0_keepersOf_29 rfl hl (by decide) rfl (fun ls hl => ?_)
          exact b30 v11 x3 _ _ _ hB (lv_sub hl [1, 2, 0, 3] rfl) _ hv kw4
  rw [← kt] at hv
  refine lv_iconst (v := (0 : Int32)) hx hb dX0_keepersOf_0 (by decide) ?_
  refine lv_istore_n (lv' := [(2, .int (0 : Int32)), (0, .ref (ad o0)), (1, .int x1)]) hx hb dX0_keepersOf_1 rfl hl (by decide) rfl (fun ls hl => ?_)
  refine lv_iconst (v := (0 : Int32)) hx hb dX0_keepersOf_2 (by decide) ?_
  refine lv_istore_n (lv' := [(3, .int (0 : Int32)), (2, .int (0 : Int32)), (0, .ref (ad o0)), (1, .int x1)]) hx hb dX0_keepersOf_3 rfl hl (by decide) rfl (fun ls hl => ?_)
  obtain ⟨n, hv⟩ := y_lp_e hv
  exact L4 n (0 : Int32) (0 : Int32) _ _ _ hB (lv_sub hl [2, 3, 1, 0] rfl) _ hv kt
theorem qmX0_143 : Cond.methodLink RX0 143 yX0_inDream ∈ z_ws := List.mem_filter.mpr ⟨List.mem_append_right _ (List.mem_of_getElem? (i := 517) (by decide +kernel)), rfl⟩
theorem qc_X0_inDream : Cond.code yX0_inDream cX0_inDream 2 (some .int) ∈ z_ws := List.mem_filter.mpr ⟨List.mem_append_right _ (List.mem_of_getElem? (i := 472) (by decide +kernel)), rfl⟩
theorem qi_X0_inDream : Cond.instanceMethod yX0_inDream ∈ z_ws := List.mem_filter.mpr ⟨List.mem_append_right _ (List.mem_of_getElem? (i := 470) (by decide +kernel)), rfl⟩
theorem qs_X0_inDream : Cond.selects RX0 yX0_inDream yX0_inDream ∈ z_ws := List.mem_filter.mpr ⟨List.mem_append_right _ (List.mem_of_getElem? (i := 471) (by decide +kernel)), rfl⟩
theorem md_X0_inDream : z_mdV yX0_inDream cX0_inDream 2 (some .int) 1 := ⟨⟨qn_RX0, qc_X0_inDream, ⟨by decide +kernel, by decide +kernel, by decide +kernel⟩⟩, qi_X0_inDream, qs_X0_inDream⟩
theorem qmX0_140 : Cond.methodLink RX0 140 yX0_inRoom ∈ z_ws := List.mem_filter.mpr ⟨List.mem_append_right _ (List.mem_of_getElem? (i := 516) (by decide +kernel)), rfl⟩
theorem qc_X0_inRoom : Cond.code yX0_inRoom cX0_inRoom 2 (some .int) ∈ z_ws := List.mem_filter.mpr ⟨List.mem_append_right _ (List.mem_of_getElem? (i := 468) (by decide +kernel)), rfl⟩
theorem qi_X0_inRoom : Cond.instanceMethod yX0_inRoom ∈ z_ws := List.mem_filter.mpr ⟨List.mem_append_right _ (List.mem_of_getElem? (i := 466) (by decide +kernel)), rfl⟩
theorem qs_X0_inRoom : Cond.selects RX0 yX0_inRoom yX0_inRoom ∈ z_ws := List.mem_filter.mpr ⟨List.mem_append_right _ (List.mem_of_getElem? (i := 467) (by decide +kernel)), rfl⟩
theorem md_X0_inRoom : z_mdV yX0_inRoom cX0_inRoom 2 (some .int) 1 := ⟨⟨qn_RX0, qc_X0_inRoom, ⟨by decide +kernel, by decide +kernel, by decide +kernel⟩⟩, qi_X0_inRoom, qs_X0_inRoom⟩
theorem dX0_plainChance_0 : decode cX0_plainChance 0 = .ok (.iload_n 2, 1) := by decide +kernel
theorem dX0_plainChance_1 : decode cX0_plainChance 1 = .ok (.ifCond .eq 15, 3) := by decide +kernel
theorem dX0_plainChance_4 : decode cX0_plainChance 4 = .ok (.aload_n 0, 1) := by decide +kernel
theorem dX0_plainChance_5 : decode cX0_plainChance 5 = .ok (.iload_n 2, 1) := by decide +kernel
theorem dX0_plainChance_6 : decode cX0_plainChance 6 = .ok (.invokevirtual 137, 3) := by decide +kernel
theorem dX0_plainChance_9 : decode cX0_plainChance 9 = .ok (.iconst 1, 1) := by decide +kernel
theorem dX0_plainChance_10 : decode cX0_plainChance 10 = .ok (.iload_n 1, 1) := by decide +kernel
theorem dX0_plainChance_11 : decode cX0_plainChance 11 = .ok (.ishl, 1) := by decide +kernel
theorem dX0_plainChance_12 : decode cX0_plainChance 12 = .ok (.iand, 1) := by decide +kernel
theorem dX0_plainChance_13 : decode cX0_plainChance 13 = .ok (.ifCond .eq 7, 3) := by decide +kernel
theorem dX0_plainChance_16 : decode cX0_plainChance 16 = .ok (.iconst 1, 1) := by decide +kernel
theorem dX0_plainChance_17 : decode cX0_plainChance 17 = .ok (.goto 4, 3) := by decide +kernel
theorem dX0_plainChance_20 : decode cX0_plainChance 20 = .ok (.iconst 0, 1) := by decide +kernel
theorem dX0_plainChance_21 : decode cX0_plainChance 21 = .ok (.istore_n 3, 1) := by decide +kernel
theorem dX0_plainChance_22 : decode cX0_plainChance 22 = .ok (.iload_n 3, 1) := by decide +kernel
theorem dX0_plainChance_23 : decode cX0_plainChance 23 = .ok (.ifCond .eq 11, 3) := by decide +kernel
theorem dX0_plainChance_26 : decode cX0_plainChance 26 = .ok (.aload_n 0, 1) := by decide +kernel
theorem dX0_plainChance_27 : decode cX0_plainChance 27 = .ok (.iload_n 1, 1) := by decide +kernel
theorem dX0_plainChance_28 : decode cX0_plainChance 28 = .ok (.invokevirtual 140, 3) := by decide +kernel
theorem dX0_plainChance_31 : decode cX0_plainChance 31 = .ok (.goto 8, 3) := by decide +kernel
theorem dX0_plainChance_34 : decode cX0_plainChance 34 = .ok (.aload_n 0, 1) := by decide +kernel
theorem dX0_plainChance_35 : decode cX0_plainChance 35 = .ok (.iload_n 1, 1) := by decide +kernel
theorem dX0_plainChance_36 : decode cX0_plainChance 36 = .ok (.invokevirtual 143, 3) := by decide +kernel
theorem dX0_plainChance_39 : decode cX0_plainChance 39 = .ok (.ireturn, 1) := by decide +kernel
abbrev rm_X0_plainChance : Room := { frames := 1, cells := 0, slots := 0, locals := 21 }
noncomputable def fX0_plainChance_b21 (o0 : Nat) (x1 : Int32) (s0 : Int32) (h : z_T) : Option (Int32) :=
  y_br (s0 = 0)
    (y_gd (z_ok h o0 0) <|
    y_bi (fX0_inDream o0 x1 h) fun r3 =>
    some r3)
    (y_gd (z_ok h o0 0) <|
    y_bi (fX0_inRoom o0 x1 h) fun r9 =>
    some r9)
noncomputable def fX0_plainChance_b16 (o0 : Nat) (x1 : Int32) (h : z_T) : Option (Int32) :=
  fX0_plainChance_b21 o0 x1 (1 : Int32) h
noncomputable def fX0_plainChance (o0 : Nat) (x1 : Int32) (x2 : Int32) (h : z_T) : Option (Int32) :=
  y_br (x2 = 0)
    (fX0_plainChance_b16 o0 x1 h)
    (y_gd (z_ok h o0 0) <|
    y_bi (fX0_keptIn o0 x2 h) fun r16 =>
    y_br ((r16 &&& ((1 : Int32) <<< (x1 &&& 31))) = 0)
      (fX0_plainChance_b21 o0 x1 (0 : Int32) h)
      (fX0_plainChance_b16 o0 x1 h))
set_option maxHeartbeats 4000000 in
set_option maxRecDepth 100000 in
theorem mm_X0_plainChance {G : z_Gt} (hSK : z_SK (z_S G)) (l : Launch) (ad : Nat → Nat) (o0 : Nat) (x1 : Int32) (x2 : Int32) (h : z_T) {r0 : Int32} (hv : fX0_plainChance o0 x1 x2 h = some r0) : z_Mi G (z_S G) l yX0_plainChance cX0_plainChance 4 (.int) rm_X0_plainChance 0 0 [.ref (ad o0), .int x1, .int x2] ad h h r0 := by
  refine z_ofW hSK (by decide) (Nat.le_of_ble_eq_true rfl) ?_
  intro p e s m args below meth c ls hc hr hnm hB hl
  have hx := hc.1.1
  have hb := hc.1.2.1
  have hown := hc.1.2.2.2.1
  have hts := hc.1.2.2.2.2
  replace hc : z_C G (z_S G) ad (z_n h) p m c cX0_plainChance 4 s args RX0 meth := hc
  replace hown : s.vm.findClass RX0 = some m.cls := hown
  replace hl : lv_has ls 4 [(0, .ref (ad o0)), (1, .int x1), (2, .int x2)] := hl
  show W p l e rm_X0_plainChance s m args below meth c s.heap [] 0 0 (MQ below (z_Qi G ad h (z_n h) s.heap.size r0) args s 0 0 (z_A ad (z_n h) s.heap.size)) (F0 m 0 ls [])
  obtain ⟨rs, kt⟩ : ∃ rs : Int32, rs = r0 := ⟨_, rfl⟩
  generalize hn0 : z_n h = n0 at hc hB ⊢
  have b21 : ∀ (s0 : Int32) (H : Heap) (locs : List Loc) (ls : Array Slot), z_B G ad n0 s h H locs → lv_has ls 4 [(0, .ref (ad o0)), (1, .int x1)] → ∀ w, fX0_plainChance_b21 o0 x1 s0 h = some w → w = r0 → W p l e rm_X0_plainChance s m args below meth c H locs 0 0 (MQ below (z_Qi G ad h n0 s.heap.size r0) args s 0 0 (z_A ad n0 s.heap.size)) (F0 m 21 ls [.int s0]) := by
    intro s0 H locs ls hB hl w hv kb
    refine lv_istore_n (lv' := [(3, .int s0), (0, .ref (ad o0)), (1, .int x1)]) hx hb dX0_plainChance_21 rfl hl (by decide) rfl (fun ls hl => ?_)
    refine lv_iload_n hx hb dX0_plainChance_22 rfl (lv_at hl 0 rfl) ?_
    refine lv_if_eq (tgt := 34) hx hb dX0_plainChance_23 (by decide) (fun c1 => ?_) (fun c1 => ?_)
    · replace hv := y_br_t hv c1
      refine lv_aload_n hx hb dX0_plainChance_34 rfl (lv_at hl 1 rfl) ?_
      refine lv_iload_n hx hb dX0_plainChance_35 rfl (lv_at hl 2 rfl) ?_
      obtain ⟨g7, hv⟩ := y_gd_e hv
      obtain ⟨r3, c2, hv⟩ := y_bi_e hv
      refine z_thI hc hB (z_runV hc hB 0 (mm_X0_inDream hSK l ad o0 x1 h c2) md_X0_inDream qmX0_143 g7 (by decide) rfl rfl rfl ⟨Nat.le_of_ble_eq_true rfl, Nat.le_of_ble_eq_true rfl⟩ rfl hl.1 rfl (Nat.le_of_ble_eq_true rfl) dX0_plainChance_36 ⟨Nat.le_of_ble_eq_true rfl, Nat.le_of_ble_eq_true rfl⟩) (fun H locs hB => ?_)
      replace hv := Option.some.inj hv
      subst hv
      rw [← kb]
      exact z_iret hc hB hr dX0_plainChance_39
    · replace hv := y_br_f hv c1
      refine lv_aload_n hx hb dX0_plainChance_26 rfl (lv_at hl 1 rfl) ?_
      refine lv_iload_n hx hb dX0_plainChance_27 rfl (lv_at hl 2 rfl) ?_
      obtain ⟨g13, hv⟩ := y_gd_e hv
      obtain ⟨r9, c8, hv⟩ := y_bi_e hv
      refine z_thI hc hB (z_runV hc hB 0 (mm_X0_inRoom hSK l ad o0 x1 h c8) md_X0_inRoom qmX0_140 g13 (by decide) rfl rfl rfl ⟨Nat.le_of_ble_eq_true rfl, Nat.le_of_ble_eq_true rfl⟩ rfl hl.1 rfl (Nat.le_of_ble_eq_true rfl) dX0_plainChance_28 ⟨Nat.le_of_ble_eq_true rfl, Nat.le_of_ble_eq_true rfl⟩) (fun H locs hB => ?_)
      refine lv_goto (tgt := 39) hx hb dX0_plainChance_31 (by decide) ?_
      replace hv := Option.some.inj hv
      subst hv
      rw [← kb]
      exact z_iret hc hB hr dX0_plainChance_39
  have b16 : ∀ (H : Heap) (locs : List Loc) (ls : Array Slot), z_B G ad n0 s h H locs → lv_has ls 4 [(0, .ref (ad o0)), (1, .int x1)] → ∀ w, fX0_plainChance_b16 o0 x1 h = some w → w = r0 → W p l e rm_X0_plainChance s m args below meth c H locs 0 0 (MQ below (z_Qi G ad h n0 s.heap.size r0) args s 0 0 (z_A ad n0 s.heap.size)) (F0 m 16 ls []) := by
    intro H locs ls hB hl w hv kb
    refine lv_iconst (v := (1 : Int32)) hx hb dX0_plainChance_16 (by decide) ?_
    refine lv_goto (tgt := 21) hx hb dX0_plainChance_17 (by decide) ?_
    exact b21 (1 : Int32) _ _ _ hB (lv_sub hl [0, 1] rfl) _ hv kb
  rw [← kt] at hv
  refine lv_iload_n hx hb dX0_plainChance_0 rfl (lv_at hl 2 rfl) ?_
  refine lv_if_eq (tgt := 16) hx hb dX0_plainChance_1 (by decide) (fun c14 => ?_) (fun c14 => ?_)
  · replace hv := y_br_t hv c14
    exact b16 _ _ _ hB (lv_sub hl [0, 1] rfl) _ hv kt
  · replace hv := y_br_f hv c14
    refine lv_aload_n hx hb dX0_plainChance_4 rfl (lv_at hl 0 rfl) ?_
    refine lv_iload_n hx hb dX0_plainChance_5 rfl (lv_at hl 2 rfl) ?_
    obtain ⟨g20, hv⟩ := y_gd_e hv
    obtain ⟨r16, c15, hv⟩ := y_bi_e hv
    refine z_thI hc hB (z_runV hc hB 0 (mm_X0_keptIn hSK l ad o0 x2 h c15) md_X0_keptIn qmX0_137 g20 (by decide) rfl rfl rfl ⟨Nat.le_of_ble_eq_true rfl, Nat.le_of_ble_eq_true rfl⟩ rfl hl.1 rfl (Nat.le_of_ble_eq_true rfl) dX0_plainChance_6 ⟨Nat.le_of_ble_eq_true rfl, Nat.le_of_ble_eq_true rfl⟩) (fun H locs hB => ?_)
    refine lv_iconst (v := (1 : Int32)) hx hb dX0_plainChance_9 (by decide) ?_
    refine lv_iload_n hx hb dX0_plainChance_10 rfl (lv_at hl 1 rfl) ?_
    refine lv_ishl hx hb dX0_plainChance_11 ?_
    refine lv_iand hx hb dX0_plainChance_12 ?_
    refine lv_if_eq (tgt := 20) hx hb dX0_plainChance_13 (by decide) (fun c21 => ?_) (fun c21 => ?_)
    · replace hv := y_br_t hv c21
      refine lv_iconst (v := (0 : Int32)) hx hb dX0_plainChance_20 (by decide) ?_
      exact b21 (0 : Int32) _ _ _ hB (lv_sub hl [0, 1] rfl) _ hv kt
    · replace hv := y_br_f hv c21
      exact b16 _ _ _ hB (lv_sub hl [0, 1] rfl) _ hv kt
theorem dX0_goodTests_0 : decode cX0_goodTests 0 = .ok (.iconst 0, 1) := by decide +kernel
theorem dX0_goodTests_1 : decode cX0_goodTests 1 = .ok (.istore_n 1, 1) := by decide +kernel
theorem dX0_goodTests_2 : decode cX0_goodTests 2 = .ok (.iconst 0, 1) := by decide +kernel
theorem dX0_goodTests_3 : decode cX0_goodTests 3 = .ok (.istore_n 2, 1) := by decide +kernel
theorem dX0_goodTests_4 : decode cX0_goodTests 4 = .ok (.iload_n 2, 1) := by decide +kernel
theorem dX0_goodTests_5 : decode cX0_goodTests 5 = .ok (.aload_n 0, 1) := by decide +kernel
theorem dX0_goodTests_6 : decode cX0_goodTests 6 = .ok (.getfield 79, 3) := by decide +kernel
theorem dX0_goodTests_9 : decode cX0_goodTests 9 = .ok (.if_icmp .ge 33, 3) := by decide +kernel
theorem dX0_goodTests_12 : decode cX0_goodTests 12 = .ok (.aload_n 0, 1) := by decide +kernel
theorem dX0_goodTests_13 : decode cX0_goodTests 13 = .ok (.iload_n 2, 1) := by decide +kernel
theorem dX0_goodTests_14 : decode cX0_goodTests 14 = .ok (.invokevirtual 140, 3) := by decide +kernel
theorem dX0_goodTests_17 : decode cX0_goodTests 17 = .ok (.bipush 9, 2) := by decide +kernel
theorem dX0_goodTests_19 : decode cX0_goodTests 19 = .ok (.if_icmp .ne 17, 3) := by decide +kernel
theorem dX0_goodTests_22 : decode cX0_goodTests 22 = .ok (.aload_n 0, 1) := by decide +kernel
theorem dX0_goodTests_23 : decode cX0_goodTests 23 = .ok (.iload_n 2, 1) := by decide +kernel
theorem dX0_goodTests_24 : decode cX0_goodTests 24 = .ok (.invokevirtual 143, 3) := by decide +kernel
theorem dX0_goodTests_27 : decode cX0_goodTests 27 = .ok (.ifCond .ne 9, 3) := by decide +kernel
theorem dX0_goodTests_30 : decode cX0_goodTests 30 = .ok (.iload_n 1, 1) := by decide +kernel
theorem dX0_goodTests_31 : decode cX0_goodTests 31 = .ok (.iconst 1, 1) := by decide +kernel
theorem dX0_goodTests_32 : decode cX0_goodTests 32 = .ok (.iload_n 2, 1) := by decide +kernel
theorem dX0_goodTests_33 : decode cX0_goodTests 33 = .ok (.ishl, 1) := by decide +kernel
theorem dX0_goodTests_34 : decode cX0_goodTests 34 = .ok (.ior, 1) := by decide +kernel
theorem dX0_goodTests_35 : decode cX0_goodTests 35 = .ok (.istore_n 1, 1) := by decide +kernel
theorem dX0_goodTests_36 : decode cX0_goodTests 36 = .ok (.iinc 2 1, 3) := by decide +kernel
theorem dX0_goodTests_39 : decode cX0_goodTests 39 = .ok (.goto (-35), 3) := by decide +kernel
theorem dX0_goodTests_42 : decode cX0_goodTests 42 = .ok (.iload_n 1, 1) := by decide +kernel
theorem dX0_goodTests_43 : decode cX0_goodTests 43 = .ok (.ireturn, 1) := by decide +kernel
abbrev rm_X0_goodTests : Room := { frames := 1, cells := 0, slots := 0, locals := 21 }
noncomputable def fX0_goodTests_b36 (o0 : Nat) (x1 : Int32) (x2 : Int32) (h : z_T) : Option ((Int32 × Int32) ⊕ (Int32)) :=
  y_nm (x2 + 1) fun v1 =>
  some (.inl (x1, v1))
noncomputable def fX0_goodTests_b4_i (o0 : Nat) (h : z_T) (x1 : Int32) (x2 : Int32) : Option ((Int32 × Int32) ⊕ (Int32)) :=
  y_gd (z_ok h o0 0) <|
  y_br ((z_I h o0 1) ≤ x2)
    (y_mp <|
    some x1)
    (y_bi (fX0_inRoom o0 x2 h) fun r6 =>
    y_br (r6 = (9 : Int32))
      (y_bi (fX0_inDream o0 x2 h) fun r12 =>
      y_br (r12 = 0)
        (y_nm ((x1 ||| ((1 : Int32) <<< (x2 &&& 31)))) fun v17 =>
        fX0_goodTests_b36 o0 v17 x2 h)
        (fX0_goodTests_b36 o0 x1 x2 h))
      (fX0_goodTests_b36 o0 x1 x2 h))
noncomputable def fX0_goodTests_b4 (o0 : Nat) (x1 : Int32) (x2 : Int32) (h : z_T) : Option (Int32) := y_lp (fun q : Int32 × Int32 => fX0_goodTests_b4_i o0 h q.1 q.2) (x1, x2)
noncomputable def fX0_goodTests (o0 : Nat) (h : z_T) : Option (Int32) :=
  fX0_goodTests_b4 o0 (0 : Int32) (0 : Int32) h
set_option maxHeartbeats 4000000 in
set_option maxRecDepth 100000 in
theorem mm_X0_goodTests {G : z_Gt} (hSK : z_SK (z_S G)) (l : Launch) (ad : Nat → Nat) (o0 : Nat) (h : z_T) {r0 : Int32} (hv : fX0_goodTests o0 h = some r0) : z_Mi G (z_S G) l yX0_goodTests cX0_goodTests 3 (.int) rm_X0_goodTests 0 0 [.ref (ad o0)] ad h h r0 := by
  refine z_ofW hSK (by decide) (Nat.le_of_ble_eq_true rfl) ?_
  intro p e s m args below meth c ls hc hr hnm hB hl
  have hx := hc.1.1
  have hb := hc.1.2.1
  have hown := hc.1.2.2.2.1
  have hts := hc.1.2.2.2.2
  replace hc : z_C G (z_S G) ad (z_n h) p m c cX0_goodTests 3 s args RX0 meth := hc
  replace hown : s.vm.findClass RX0 = some m.cls := hown
  replace hl : lv_has ls 3 [(0, .ref (ad o0))] := hl
  show W p l e rm_X0_goodTests s m args below meth c s.heap [] 0 0 (MQ below (z_Qi G ad h (z_n h) s.heap.size r0) args s 0 0 (z_A ad (z_n h) s.heap.size)) (F0 m 0 ls [])
  obtain ⟨rs, kt⟩ : ∃ rs : Int32, rs = r0 := ⟨_, rfl⟩
  generalize hn0 : z_n h = n0 at hc hB ⊢
  have L4 : ∀ (nn4 : Nat) (x1 : Int32) (x2 : Int32) (H : Heap) (locs : List Loc) (ls : Array Slot), z_B G ad n0 s h H locs → lv_has ls 3 [(0, .ref (ad o0)), (1, .int x1), (2, .int x2)] → ∀ vv4, y_lpN (fun q : Int32 × Int32 => fX0_goodTests_b4_i o0 h q.1 q.2) nn4 (x1, x2) = some vv4 → vv4 = r0 → W p l e rm_X0_goodTests s m args below meth c H locs 0 0 (MQ below (z_Qi G ad h n0 s.heap.size r0) args s 0 0 (z_A ad n0 s.heap.size)) (F0 m 4 ls []) := by
    intro nn4
    induction nn4 with
    | zero => intro x1 x2 H locs ls hB hl vv4 hv kv4; exact absurd hv (fun q => y_lpN_0 q)
    | succ nn4 ih4 =>
      intro x1 x2 H locs ls hB hl vv4 hv kv4
      obtain ⟨w, hq, kw4⟩ := y_lpN_e hv
      clear hv
      have hv : fX0_goodTests_b4_i o0 h x1 x2 = some w := hq
      clear hq
      have b36 : ∀ (x1 : Int32) (x2 : Int32) (H : Heap) (locs : List Loc) (ls : Array Slot), z_B G ad n0 s h H locs → lv_has ls 3 [(0, .ref (ad o0)), (1, .int x1), (2, .int x2)] → ∀ w, fX0_goodTests_b36 o0 x1 x2 h = some w → y_lq (fun q : Int32 × Int32 => fX0_goodTests_b4_i o0 h q.1 q.2) nn4 vv4 w → W p l e rm_X0_goodTests s m args below meth c H locs 0 0 (MQ below (z_Qi G ad h n0 s.heap.size r0) args s 0 0 (z_A ad n0 s.heap.size)) (F0 m 36 ls []) := by
        intro x1 x2 H locs ls hB hl w hv kw4
        obtain ⟨v1, ev1, hv⟩ := y_nm_e hv
        refine lv_iinc (v := v1) (lv' := [(2, .int v1), (0, .ref (ad o0)), (1, .int x1)]) hx hb dX0_goodTests_36 hl (k := 2) rfl (by rw [ev1]; rfl) (by decide) rfl (fun ls hl => ?_)
        refine lv_goto (tgt := 4) hx hb dX0_goodTests_39 (by decide) ?_
        replace hv := Option.some.inj hv
        subst hv
        exact ih4 x1 v1 _ _ _ hB (lv_sub hl [1, 2, 0] rfl) _ kw4 kv4
      refine lv_iload_n hx hb dX0_goodTests_4 rfl (lv_at hl 2 rfl) ?_
      refine lv_aload_n hx hb dX0_goodTests_5 rfl (lv_at hl 0 rfl) ?_
      obtain ⟨g2, hv⟩ := y_gd_e hv
      refine z_getI hc hB 0 1 g2 (by decide) (by decide) rfl (z_l1 hc qfX0_79) dX0_goodTests_6 ?_
      refine lv_icmp_ge (tgt := 42) hx hb dX0_goodTests_9 (by decide) (fun c3 => ?_) (fun c3 => ?_)
      · replace hv := y_br_t hv c3
        obtain ⟨t4, hq, ew⟩ := y_mp_e hv
        clear hv; subst ew
        replace kw4 : t4 = _ := kw4
        subst kw4
        have hv := hq
        clear hq
        refine lv_iload_n hx hb dX0_goodTests_42 rfl (lv_at hl 1 rfl) ?_
        replace hv := Option.some.inj hv
        subst hv
        rw [← kv4]
        exact z_iret hc hB hr dX0_goodTests_43
      · replace hv := y_br_f hv c3
        refine lv_aload_n hx hb dX0_goodTests_12 rfl (lv_at hl 0 rfl) ?_
        refine lv_iload_n hx hb dX0_goodTests_13 rfl (lv_at hl 2 rfl) ?_
        obtain ⟨r6, c5, hv⟩ := y_bi_e hv
        refine z_thI hc hB (z_runV hc hB 0 (mm_X0_inRoom hSK l ad o0 x2 h c5) md_X0_inRoom qmX0_140 g2 (by decide) rfl rfl rfl ⟨Nat.le_of_ble_eq_true rfl, Nat.le_of_ble_eq_true rfl⟩ rfl hl.1 rfl (Nat.le_of_ble_eq_true rfl) dX0_goodTests_14 ⟨Nat.le_of_ble_eq_true rfl, Nat.le_of_ble_eq_true rfl⟩) (fun H locs hB => ?_)
        refine lv_bipush (v := (9 : Int32)) hx hb dX0_goodTests_17 (by decide) ?_
        refine lv_icmp_ne (tgt := 36) hx hb dX0_goodTests_19 (by decide) (fun c10 => ?_) (fun c10 => ?_)
        · replace hv := y_br_f hv c10
          exact b36 x1 x2 _ _ _ hB (lv_sub hl [0, 1, 2] rfl) _ hv kw4
        · replace hv := y_br_t hv c10
          refine lv_aload_n hx hb dX0_goodTests_22 rfl (lv_at hl 0 rfl) ?_
          refine lv_iload_n hx hb dX0_goodTests_23 rfl (lv_at hl 2 rfl) ?_
          obtain ⟨r12, c11, hv⟩ := y_bi_e hv
          refine z_thI hc hB (z_runV hc hB 0 (mm_X0_inDream hSK l ad o0 x2 h c11) md_X0_inDream qmX0_143 g2 (by decide) rfl rfl rfl ⟨Nat.le_of_ble_eq_true rfl, Nat.le_of_ble_eq_true rfl⟩ rfl hl.1 rfl (Nat.le_of_ble_eq_true rfl) dX0_goodTests_24 ⟨Nat.le_of_ble_eq_true rfl, Nat.le_of_ble_eq_true rfl⟩) (fun H locs hB => ?_)
          refine lv_if_ne (tgt := 36) hx hb dX0_goodTests_27 (by decide) (fun c16 => ?_) (fun c16 => ?_)
          · replace hv := y_br_f hv c16
            exact b36 x1 x2 _ _ _ hB (lv_sub hl [0, 1, 2] rfl) _ hv kw4
          · replace hv := y_br_t hv c16
            refine lv_iload_n hx hb dX0_goodTests_30 rfl (lv_at hl 1 rfl) ?_
            refine lv_iconst (v := (1 : Int32)) hx hb dX0_goodTests_31 (by decide) ?_
            refine lv_iload_n hx hb dX0_goodTests_32 rfl (lv_at hl 2 rfl) ?_
            refine lv_ishl hx hb dX0_goodTests_33 ?_
            refine lv_ior hx hb dX0_goodTests_34 ?_
            obtain ⟨v17, ev17, hv⟩ := y_nm_e hv
            rw [← ev17]
            refine lv_istore_n (lv' := [(1, .int v17), (0, .ref (ad o0)), (2, .int x2)]) hx hb dX0_goodTests_35 rfl hl (by decide) rfl (fun ls hl => ?_)
            exact b36 v17 x2 _ _ _ hB (lv_sub hl [1, 0, 2] rfl) _ hv kw4
  rw [← kt] at hv
  refine lv_iconst (v := (0 : Int32)) hx hb dX0_goodTests_0 (by decide) ?_
  refine lv_istore_n (lv' := [(1, .int (0 : Int32)), (0, .ref (ad o0))]) hx hb dX0_goodTests_1 rfl hl (by decide) rfl (fun ls hl => ?_)
  refine lv_iconst (v := (0 : Int32)) hx hb dX0_goodTests_2 (by decide) ?_
  refine lv_istore_n (lv' := [(2, .int (0 : Int32)), (1, .int (0 : Int32)), (0, .ref (ad o0))]) hx hb dX0_goodTests_3 rfl hl (by decide) rfl (fun ls hl => ?_)
  obtain ⟨n, hv⟩ := y_lp_e hv
  exact L4 n (0 : Int32) (0 : Int32) _ _ _ hB (lv_sub hl [2, 1, 0] rfl) _ hv kt
theorem dX0_isForgedBy_0 : decode cX0_isForgedBy 0 = .ok (.iconst 0, 1) := by decide +kernel
theorem dX0_isForgedBy_1 : decode cX0_isForgedBy 1 = .ok (.istore_n 2, 1) := by decide +kernel
theorem dX0_isForgedBy_2 : decode cX0_isForgedBy 2 = .ok (.iload_n 2, 1) := by decide +kernel
theorem dX0_isForgedBy_3 : decode cX0_isForgedBy 3 = .ok (.aload_n 0, 1) := by decide +kernel
theorem dX0_isForgedBy_4 : decode cX0_isForgedBy 4 = .ok (.getfield 99, 3) := by decide +kernel
theorem dX0_isForgedBy_7 : decode cX0_isForgedBy 7 = .ok (.if_icmp .ge 25, 3) := by decide +kernel
theorem dX0_isForgedBy_10 : decode cX0_isForgedBy 10 = .ok (.iload_n 1, 1) := by decide +kernel
theorem dX0_isForgedBy_11 : decode cX0_isForgedBy 11 = .ok (.aload_n 0, 1) := by decide +kernel
theorem dX0_isForgedBy_12 : decode cX0_isForgedBy 12 = .ok (.iload_n 2, 1) := by decide +kernel
theorem dX0_isForgedBy_13 : decode cX0_isForgedBy 13 = .ok (.iconst 1, 1) := by decide +kernel
theorem dX0_isForgedBy_14 : decode cX0_isForgedBy 14 = .ok (.iadd, 1) := by decide +kernel
theorem dX0_isForgedBy_15 : decode cX0_isForgedBy 15 = .ok (.invokevirtual 137, 3) := by decide +kernel
theorem dX0_isForgedBy_18 : decode cX0_isForgedBy 18 = .ok (.iconst (-1), 1) := by decide +kernel
theorem dX0_isForgedBy_19 : decode cX0_isForgedBy 19 = .ok (.ixor, 1) := by decide +kernel
theorem dX0_isForgedBy_20 : decode cX0_isForgedBy 20 = .ok (.iand, 1) := by decide +kernel
theorem dX0_isForgedBy_21 : decode cX0_isForgedBy 21 = .ok (.ifCond .ne 5, 3) := by decide +kernel
theorem dX0_isForgedBy_24 : decode cX0_isForgedBy 24 = .ok (.iload_n 2, 1) := by decide +kernel
theorem dX0_isForgedBy_25 : decode cX0_isForgedBy 25 = .ok (.ireturn, 1) := by decide +kernel
theorem dX0_isForgedBy_26 : decode cX0_isForgedBy 26 = .ok (.iinc 2 1, 3) := by decide +kernel
theorem dX0_isForgedBy_29 : decode cX0_isForgedBy 29 = .ok (.goto (-27), 3) := by decide +kernel
theorem dX0_isForgedBy_32 : decode cX0_isForgedBy 32 = .ok (.iconst (-1), 1) := by decide +kernel
theorem dX0_isForgedBy_33 : decode cX0_isForgedBy 33 = .ok (.ireturn, 1) := by decide +kernel
abbrev rm_X0_isForgedBy : Room := { frames := 1, cells := 0, slots := 0, locals := 21 }
noncomputable def fX0_isForgedBy_b2_i (o0 : Nat) (x1 : Int32) (h : z_T) (x2 : Int32) : Option ((Int32) ⊕ (Int32)) :=
  y_gd (z_ok h o0 0) <|
  y_br ((z_I h o0 2) ≤ x2)
    (y_mp <|
    some (-1 : Int32))
    (y_bi (fX0_keptIn o0 (x2 + (1 : Int32)) h) fun r5 =>
    y_br ((x1 &&& (r5 ^^^ (-1 : Int32))) = 0)
      (y_mp <|
      some x2)
      (y_nm (x2 + 1) fun v10 =>
      some (.inl (v10))))
noncomputable def fX0_isForgedBy_b2 (o0 : Nat) (x1 : Int32) (x2 : Int32) (h : z_T) : Option (Int32) := y_lp (fun q : Int32 => fX0_isForgedBy_b2_i o0 x1 h q) (x2)
noncomputable def fX0_isForgedBy (o0 : Nat) (x1 : Int32) (h : z_T) : Option (Int32) :=
  fX0_isForgedBy_b2 o0 x1 (0 : Int32) h
set_option maxHeartbeats 4000000 in
set_option maxRecDepth 100000 in
theorem mm_X0_isForgedBy {G : z_Gt} (hSK : z_SK (z_S G)) (l : Launch) (ad : Nat → Nat) (o0 : Nat) (x1 : Int32) (h : z_T) {r0 : Int32} (hv : fX0_isForgedBy o0 x1 h = some r0) : z_Mi G (z_S G) l yX0_isForgedBy cX0_isForgedBy 3 (.int) rm_X0_isForgedBy 0 0 [.ref (ad o0), .int x1] ad h h r0 := by
  refine z_ofW hSK (by decide) (Nat.le_of_ble_eq_true rfl) ?_
  intro p e s m args below meth c ls hc hr hnm hB hl
  have hx := hc.1.1
  have hb := hc.1.2.1
  have hown := hc.1.2.2.2.1
  have hts := hc.1.2.2.2.2
  replace hc : z_C G (z_S G) ad (z_n h) p m c cX0_isForgedBy 3 s args RX0 meth := hc
  replace hown : s.vm.findClass RX0 = some m.cls := hown
  replace hl : lv_has ls 3 [(0, .ref (ad o0)), (1, .int x1)] := hl
  show W p l e rm_X0_isForgedBy s m args below meth c s.heap [] 0 0 (MQ below (z_Qi G ad h (z_n h) s.heap.size r0) args s 0 0 (z_A ad (z_n h) s.heap.size)) (F0 m 0 ls [])
  obtain ⟨rs, kt⟩ : ∃ rs : Int32, rs = r0 := ⟨_, rfl⟩
  generalize hn0 : z_n h = n0 at hc hB ⊢
  have L2 : ∀ (nn2 : Nat) (x2 : Int32) (H : Heap) (locs : List Loc) (ls : Array Slot), z_B G ad n0 s h H locs → lv_has ls 3 [(0, .ref (ad o0)), (1, .int x1), (2, .int x2)] → ∀ vv2, y_lpN (fun q : Int32 => fX0_isForgedBy_b2_i o0 x1 h q) nn2 (x2) = some vv2 → vv2 = r0 → W p l e rm_X0_isForgedBy s m args below meth c H locs 0 0 (MQ below (z_Qi G ad h n0 s.heap.size r0) args s 0 0 (z_A ad n0 s.heap.size)) (F0 m 2 ls []) := by
    intro nn2
    induction nn2 with
    | zero => intro x2 H locs ls hB hl vv2 hv kv2; exact absurd hv (fun q => y_lpN_0 q)
    | succ nn2 ih2 =>
      intro x2 H locs ls hB hl vv2 hv kv2
      obtain ⟨w, hq, kw2⟩ := y_lpN_e hv
      clear hv
      have hv : fX0_isForgedBy_b2_i o0 x1 h x2 = some w := hq
      clear hq
      refine lv_iload_n hx hb dX0_isForgedBy_2 rfl (lv_at hl 2 rfl) ?_
      refine lv_aload_n hx hb dX0_isForgedBy_3 rfl (lv_at hl 0 rfl) ?_
      obtain ⟨g1, hv⟩ := y_gd_e hv
      refine z_getI hc hB 0 2 g1 (by decide) (by decide) rfl (z_l1 hc qfX0_99) dX0_isForgedBy_4 ?_
      refine lv_icmp_ge (tgt := 32) hx hb dX0_isForgedBy_7 (by decide) (fun c2 => ?_) (fun c2 => ?_)
      · replace hv := y_br_t hv c2
        obtain ⟨t3, hq, ew⟩ := y_mp_e hv
        clear hv; subst ew
        replace kw2 : t3 = _ := kw2
        subst kw2
        have hv := hq
        clear hq
        refine lv_iconst (v := (-1 : Int32)) hx hb dX0_isForgedBy_32 (by decide) ?_
        replace hv := Option.some.inj hv
        subst hv
        rw [← kv2]
        exact z_iret hc hB hr dX0_isForgedBy_33
      · replace hv := y_br_f hv c2
        refine lv_iload_n hx hb dX0_isForgedBy_10 rfl (lv_at hl 1 rfl) ?_
        refine lv_aload_n hx hb dX0_isForgedBy_11 rfl (lv_at hl 0 rfl) ?_
        refine lv_iload_n hx hb dX0_isForgedBy_12 rfl (lv_at hl 2 rfl) ?_
        refine lv_iconst (v := (1 : Int32)) hx hb dX0_isForgedBy_13 (by decide) ?_
        refine lv_iadd hx hb dX0_isForgedBy_14 ?_
        obtain ⟨r5, c4, hv⟩ := y_bi_e hv
        refine z_thI hc hB (z_runV hc hB 0 (mm_X0_keptIn hSK l ad o0 (x2 + (1 : Int32)) h c4) md_X0_keptIn qmX0_137 g1 (by decide) rfl rfl rfl ⟨Nat.le_of_ble_eq_true rfl, Nat.le_of_ble_eq_true rfl⟩ rfl hl.1 rfl (Nat.le_of_ble_eq_true rfl) dX0_isForgedBy_15 ⟨Nat.le_of_ble_eq_true rfl, Nat.le_of_ble_eq_true rfl⟩) (fun H locs hB => ?_)
        refine lv_iconst (v := (-1 : Int32)) hx hb dX0_isForgedBy_18 (by decide) ?_
        refine lv_ixor hx hb dX0_isForgedBy_19 ?_
        refine lv_iand hx hb dX0_isForgedBy_20 ?_
        refine lv_if_ne (tgt := 26) hx hb dX0_isForgedBy_21 (by decide) (fun c9 => ?_) (fun c9 => ?_)
        · replace hv := y_br_f hv c9
          obtain ⟨v10, ev10, hv⟩ := y_nm_e hv
          refine lv_iinc (v := v10) (lv' := [(2, .int v10), (0, .ref (ad o0)), (1, .int x1)]) hx hb dX0_isForgedBy_26 hl (k := 2) rfl (by rw [ev10]; rfl) (by decide) rfl (fun ls hl => ?_)
          refine lv_goto (tgt := 2) hx hb dX0_isForgedBy_29 (by decide) ?_
          replace hv := Option.some.inj hv
          subst hv
          exact ih2 v10 _ _ _ hB (lv_sub hl [1, 2, 0] rfl) _ kw2 kv2
        · replace hv := y_br_t hv c9
          obtain ⟨t11, hq, ew⟩ := y_mp_e hv
          clear hv; subst ew
          replace kw2 : t11 = _ := kw2
          subst kw2
          have hv := hq
          clear hq
          refine lv_iload_n hx hb dX0_isForgedBy_24 rfl (lv_at hl 2 rfl) ?_
          replace hv := Option.some.inj hv
          subst hv
          rw [← kv2]
          exact z_iret hc hB hr dX0_isForgedBy_25
  rw [← kt] at hv
  refine lv_iconst (v := (0 : Int32)) hx hb dX0_isForgedBy_0 (by decide) ?_
  refine lv_istore_n (lv' := [(2, .int (0 : Int32)), (0, .ref (ad o0)), (1, .int x1)]) hx hb dX0_isForgedBy_1 rfl hl (by decide) rfl (fun ls hl => ?_)
  obtain ⟨n, hv⟩ := y_lp_e hv
  exact L2 n (0 : Int32) _ _ _ hB (lv_sub hl [1, 2, 0] rfl) _ hv kt
theorem qmX0_146 : Cond.methodLink RX0 146 yX0_plainChance ∈ z_ws := List.mem_filter.mpr ⟨List.mem_append_right _ (List.mem_of_getElem? (i := 638) (by decide +kernel)), rfl⟩
theorem qc_X0_plainChance : Cond.code yX0_plainChance cX0_plainChance 4 (some .int) ∈ z_ws := List.mem_filter.mpr ⟨List.mem_append_right _ (List.mem_of_getElem? (i := 515) (by decide +kernel)), rfl⟩
theorem qi_X0_plainChance : Cond.instanceMethod yX0_plainChance ∈ z_ws := List.mem_filter.mpr ⟨List.mem_append_right _ (List.mem_of_getElem? (i := 513) (by decide +kernel)), rfl⟩
theorem qs_X0_plainChance : Cond.selects RX0 yX0_plainChance yX0_plainChance ∈ z_ws := List.mem_filter.mpr ⟨List.mem_append_right _ (List.mem_of_getElem? (i := 514) (by decide +kernel)), rfl⟩
theorem md_X0_plainChance : z_mdV yX0_plainChance cX0_plainChance 4 (some .int) 2 := ⟨⟨qn_RX0, qc_X0_plainChance, ⟨by decide +kernel, by decide +kernel, by decide +kernel⟩⟩, qi_X0_plainChance, qs_X0_plainChance⟩
theorem dX0_chanceOf_0 : decode cX0_chanceOf 0 = .ok (.lconst 1, 1) := by decide +kernel
theorem dX0_chanceOf_1 : decode cX0_chanceOf 1 = .ok (.lstore 4, 2) := by decide +kernel
theorem dX0_chanceOf_3 : decode cX0_chanceOf 3 = .ok (.iconst 0, 1) := by decide +kernel
theorem dX0_chanceOf_4 : decode cX0_chanceOf 4 = .ok (.istore 6, 2) := by decide +kernel
theorem dX0_chanceOf_6 : decode cX0_chanceOf 6 = .ok (.iload 6, 2) := by decide +kernel
theorem dX0_chanceOf_8 : decode cX0_chanceOf 8 = .ok (.aload_n 0, 1) := by decide +kernel
theorem dX0_chanceOf_9 : decode cX0_chanceOf 9 = .ok (.getfield 79, 3) := by decide +kernel
theorem dX0_chanceOf_12 : decode cX0_chanceOf 12 = .ok (.if_icmp .ge 53, 3) := by decide +kernel
theorem dX0_chanceOf_15 : decode cX0_chanceOf 15 = .ok (.iload_n 2, 1) := by decide +kernel
theorem dX0_chanceOf_16 : decode cX0_chanceOf 16 = .ok (.iconst 1, 1) := by decide +kernel
theorem dX0_chanceOf_17 : decode cX0_chanceOf 17 = .ok (.iload 6, 2) := by decide +kernel
theorem dX0_chanceOf_19 : decode cX0_chanceOf 19 = .ok (.ishl, 1) := by decide +kernel
theorem dX0_chanceOf_20 : decode cX0_chanceOf 20 = .ok (.iand, 1) := by decide +kernel
theorem dX0_chanceOf_21 : decode cX0_chanceOf 21 = .ok (.ifCond .eq 38, 3) := by decide +kernel
theorem dX0_chanceOf_24 : decode cX0_chanceOf 24 = .ok (.aload_n 0, 1) := by decide +kernel
theorem dX0_chanceOf_25 : decode cX0_chanceOf 25 = .ok (.iload 6, 2) := by decide +kernel
theorem dX0_chanceOf_27 : decode cX0_chanceOf 27 = .ok (.iload_n 1, 1) := by decide +kernel
theorem dX0_chanceOf_28 : decode cX0_chanceOf 28 = .ok (.invokevirtual 146, 3) := by decide +kernel
theorem dX0_chanceOf_31 : decode cX0_chanceOf 31 = .ok (.istore 7, 2) := by decide +kernel
theorem dX0_chanceOf_33 : decode cX0_chanceOf 33 = .ok (.lload 4, 2) := by decide +kernel
theorem dX0_chanceOf_35 : decode cX0_chanceOf 35 = .ok (.iload_n 3, 1) := by decide +kernel
theorem dX0_chanceOf_36 : decode cX0_chanceOf 36 = .ok (.iconst 1, 1) := by decide +kernel
theorem dX0_chanceOf_37 : decode cX0_chanceOf 37 = .ok (.iload 6, 2) := by decide +kernel
theorem dX0_chanceOf_39 : decode cX0_chanceOf 39 = .ok (.ishl, 1) := by decide +kernel
theorem dX0_chanceOf_40 : decode cX0_chanceOf 40 = .ok (.iand, 1) := by decide +kernel
theorem dX0_chanceOf_41 : decode cX0_chanceOf 41 = .ok (.ifCond .eq 9, 3) := by decide +kernel
theorem dX0_chanceOf_44 : decode cX0_chanceOf 44 = .ok (.iload 7, 2) := by decide +kernel
theorem dX0_chanceOf_46 : decode cX0_chanceOf 46 = .ok (.i2l, 1) := by decide +kernel
theorem dX0_chanceOf_47 : decode cX0_chanceOf 47 = .ok (.goto 9, 3) := by decide +kernel
theorem dX0_chanceOf_50 : decode cX0_chanceOf 50 = .ok (.bipush 9, 2) := by decide +kernel
theorem dX0_chanceOf_52 : decode cX0_chanceOf 52 = .ok (.iload 7, 2) := by decide +kernel
theorem dX0_chanceOf_54 : decode cX0_chanceOf 54 = .ok (.isub, 1) := by decide +kernel
theorem dX0_chanceOf_55 : decode cX0_chanceOf 55 = .ok (.i2l, 1) := by decide +kernel
theorem dX0_chanceOf_56 : decode cX0_chanceOf 56 = .ok (.lmul, 1) := by decide +kernel
theorem dX0_chanceOf_57 : decode cX0_chanceOf 57 = .ok (.lstore 4, 2) := by decide +kernel
theorem dX0_chanceOf_59 : decode cX0_chanceOf 59 = .ok (.iinc 6 1, 3) := by decide +kernel
theorem dX0_chanceOf_62 : decode cX0_chanceOf 62 = .ok (.goto (-56), 3) := by decide +kernel
theorem dX0_chanceOf_65 : decode cX0_chanceOf 65 = .ok (.lload 4, 2) := by decide +kernel
theorem dX0_chanceOf_67 : decode cX0_chanceOf 67 = .ok (.lreturn, 1) := by decide +kernel
abbrev rm_X0_chanceOf : Room := { frames := 2, cells := 0, slots := 0, locals := 44 }
noncomputable def fX0_chanceOf_b59 (o0 : Nat) (x1 : Int32) (x2 : Int32) (x3 : Int32) (l4 : Int64) (x6 : Int32) (h : z_T) : Option ((Int64 × Int32) ⊕ (Int64)) :=
  y_nm (x6 + 1) fun v1 =>
  some (.inl (l4, v1))
noncomputable def fX0_chanceOf_b56 (o0 : Nat) (x1 : Int32) (x2 : Int32) (x3 : Int32) (x6 : Int32) (s0 : Int64) (s1 : Int64) (h : z_T) : Option ((Int64 × Int32) ⊕ (Int64)) :=
  y_nm ((s0 * s1)) fun v2 =>
  fX0_chanceOf_b59 o0 x1 x2 x3 v2 x6 h
noncomputable def fX0_chanceOf_b6_i (o0 : Nat) (x1 : Int32) (x2 : Int32) (x3 : Int32) (h : z_T) (l4 : Int64) (x6 : Int32) : Option ((Int64 × Int32) ⊕ (Int64)) :=
  y_gd (z_ok h o0 0) <|
  y_br ((z_I h o0 1) ≤ x6)
    (y_mp <|
    some l4)
    (y_br ((x2 &&& ((1 : Int32) <<< (x6 &&& 31))) = 0)
      (fX0_chanceOf_b59 o0 x1 x2 x3 l4 x6 h)
      (y_bi (fX0_plainChance o0 x6 x1 h) fun r8 =>
      y_br ((x3 &&& ((1 : Int32) <<< (x6 &&& 31))) = 0)
        (fX0_chanceOf_b56 o0 x1 x2 x3 x6 l4 ((((9 : Int32) - r8)).toInt64) h)
        (fX0_chanceOf_b56 o0 x1 x2 x3 x6 l4 ((r8).toInt64) h)))
noncomputable def fX0_chanceOf_b6 (o0 : Nat) (x1 : Int32) (x2 : Int32) (x3 : Int32) (l4 : Int64) (x6 : Int32) (h : z_T) : Option (Int64) := y_lp (fun q : Int64 × Int32 => fX0_chanceOf_b6_i o0 x1 x2 x3 h q.1 q.2) (l4, x6)
noncomputable def fX0_chanceOf (o0 : Nat) (x1 : Int32) (x2 : Int32) (x3 : Int32) (h : z_T) : Option (Int64) :=
  fX0_chanceOf_b6 o0 x1 x2 x3 (1 : Int64) (0 : Int32) h
set_option maxHeartbeats 4000000 in
set_option maxRecDepth 100000 in
theorem mm_X0_chanceOf {G : z_Gt} (hSK : z_SK (z_S G)) (l : Launch) (ad : Nat → Nat) (o0 : Nat) (x1 : Int32) (x2 : Int32) (x3 : Int32) (h : z_T) {r0 : Int64} (hv : fX0_chanceOf o0 x1 x2 x3 h = some r0) : z_Ml G (z_S G) l yX0_chanceOf cX0_chanceOf 8 (.long) rm_X0_chanceOf 0 0 [.ref (ad o0), .int x1, .int x2, .int x3] ad h h r0 := by
  refine z_ofW hSK (by decide) (Nat.le_of_ble_eq_true rfl) ?_
  intro p e s m args below meth c ls hc hr hnm hB hl
  have hx := hc.1.1
  have hb := hc.1.2.1
  have hown := hc.1.2.2.2.1
  have hts := hc.1.2.2.2.2
  replace hc : z_C G (z_S G) ad (z_n h) p m c cX0_chanceOf 8 s args RX0 meth := hc
  replace hown : s.vm.findClass RX0 = some m.cls := hown
  replace hl : lv_has ls 8 [(0, .ref (ad o0)), (1, .int x1), (2, .int x2), (3, .int x3)] := hl
  show W p l e rm_X0_chanceOf s m args below meth c s.heap [] 0 0 (MQ below (z_Ql G ad h (z_n h) s.heap.size r0) args s 0 0 (z_A ad (z_n h) s.heap.size)) (F0 m 0 ls [])
  obtain ⟨rs, kt⟩ : ∃ rs : Int64, rs = r0 := ⟨_, rfl⟩
  generalize hn0 : z_n h = n0 at hc hB ⊢
  have L6 : ∀ (nn6 : Nat) (l4 : Int64) (x6 : Int32) (H : Heap) (locs : List Loc) (ls : Array Slot), z_B G ad n0 s h H locs → lv_has ls 8 [(0, .ref (ad o0)), (1, .int x1), (2, .int x2), (3, .int x3), (4, .long l4), (6, .int x6)] → ∀ vv6, y_lpN (fun q : Int64 × Int32 => fX0_chanceOf_b6_i o0 x1 x2 x3 h q.1 q.2) nn6 (l4, x6) = some vv6 → vv6 = r0 → W p l e rm_X0_chanceOf s m args below meth c H locs 0 0 (MQ below (z_Ql G ad h n0 s.heap.size r0) args s 0 0 (z_A ad n0 s.heap.size)) (F0 m 6 ls []) := by
    intro nn6
    induction nn6 with
    | zero => intro l4 x6 H locs ls hB hl vv6 hv kv6; exact absurd hv (fun q => y_lpN_0 q)
    | succ nn6 ih6 =>
      intro l4 x6 H locs ls hB hl vv6 hv kv6
      obtain ⟨w, hq, kw6⟩ := y_lpN_e hv
      clear hv
      have hv : fX0_chanceOf_b6_i o0 x1 x2 x3 h l4 x6 = some w := hq
      clear hq
      have b59 : ∀ (l4 : Int64) (x6 : Int32) (H : Heap) (locs : List Loc) (ls : Array Slot), z_B G ad n0 s h H locs → lv_has ls 8 [(0, .ref (ad o0)), (1, .int x1), (2, .int x2), (3, .int x3), (4, .long l4), (6, .int x6)] → ∀ w, fX0_chanceOf_b59 o0 x1 x2 x3 l4 x6 h = some w → y_lq (fun q : Int64 × Int32 => fX0_chanceOf_b6_i o0 x1 x2 x3 h q.1 q.2) nn6 vv6 w → W p l e rm_X0_chanceOf s m args below meth c H locs 0 0 (MQ below (z_Ql G ad h n0 s.heap.size r0) args s 0 0 (z_A ad n0 s.heap.size)) (F0 m 59 ls []) := by
        intro l4 x6 H locs ls hB hl w hv kw6
        obtain ⟨v1, ev1, hv⟩ := y_nm_e hv
        refine lv_iinc (v := v1) (lv' := [(6, .int v1), (0, .ref (ad o0)), (1, .int x1), (2, .int x2), (3, .int x3), (4, .long l4)]) hx hb dX0_chanceOf_59 hl (k := 5) rfl (by rw [ev1]; rfl) (by decide) rfl (fun ls hl => ?_)
        refine lv_goto (tgt := 6) hx hb dX0_chanceOf_62 (by decide) ?_
        replace hv := Option.some.inj hv
        subst hv
        exact ih6 l4 v1 _ _ _ hB (lv_sub hl [1, 2, 3, 4, 5, 0] rfl) _ kw6 kv6
      have b56 : ∀ (x6 : Int32) (s0 : Int64) (s1 : Int64) (H : Heap) (locs : List Loc) (ls : Array Slot), z_B G ad n0 s h H locs → lv_has ls 8 [(0, .ref (ad o0)), (1, .int x1), (2, .int x2), (3, .int x3), (6, .int x6)] → ∀ w, fX0_chanceOf_b56 o0 x1 x2 x3 x6 s0 s1 h = some w → y_lq (fun q : Int64 × Int32 => fX0_chanceOf_b6_i o0 x1 x2 x3 h q.1 q.2) nn6 vv6 w → W p l e rm_X0_chanceOf s m args below meth c H locs 0 0 (MQ below (z_Ql G ad h n0 s.heap.size r0) args s 0 0 (z_A ad n0 s.heap.size)) (F0 m 56 ls [.long s1, .long s0]) := by
        intro x6 s0 s1 H locs ls hB hl w hv kw6
        refine lv_lmul hx hb dX0_chanceOf_56 ?_
        obtain ⟨v2, ev2, hv⟩ := y_nm_e hv
        rw [← ev2]
        refine lv_lstore (lv' := [(4, .long v2), (0, .ref (ad o0)), (1, .int x1), (2, .int x2), (3, .int x3), (6, .int x6)]) hx hb dX0_chanceOf_57 hl (by decide) rfl (fun ls hl => ?_)
        exact b59 v2 x6 _ _ _ hB (lv_sub hl [1, 2, 3, 4, 0, 5] rfl) _ hv kw6
      refine lv_iload hx hb dX0_chanceOf_6 (lv_at hl 5 rfl) ?_
      refine lv_aload_n hx hb dX0_chanceOf_8 rfl (lv_at hl 0 rfl) ?_
      obtain ⟨g3, hv⟩ := y_gd_e hv
      refine z_getI hc hB 0 1 g3 (by decide) (by decide) rfl (z_l1 hc qfX0_79) dX0_chanceOf_9 ?_
      refine lv_icmp_ge (tgt := 65) hx hb dX0_chanceOf_12 (by decide) (fun c4 => ?_) (fun c4 => ?_)
      · replace hv := y_br_t hv c4
        obtain ⟨t5, hq, ew⟩ := y_mp_e hv
        clear hv; subst ew
        replace kw6 : t5 = _ := kw6
        subst kw6
        have hv := hq
        clear hq
        refine lv_lload hx hb dX0_chanceOf_65 (lv_at hl 4 rfl) ?_
        replace hv := Option.some.inj hv
        subst hv
        rw [← kv6]
        exact z_lret hc hB hr dX0_chanceOf_67
      · replace hv := y_br_f hv c4
        refine lv_iload_n hx hb dX0_chanceOf_15 rfl (lv_at hl 2 rfl) ?_
        refine lv_iconst (v := (1 : Int32)) hx hb dX0_chanceOf_16 (by decide) ?_
        refine lv_iload hx hb dX0_chanceOf_17 (lv_at hl 5 rfl) ?_
        refine lv_ishl hx hb dX0_chanceOf_19 ?_
        refine lv_iand hx hb dX0_chanceOf_20 ?_
        refine lv_if_eq (tgt := 59) hx hb dX0_chanceOf_21 (by decide) (fun c6 => ?_) (fun c6 => ?_)
        · replace hv := y_br_t hv c6
          exact b59 l4 x6 _ _ _ hB (lv_sub hl [0, 1, 2, 3, 4, 5] rfl) _ hv kw6
        · replace hv := y_br_f hv c6
          refine lv_aload_n hx hb dX0_chanceOf_24 rfl (lv_at hl 0 rfl) ?_
          refine lv_iload hx hb dX0_chanceOf_25 (lv_at hl 5 rfl) ?_
          refine lv_iload_n hx hb dX0_chanceOf_27 rfl (lv_at hl 1 rfl) ?_
          obtain ⟨r8, c7, hv⟩ := y_bi_e hv
          refine z_thI hc hB (z_runV hc hB 0 (mm_X0_plainChance hSK l ad o0 x6 x1 h c7) md_X0_plainChance qmX0_146 g3 (by decide) rfl rfl rfl ⟨Nat.le_of_ble_eq_true rfl, Nat.le_of_ble_eq_true rfl⟩ rfl hl.1 rfl (Nat.le_of_ble_eq_true rfl) dX0_chanceOf_28 ⟨Nat.le_of_ble_eq_true rfl, Nat.le_of_ble_eq_true rfl⟩) (fun H locs hB => ?_)
          refine lv_istore (lv' := [(7, .int r8), (0, .ref (ad o0)), (1, .int x1), (2, .int x2), (3, .int x3), (4, .long l4), (6, .int x6)]) hx hb dX0_chanceOf_31 hl (by decide) rfl (fun ls hl => ?_)
          refine lv_lload hx hb dX0_chanceOf_33 (lv_at hl 5 rfl) ?_
          refine lv_iload_n hx hb dX0_chanceOf_35 rfl (lv_at hl 4 rfl) ?_
          refine lv_iconst (v := (1 : Int32)) hx hb dX0_chanceOf_36 (by decide) ?_
          refine lv_iload hx hb dX0_chanceOf_37 (lv_at hl 6 rfl) ?_
          refine lv_ishl hx hb dX0_chanceOf_39 ?_
          refine lv_iand hx hb dX0_chanceOf_40 ?_
          refine lv_if_eq (tgt := 50) hx hb dX0_chanceOf_41 (by decide) (fun c12 => ?_) (fun c12 => ?_)
          · replace hv := y_br_t hv c12
            refine lv_bipush (v := (9 : Int32)) hx hb dX0_chanceOf_50 (by decide) ?_
            refine lv_iload hx hb dX0_chanceOf_52 (lv_at hl 0 rfl) ?_
            refine lv_isub hx hb dX0_chanceOf_54 ?_
            refine lv_i2l hx hb dX0_chanceOf_55 rfl ?_
            exact b56 x6 l4 ((((9 : Int32) - r8)).toInt64) _ _ _ hB (lv_sub hl [1, 2, 3, 4, 6] rfl) _ hv kw6
          · replace hv := y_br_f hv c12
            refine lv_iload hx hb dX0_chanceOf_44 (lv_at hl 0 rfl) ?_
            refine lv_i2l hx hb dX0_chanceOf_46 rfl ?_
            refine lv_goto (tgt := 56) hx hb dX0_chanceOf_47 (by decide) ?_
            exact b56 x6 l4 ((r8).toInt64) _ _ _ hB (lv_sub hl [1, 2, 3, 4, 6] rfl) _ hv kw6
  rw [← kt] at hv
  refine lv_lconst (v := (1 : Int64)) hx hb dX0_chanceOf_0 (by decide) ?_
  refine lv_lstore (lv' := [(4, .long (1 : Int64)), (0, .ref (ad o0)), (1, .int x1), (2, .int x2), (3, .int x3)]) hx hb dX0_chanceOf_1 hl (by decide) rfl (fun ls hl => ?_)
  refine lv_iconst (v := (0 : Int32)) hx hb dX0_chanceOf_3 (by decide) ?_
  refine lv_istore (lv' := [(6, .int (0 : Int32)), (4, .long (1 : Int64)), (0, .ref (ad o0)), (1, .int x1), (2, .int x2), (3, .int x3)]) hx hb dX0_chanceOf_4 hl (by decide) rfl (fun ls hl => ?_)
  obtain ⟨n, hv⟩ := y_lp_e hv
  exact L6 n (1 : Int64) (0 : Int32) _ _ _ hB (lv_sub hl [2, 3, 4, 5, 1, 0] rfl) _ hv kt
theorem qmX0_153 : Cond.methodLink RX0 153 Lib.MathLoose.min_long.x ∈ z_ws := List.mem_filter.mpr ⟨List.mem_append_right _ (List.mem_of_getElem? (i := 639) (by decide +kernel)), rfl⟩
theorem qmX0_149 : Cond.methodLink RX0 149 yX0_chanceOf ∈ z_ws := List.mem_filter.mpr ⟨List.mem_append_right _ (List.mem_of_getElem? (i := 634) (by decide +kernel)), rfl⟩
theorem qc_X0_chanceOf : Cond.code yX0_chanceOf cX0_chanceOf 8 (some .long) ∈ z_ws := List.mem_filter.mpr ⟨List.mem_append_right _ (List.mem_of_getElem? (i := 637) (by decide +kernel)), rfl⟩
theorem qi_X0_chanceOf : Cond.instanceMethod yX0_chanceOf ∈ z_ws := List.mem_filter.mpr ⟨List.mem_append_right _ (List.mem_of_getElem? (i := 635) (by decide +kernel)), rfl⟩
theorem qs_X0_chanceOf : Cond.selects RX0 yX0_chanceOf yX0_chanceOf ∈ z_ws := List.mem_filter.mpr ⟨List.mem_append_right _ (List.mem_of_getElem? (i := 636) (by decide +kernel)), rfl⟩
theorem md_X0_chanceOf : z_mdV yX0_chanceOf cX0_chanceOf 8 (some .long) 3 := ⟨⟨qn_RX0, qc_X0_chanceOf, ⟨by decide +kernel, by decide +kernel, by decide +kernel⟩⟩, qi_X0_chanceOf, qs_X0_chanceOf⟩
theorem dX0_mistakes_0 : decode cX0_mistakes 0 = .ok (.lconst 0, 1) := by decide +kernel
theorem dX0_mistakes_1 : decode cX0_mistakes 1 = .ok (.lstore_n 2, 1) := by decide +kernel
theorem dX0_mistakes_2 : decode cX0_mistakes 2 = .ok (.iconst 0, 1) := by decide +kernel
theorem dX0_mistakes_3 : decode cX0_mistakes 3 = .ok (.istore 4, 2) := by decide +kernel
theorem dX0_mistakes_5 : decode cX0_mistakes 5 = .ok (.iload 4, 2) := by decide +kernel
theorem dX0_mistakes_7 : decode cX0_mistakes 7 = .ok (.iload_n 1, 1) := by decide +kernel
theorem dX0_mistakes_8 : decode cX0_mistakes 8 = .ok (.if_icmp .gt 86, 3) := by decide +kernel
theorem dX0_mistakes_11 : decode cX0_mistakes 11 = .ok (.iload 4, 2) := by decide +kernel
theorem dX0_mistakes_13 : decode cX0_mistakes 13 = .ok (.iload_n 1, 1) := by decide +kernel
theorem dX0_mistakes_14 : decode cX0_mistakes 14 = .ok (.iconst (-1), 1) := by decide +kernel
theorem dX0_mistakes_15 : decode cX0_mistakes 15 = .ok (.ixor, 1) := by decide +kernel
theorem dX0_mistakes_16 : decode cX0_mistakes 16 = .ok (.iand, 1) := by decide +kernel
theorem dX0_mistakes_17 : decode cX0_mistakes 17 = .ok (.ifCond .ne 71, 3) := by decide +kernel
theorem dX0_mistakes_20 : decode cX0_mistakes 20 = .ok (.aload_n 0, 1) := by decide +kernel
theorem dX0_mistakes_21 : decode cX0_mistakes 21 = .ok (.iconst 0, 1) := by decide +kernel
theorem dX0_mistakes_22 : decode cX0_mistakes 22 = .ok (.invokevirtual 133, 3) := by decide +kernel
theorem dX0_mistakes_25 : decode cX0_mistakes 25 = .ok (.i2l, 1) := by decide +kernel
theorem dX0_mistakes_26 : decode cX0_mistakes 26 = .ok (.aload_n 0, 1) := by decide +kernel
theorem dX0_mistakes_27 : decode cX0_mistakes 27 = .ok (.iconst 0, 1) := by decide +kernel
theorem dX0_mistakes_28 : decode cX0_mistakes 28 = .ok (.iload_n 1, 1) := by decide +kernel
theorem dX0_mistakes_29 : decode cX0_mistakes 29 = .ok (.iload 4, 2) := by decide +kernel
theorem dX0_mistakes_31 : decode cX0_mistakes 31 = .ok (.invokevirtual 149, 3) := by decide +kernel
theorem dX0_mistakes_34 : decode cX0_mistakes 34 = .ok (.lmul, 1) := by decide +kernel
theorem dX0_mistakes_35 : decode cX0_mistakes 35 = .ok (.lstore 5, 2) := by decide +kernel
theorem dX0_mistakes_37 : decode cX0_mistakes 37 = .ok (.lconst 0, 1) := by decide +kernel
theorem dX0_mistakes_38 : decode cX0_mistakes 38 = .ok (.lstore 7, 2) := by decide +kernel
theorem dX0_mistakes_40 : decode cX0_mistakes 40 = .ok (.iconst 1, 1) := by decide +kernel
theorem dX0_mistakes_41 : decode cX0_mistakes 41 = .ok (.istore 9, 2) := by decide +kernel
theorem dX0_mistakes_43 : decode cX0_mistakes 43 = .ok (.iload 9, 2) := by decide +kernel
theorem dX0_mistakes_45 : decode cX0_mistakes 45 = .ok (.bipush 7, 2) := by decide +kernel
theorem dX0_mistakes_47 : decode cX0_mistakes 47 = .ok (.if_icmp .ge 31, 3) := by decide +kernel
theorem dX0_mistakes_50 : decode cX0_mistakes 50 = .ok (.lload 7, 2) := by decide +kernel
theorem dX0_mistakes_52 : decode cX0_mistakes 52 = .ok (.aload_n 0, 1) := by decide +kernel
theorem dX0_mistakes_53 : decode cX0_mistakes 53 = .ok (.iload 9, 2) := by decide +kernel
theorem dX0_mistakes_55 : decode cX0_mistakes 55 = .ok (.invokevirtual 133, 3) := by decide +kernel
theorem dX0_mistakes_58 : decode cX0_mistakes 58 = .ok (.i2l, 1) := by decide +kernel
theorem dX0_mistakes_59 : decode cX0_mistakes 59 = .ok (.aload_n 0, 1) := by decide +kernel
theorem dX0_mistakes_60 : decode cX0_mistakes 60 = .ok (.iload 9, 2) := by decide +kernel
theorem dX0_mistakes_62 : decode cX0_mistakes 62 = .ok (.iload_n 1, 1) := by decide +kernel
theorem dX0_mistakes_63 : decode cX0_mistakes 63 = .ok (.iload 4, 2) := by decide +kernel
theorem dX0_mistakes_65 : decode cX0_mistakes 65 = .ok (.invokevirtual 149, 3) := by decide +kernel
theorem dX0_mistakes_68 : decode cX0_mistakes 68 = .ok (.lmul, 1) := by decide +kernel
theorem dX0_mistakes_69 : decode cX0_mistakes 69 = .ok (.ladd, 1) := by decide +kernel
theorem dX0_mistakes_70 : decode cX0_mistakes 70 = .ok (.lstore 7, 2) := by decide +kernel
theorem dX0_mistakes_72 : decode cX0_mistakes 72 = .ok (.iinc 9 1, 3) := by decide +kernel
theorem dX0_mistakes_75 : decode cX0_mistakes 75 = .ok (.goto (-32), 3) := by decide +kernel
theorem dX0_mistakes_78 : decode cX0_mistakes 78 = .ok (.lload_n 2, 1) := by decide +kernel
theorem dX0_mistakes_79 : decode cX0_mistakes 79 = .ok (.lload 5, 2) := by decide +kernel
theorem dX0_mistakes_81 : decode cX0_mistakes 81 = .ok (.lload 7, 2) := by decide +kernel
theorem dX0_mistakes_83 : decode cX0_mistakes 83 = .ok (.invokestatic 153, 3) := by decide +kernel
theorem dX0_mistakes_86 : decode cX0_mistakes 86 = .ok (.ladd, 1) := by decide +kernel
theorem dX0_mistakes_87 : decode cX0_mistakes 87 = .ok (.lstore_n 2, 1) := by decide +kernel
theorem dX0_mistakes_88 : decode cX0_mistakes 88 = .ok (.iinc 4 1, 3) := by decide +kernel
theorem dX0_mistakes_91 : decode cX0_mistakes 91 = .ok (.goto (-86), 3) := by decide +kernel
theorem dX0_mistakes_94 : decode cX0_mistakes 94 = .ok (.lload_n 2, 1) := by decide +kernel
theorem dX0_mistakes_95 : decode cX0_mistakes 95 = .ok (.lreturn, 1) := by decide +kernel
abbrev rm_X0_mistakes : Room := { frames := 3, cells := 0, slots := 0, locals := 71 }
noncomputable def fX0_mistakes_b88 (o0 : Nat) (x1 : Int32) (l2 : Int64) (x4 : Int32) (h : z_T) : Option ((Int64 × Int32) ⊕ (Int64)) :=
  y_nm (x4 + 1) fun v1 =>
  some (.inl (l2, v1))
noncomputable def fX0_mistakes_b43_i (o0 : Nat) (x1 : Int32) (l2 : Int64) (x4 : Int32) (l5 : Int64) (h : z_T) (l7 : Int64) (x9 : Int32) : Option ((Int64 × Int32) ⊕ ((Int64 × Int32) ⊕ (Int64))) :=
  y_br ((7 : Int32) ≤ x9)
    (y_mp <|
    y_nm ((l2 + (if l7 < l5 then l7 else l5))) fun v4 =>
    fX0_mistakes_b88 o0 x1 v4 x4 h)
    (y_gd (z_ok h o0 0) <|
    y_bi (fX0_weightOf o0 x9 h) fun r6 =>
    y_bi (fX0_chanceOf o0 x9 x1 x4 h) fun r13 =>
    y_nm ((l7 + ((r6).toInt64 * r13))) fun v16 =>
    y_nm (x9 + 1) fun v17 =>
    some (.inl (v16, v17)))
noncomputable def fX0_mistakes_b43 (o0 : Nat) (x1 : Int32) (l2 : Int64) (x4 : Int32) (l5 : Int64) (l7 : Int64) (x9 : Int32) (h : z_T) : Option ((Int64 × Int32) ⊕ (Int64)) := y_lp (fun q : Int64 × Int32 => fX0_mistakes_b43_i o0 x1 l2 x4 l5 h q.1 q.2) (l7, x9)
noncomputable def fX0_mistakes_b5_i (o0 : Nat) (x1 : Int32) (h : z_T) (l2 : Int64) (x4 : Int32) : Option ((Int64 × Int32) ⊕ (Int64)) :=
  y_br (x1 < x4)
    (y_mp <|
    some l2)
    (y_br ((x4 &&& (x1 ^^^ (-1 : Int32))) = 0)
      (y_gd (z_ok h o0 0) <|
      y_bi (fX0_weightOf o0 (0 : Int32) h) fun r22 =>
      y_bi (fX0_chanceOf o0 (0 : Int32) x1 x4 h) fun r29 =>
      y_nm (((r22).toInt64 * r29)) fun v32 =>
      fX0_mistakes_b43 o0 x1 l2 x4 v32 (0 : Int64) (1 : Int32) h)
      (fX0_mistakes_b88 o0 x1 l2 x4 h))
noncomputable def fX0_mistakes_b5 (o0 : Nat) (x1 : Int32) (l2 : Int64) (x4 : Int32) (h : z_T) : Option (Int64) := y_lp (fun q : Int64 × Int32 => fX0_mistakes_b5_i o0 x1 h q.1 q.2) (l2, x4)
noncomputable def fX0_mistakes (o0 : Nat) (x1 : Int32) (h : z_T) : Option (Int64) :=
  fX0_mistakes_b5 o0 x1 (0 : Int64) (0 : Int32) h
set_option maxHeartbeats 4000000 in
set_option maxRecDepth 100000 in
theorem mm_X0_mistakes {G : z_Gt} (hSK : z_SK (z_S G)) (l : Launch) (ad : Nat → Nat) (o0 : Nat) (x1 : Int32) (h : z_T) {r0 : Int64} (hv : fX0_mistakes o0 x1 h = some r0) : z_Ml G (z_S G) l yX0_mistakes cX0_mistakes 10 (.long) rm_X0_mistakes 0 0 [.ref (ad o0), .int x1] ad h h r0 := by
  refine z_ofW hSK (by decide) (Nat.le_of_ble_eq_true rfl) ?_
  intro p e s m args below meth c ls hc hr hnm hB hl
  have hx := hc.1.1
  have hb := hc.1.2.1
  have hown := hc.1.2.2.2.1
  have hts := hc.1.2.2.2.2
  replace hc : z_C G (z_S G) ad (z_n h) p m c cX0_mistakes 10 s args RX0 meth := hc
  replace hown : s.vm.findClass RX0 = some m.cls := hown
  replace hl : lv_has ls 10 [(0, .ref (ad o0)), (1, .int x1)] := hl
  show W p l e rm_X0_mistakes s m args below meth c s.heap [] 0 0 (MQ below (z_Ql G ad h (z_n h) s.heap.size r0) args s 0 0 (z_A ad (z_n h) s.heap.size)) (F0 m 0 ls [])
  obtain ⟨rs, kt⟩ : ∃ rs : Int64, rs = r0 := ⟨_, rfl⟩
  generalize hn0 : z_n h = n0 at hc hB ⊢
  have L5 : ∀ (nn5 : Nat) (l2 : Int64) (x4 : Int32) (H : Heap) (locs : List Loc) (ls : Array Slot), z_B G ad n0 s h H locs → lv_has ls 10 [(0, .ref (ad o0)), (1, .int x1), (2, .long l2), (4, .int x4)] → ∀ vv5, y_lpN (fun q : Int64 × Int32 => fX0_mistakes_b5_i o0 x1 h q.1 q.2) nn5 (l2, x4) = some vv5 → vv5 = r0 → W p l e rm_X0_mistakes s m args below meth c H locs 0 0 (MQ below (z_Ql G ad h n0 s.heap.size r0) args s 0 0 (z_A ad n0 s.heap.size)) (F0 m 5 ls []) := by
    intro nn5
    induction nn5 with
    | zero => intro l2 x4 H locs ls hB hl vv5 hv kv5; exact absurd hv (fun q => y_lpN_0 q)
    | succ nn5 ih5 =>
      intro l2 x4 H locs ls hB hl vv5 hv kv5
      obtain ⟨w, hq, kw5⟩ := y_lpN_e hv
      clear hv
      have hv : fX0_mistakes_b5_i o0 x1 h l2 x4 = some w := hq
      clear hq
      have b88 : ∀ (l2 : Int64) (x4 : Int32) (H : Heap) (locs : List Loc) (ls : Array Slot), z_B G ad n0 s h H locs → lv_has ls 10 [(0, .ref (ad o0)), (1, .int x1), (2, .long l2), (4, .int x4)] → ∀ w, fX0_mistakes_b88 o0 x1 l2 x4 h = some w → y_lq (fun q : Int64 × Int32 => fX0_mistakes_b5_i o0 x1 h q.1 q.2) nn5 vv5 w → W p l e rm_X0_mistakes s m args below meth c H locs 0 0 (MQ below (z_Ql G ad h n0 s.heap.size r0) args s 0 0 (z_A ad n0 s.heap.size)) (F0 m 88 ls []) := by
        intro l2 x4 H locs ls hB hl w hv kw5
        obtain ⟨v1, ev1, hv⟩ := y_nm_e hv
        refine lv_iinc (v := v1) (lv' := [(4, .int v1), (0, .ref (ad o0)), (1, .int x1), (2, .long l2)]) hx hb dX0_mistakes_88 hl (k := 3) rfl (by rw [ev1]; rfl) (by decide) rfl (fun ls hl => ?_)
        refine lv_goto (tgt := 5) hx hb dX0_mistakes_91 (by decide) ?_
        replace hv := Option.some.inj hv
        subst hv
        exact ih5 l2 v1 _ _ _ hB (lv_sub hl [1, 2, 3, 0] rfl) _ kw5 kv5
      have L43 : ∀ (l2 : Int64) (x4 : Int32) (l5 : Int64) (nn43 : Nat) (l7 : Int64) (x9 : Int32) (H : Heap) (locs : List Loc) (ls : Array Slot), z_B G ad n0 s h H locs → lv_has ls 10 [(0, .ref (ad o0)), (1, .int x1), (2, .long l2), (4, .int x4), (5, .long l5), (7, .long l7), (9, .int x9)] → ∀ vv43, y_lpN (fun q : Int64 × Int32 => fX0_mistakes_b43_i o0 x1 l2 x4 l5 h q.1 q.2) nn43 (l7, x9) = some vv43 → y_lq (fun q : Int64 × Int32 => fX0_mistakes_b5_i o0 x1 h q.1 q.2) nn5 vv5 vv43 → W p l e rm_X0_mistakes s m args below meth c H locs 0 0 (MQ below (z_Ql G ad h n0 s.heap.size r0) args s 0 0 (z_A ad n0 s.heap.size)) (F0 m 43 ls []) := by
        intro l2 x4 l5 nn43
        induction nn43 with
        | zero => intro l7 x9 H locs ls hB hl vv43 hv kv43; exact absurd hv (fun q => y_lpN_0 q)
        | succ nn43 ih43 =>
          intro l7 x9 H locs ls hB hl vv43 hv kv43
          obtain ⟨w, hq, kw43⟩ := y_lpN_e hv
          clear hv
          have hv : fX0_mistakes_b43_i o0 x1 l2 x4 l5 h l7 x9 = some w := hq
          clear hq
          refine lv_iload hx hb dX0_mistakes_43 (lv_at hl 6 rfl) ?_
          refine lv_bipush (v := (7 : Int32)) hx hb dX0_mistakes_45 (by decide) ?_
          refine lv_icmp_ge (tgt := 78) hx hb dX0_mistakes_47 (by decide) (fun c2 => ?_) (fun c2 => ?_)
          · replace hv := y_br_t hv c2
            obtain ⟨t3, hq, ew⟩ := y_mp_e hv
            clear hv; subst ew
            replace kw43 : t3 = _ := kw43
            subst kw43
            have hv := hq
            clear hq
            refine lv_lload_n hx hb dX0_mistakes_78 rfl (lv_at hl 2 rfl) ?_
            refine lv_lload hx hb dX0_mistakes_79 (lv_at hl 4 rfl) ?_
            refine lv_lload hx hb dX0_mistakes_81 (lv_at hl 5 rfl) ?_
            refine va_mmin_long hx hb (hc.1.2.2.1.trans hl.1.symm) hown (hts _ qmX0_153) (hts _ q_minl_st) (hts _ q_mathIni) (hts _ q_minl_cd) (Nat.le_of_ble_eq_true rfl) (Nat.le_of_ble_eq_true rfl) (Nat.le_of_ble_eq_true rfl) (Nat.le_of_ble_eq_true rfl) dX0_mistakes_83 ?_
            refine lv_ladd hx hb dX0_mistakes_86 ?_
            obtain ⟨v4, ev4, hv⟩ := y_nm_e hv
            rw [← ev4]
            refine lv_lstore_n (lv' := [(2, .long v4), (0, .ref (ad o0)), (1, .int x1), (4, .int x4), (5, .long l5), (7, .long l7), (9, .int x9)]) hx hb dX0_mistakes_87 rfl hl (by decide) rfl (fun ls hl => ?_)
            exact b88 v4 x4 _ _ _ hB (lv_sub hl [1, 2, 0, 3] rfl) _ hv kv43
          · replace hv := y_br_f hv c2
            refine lv_lload hx hb dX0_mistakes_50 (lv_at hl 5 rfl) ?_
            refine lv_aload_n hx hb dX0_mistakes_52 rfl (lv_at hl 0 rfl) ?_
            refine lv_iload hx hb dX0_mistakes_53 (lv_at hl 6 rfl) ?_
            obtain ⟨g10, hv⟩ := y_gd_e hv
            obtain ⟨r6, c5, hv⟩ := y_bi_e hv
            refine z_thI hc hB (z_runV hc hB 0 (mm_X0_weightOf hSK l ad o0 x9 h c5) md_X0_weightOf qmX0_133 g10 (by decide) rfl rfl rfl ⟨Nat.le_of_ble_eq_true rfl, Nat.le_of_ble_eq_true rfl⟩ rfl hl.1 rfl (Nat.le_of_ble_eq_true rfl) dX0_mistakes_55 ⟨Nat.le_of_ble_eq_true rfl, Nat.le_of_ble_eq_true rfl⟩) (fun H locs hB => ?_)
            refine lv_i2l hx hb dX0_mistakes_58 rfl ?_
            refine lv_aload_n hx hb dX0_mistakes_59 rfl (lv_at hl 0 rfl) ?_
            refine lv_iload hx hb dX0_mistakes_60 (lv_at hl 6 rfl) ?_
            refine lv_iload_n hx hb dX0_mistakes_62 rfl (lv_at hl 1 rfl) ?_
            refine lv_iload hx hb dX0_mistakes_63 (lv_at hl 3 rfl) ?_
            obtain ⟨r13, c11, hv⟩ := y_bi_e hv
            refine z_thL hc hB (z_runV hc hB 0 (mm_X0_chanceOf hSK l ad o0 x9 x1 x4 h c11) md_X0_chanceOf qmX0_149 g10 (by decide) rfl rfl rfl ⟨Nat.le_of_ble_eq_true rfl, Nat.le_of_ble_eq_true rfl⟩ rfl hl.1 rfl (Nat.le_of_ble_eq_true rfl) dX0_mistakes_65 ⟨Nat.le_of_ble_eq_true rfl, Nat.le_of_ble_eq_true rfl⟩) (fun H locs hB => ?_)
            refine lv_lmul hx hb dX0_mistakes_68 ?_
            refine lv_ladd hx hb dX0_mistakes_69 ?_
            obtain ⟨v16, ev16, hv⟩ := y_nm_e hv
            rw [← ev16]
            refine lv_lstore (lv' := [(7, .long v16), (0, .ref (ad o0)), (1, .int x1), (2, .long l2), (4, .int x4), (5, .long l5), (9, .int x9)]) hx hb dX0_mistakes_70 hl (by decide) rfl (fun ls hl => ?_)
            obtain ⟨v17, ev17, hv⟩ := y_nm_e hv
            refine lv_iinc (v := v17) (lv' := [(9, .int v17), (7, .long v16), (0, .ref (ad o0)), (1, .int x1), (2, .long l2), (4, .int x4), (5, .long l5)]) hx hb dX0_mistakes_72 hl (k := 6) rfl (by rw [ev17]; rfl) (by decide) rfl (fun ls hl => ?_)
            refine lv_goto (tgt := 43) hx hb dX0_mistakes_75 (by decide) ?_
            replace hv := Option.some.inj hv
            subst hv
            exact ih43 v16 v17 _ _ _ hB (lv_sub hl [2, 3, 4, 5, 6, 1, 0] rfl) _ kw43 kv43
      refine lv_iload hx hb dX0_mistakes_5 (lv_at hl 3 rfl) ?_
      refine lv_iload_n hx hb dX0_mistakes_7 rfl (lv_at hl 1 rfl) ?_
      refine lv_icmp_gt (tgt := 94) hx hb dX0_mistakes_8 (by decide) (fun c18 => ?_) (fun c18 => ?_)
      · replace hv := y_br_t hv c18
        obtain ⟨t19, hq, ew⟩ := y_mp_e hv
        clear hv; subst ew
        replace kw5 : t19 = _ := kw5
        subst kw5
        have hv := hq
        clear hq
        refine lv_lload_n hx hb dX0_mistakes_94 rfl (lv_at hl 2 rfl) ?_
        replace hv := Option.some.inj hv
        subst hv
        rw [← kv5]
        exact z_lret hc hB hr dX0_mistakes_95
      · replace hv := y_br_f hv c18
        refine lv_iload hx hb dX0_mistakes_11 (lv_at hl 3 rfl) ?_
        refine lv_iload_n hx hb dX0_mistakes_13 rfl (lv_at hl 1 rfl) ?_
        refine lv_iconst (v := (-1 : Int32)) hx hb dX0_mistakes_14 (by decide) ?_
        refine lv_ixor hx hb dX0_mistakes_15 ?_
        refine lv_iand hx hb dX0_mistakes_16 ?_
        refine lv_if_ne (tgt := 88) hx hb dX0_mistakes_17 (by decide) (fun c20 => ?_) (fun c20 => ?_)
        · replace hv := y_br_f hv c20
          exact b88 l2 x4 _ _ _ hB (lv_sub hl [0, 1, 2, 3] rfl) _ hv kw5
        · replace hv := y_br_t hv c20
          refine lv_aload_n hx hb dX0_mistakes_20 rfl (lv_at hl 0 rfl) ?_
          refine lv_iconst (v := (0 : Int32)) hx hb dX0_mistakes_21 (by decide) ?_
          obtain ⟨g26, hv⟩ := y_gd_e hv
          obtain ⟨r22, c21, hv⟩ := y_bi_e hv
          refine z_thI hc hB (z_runV hc hB 0 (mm_X0_weightOf hSK l ad o0 (0 : Int32) h c21) md_X0_weightOf qmX0_133 g26 (by decide) rfl rfl rfl ⟨Nat.le_of_ble_eq_true rfl, Nat.le_of_ble_eq_true rfl⟩ rfl hl.1 rfl (Nat.le_of_ble_eq_true rfl) dX0_mistakes_22 ⟨Nat.le_of_ble_eq_true rfl, Nat.le_of_ble_eq_true rfl⟩) (fun H locs hB => ?_)
          refine lv_i2l hx hb dX0_mistakes_25 rfl ?_
          refine lv_aload_n hx hb dX0_mistakes_26 rfl (lv_at hl 0 rfl) ?_
          refine lv_iconst (v := (0 : Int32)) hx hb dX0_mistakes_27 (by decide) ?_
          refine lv_iload_n hx hb dX0_mistakes_28 rfl (lv_at hl 1 rfl) ?_
          refine lv_iload hx hb dX0_mistakes_29 (lv_at hl 3 rfl) ?_
          obtain ⟨r29, c27, hv⟩ := y_bi_e hv
          refine z_thL hc hB (z_runV hc hB 0 (mm_X0_chanceOf hSK l ad o0 (0 : Int32) x1 x4 h c27) md_X0_chanceOf qmX0_149 g26 (by decide) rfl rfl rfl ⟨Nat.le_of_ble_eq_true rfl, Nat.le_of_ble_eq_true rfl⟩ rfl hl.1 rfl (Nat.le_of_ble_eq_true rfl) dX0_mistakes_31 ⟨Nat.le_of_ble_eq_true rfl, Nat.le_of_ble_eq_true rfl⟩) (fun H locs hB => ?_)
          refine lv_lmul hx hb dX0_mistakes_34 ?_
          obtain ⟨v32, ev32, hv⟩ := y_nm_e hv
          rw [← ev32]
          refine lv_lstore (lv' := [(5, .long v32), (0, .ref (ad o0)), (1, .int x1), (2, .long l2), (4, .int x4)]) hx hb dX0_mistakes_35 hl (by decide) rfl (fun ls hl => ?_)
          refine lv_lconst (v := (0 : Int64)) hx hb dX0_mistakes_37 (by decide) ?_
          refine lv_lstore (lv' := [(7, .long (0 : Int64)), (5, .long v32), (0, .ref (ad o0)), (1, .int x1), (2, .long l2), (4, .int x4)]) hx hb dX0_mistakes_38 hl (by decide) rfl (fun ls hl => ?_)
          refine lv_iconst (v := (1 : Int32)) hx hb dX0_mistakes_40 (by decide) ?_
          refine lv_istore (lv' := [(9, .int (1 : Int32)), (7, .long (0 : Int64)), (5, .long v32), (0, .ref (ad o0)), (1, .int x1), (2, .long l2), (4, .int x4)]) hx hb dX0_mistakes_41 hl (by decide) rfl (fun ls hl => ?_)
          obtain ⟨n, hv⟩ := y_lp_e hv
          exact L43 l2 x4 v32 n (0 : Int64) (1 : Int32) _ _ _ hB (lv_sub hl [3, 4, 5, 6, 2, 1, 0] rfl) _ hv kw5
  rw [← kt] at hv
  refine lv_lconst (v := (0 : Int64)) hx hb dX0_mistakes_0 (by decide) ?_
  refine lv_lstore_n (lv' := [(2, .long (0 : Int64)), (0, .ref (ad o0)), (1, .int x1)]) hx hb dX0_mistakes_1 rfl hl (by decide) rfl (fun ls hl => ?_)
  refine lv_iconst (v := (0 : Int32)) hx hb dX0_mistakes_2 (by decide) ?_
  refine lv_istore (lv' := [(4, .int (0 : Int32)), (2, .long (0 : Int64)), (0, .ref (ad o0)), (1, .int x1)]) hx hb dX0_mistakes_3 hl (by decide) rfl (fun ls hl => ?_)
  obtain ⟨n, hv⟩ := y_lp_e hv
  exact L5 n (0 : Int64) (0 : Int32) _ _ _ hB (lv_sub hl [2, 3, 1, 0] rfl) _ hv kt
theorem qkJ6_265 : Cond.constant RJ6 265 (1431655765 : Int32) ∈ z_ws := List.mem_filter.mpr ⟨List.mem_append_right _ (List.mem_of_getElem? (i := 614) (by decide +kernel)), rfl⟩
theorem qkJ6_266 : Cond.constant RJ6 266 (858993459 : Int32) ∈ z_ws := List.mem_filter.mpr ⟨List.mem_append_right _ (List.mem_of_getElem? (i := 615) (by decide +kernel)), rfl⟩
theorem qkJ6_267 : Cond.constant RJ6 267 (252645135 : Int32) ∈ z_ws := List.mem_filter.mpr ⟨List.mem_append_right _ (List.mem_of_getElem? (i := 616) (by decide +kernel)), rfl⟩
theorem dJ6_bitCount_0f7a4_0 : decode cJ6_bitCount_0f7a4 0 = .ok (.iload_n 0, 1) := by decide +kernel
theorem dJ6_bitCount_0f7a4_1 : decode cJ6_bitCount_0f7a4 1 = .ok (.iload_n 0, 1) := by decide +kernel
theorem dJ6_bitCount_0f7a4_2 : decode cJ6_bitCount_0f7a4 2 = .ok (.iconst 1, 1) := by decide +kernel
theorem dJ6_bitCount_0f7a4_3 : decode cJ6_bitCount_0f7a4 3 = .ok (.iushr, 1) := by decide +kernel
theorem dJ6_bitCount_0f7a4_4 : decode cJ6_bitCount_0f7a4 4 = .ok (.ldc_w 265, 3) := by decide +kernel
theorem dJ6_bitCount_0f7a4_7 : decode cJ6_bitCount_0f7a4 7 = .ok (.iand, 1) := by decide +kernel
theorem dJ6_bitCount_0f7a4_8 : decode cJ6_bitCount_0f7a4 8 = .ok (.isub, 1) := by decide +kernel
theorem dJ6_bitCount_0f7a4_9 : decode cJ6_bitCount_0f7a4 9 = .ok (.istore_n 0, 1) := by decide +kernel
theorem dJ6_bitCount_0f7a4_10 : decode cJ6_bitCount_0f7a4 10 = .ok (.iload_n 0, 1) := by decide +kernel
theorem dJ6_bitCount_0f7a4_11 : decode cJ6_bitCount_0f7a4 11 = .ok (.ldc_w 266, 3) := by decide +kernel
theorem dJ6_bitCount_0f7a4_14 : decode cJ6_bitCount_0f7a4 14 = .ok (.iand, 1) := by decide +kernel
theorem dJ6_bitCount_0f7a4_15 : decode cJ6_bitCount_0f7a4 15 = .ok (.iload_n 0, 1) := by decide +kernel
theorem dJ6_bitCount_0f7a4_16 : decode cJ6_bitCount_0f7a4 16 = .ok (.iconst 2, 1) := by decide +kernel
theorem dJ6_bitCount_0f7a4_17 : decode cJ6_bitCount_0f7a4 17 = .ok (.iushr, 1) := by decide +kernel
theorem dJ6_bitCount_0f7a4_18 : decode cJ6_bitCount_0f7a4 18 = .ok (.ldc_w 266, 3) := by decide +kernel
theorem dJ6_bitCount_0f7a4_21 : decode cJ6_bitCount_0f7a4 21 = .ok (.iand, 1) := by decide +kernel
theorem dJ6_bitCount_0f7a4_22 : decode cJ6_bitCount_0f7a4 22 = .ok (.iadd, 1) := by decide +kernel
theorem dJ6_bitCount_0f7a4_23 : decode cJ6_bitCount_0f7a4 23 = .ok (.istore_n 0, 1) := by decide +kernel
theorem dJ6_bitCount_0f7a4_24 : decode cJ6_bitCount_0f7a4 24 = .ok (.iload_n 0, 1) := by decide +kernel
theorem dJ6_bitCount_0f7a4_25 : decode cJ6_bitCount_0f7a4 25 = .ok (.iload_n 0, 1) := by decide +kernel
theorem dJ6_bitCount_0f7a4_26 : decode cJ6_bitCount_0f7a4 26 = .ok (.iconst 4, 1) := by decide +kernel
theorem dJ6_bitCount_0f7a4_27 : decode cJ6_bitCount_0f7a4 27 = .ok (.iushr, 1) := by decide +kernel
theorem dJ6_bitCount_0f7a4_28 : decode cJ6_bitCount_0f7a4 28 = .ok (.iadd, 1) := by decide +kernel
theorem dJ6_bitCount_0f7a4_29 : decode cJ6_bitCount_0f7a4 29 = .ok (.ldc_w 267, 3) := by decide +kernel
theorem dJ6_bitCount_0f7a4_32 : decode cJ6_bitCount_0f7a4 32 = .ok (.iand, 1) := by decide +kernel
theorem dJ6_bitCount_0f7a4_33 : decode cJ6_bitCount_0f7a4 33 = .ok (.istore_n 0, 1) := by decide +kernel
theorem dJ6_bitCount_0f7a4_34 : decode cJ6_bitCount_0f7a4 34 = .ok (.iload_n 0, 1) := by decide +kernel
theorem dJ6_bitCount_0f7a4_35 : decode cJ6_bitCount_0f7a4 35 = .ok (.iload_n 0, 1) := by decide +kernel
theorem dJ6_bitCount_0f7a4_36 : decode cJ6_bitCount_0f7a4 36 = .ok (.bipush 8, 2) := by decide +kernel
theorem dJ6_bitCount_0f7a4_38 : decode cJ6_bitCount_0f7a4 38 = .ok (.iushr, 1) := by decide +kernel
theorem dJ6_bitCount_0f7a4_39 : decode cJ6_bitCount_0f7a4 39 = .ok (.iadd, 1) := by decide +kernel
theorem dJ6_bitCount_0f7a4_40 : decode cJ6_bitCount_0f7a4 40 = .ok (.istore_n 0, 1) := by decide +kernel
theorem dJ6_bitCount_0f7a4_41 : decode cJ6_bitCount_0f7a4 41 = .ok (.iload_n 0, 1) := by decide +kernel
theorem dJ6_bitCount_0f7a4_42 : decode cJ6_bitCount_0f7a4 42 = .ok (.iload_n 0, 1) := by decide +kernel
theorem dJ6_bitCount_0f7a4_43 : decode cJ6_bitCount_0f7a4 43 = .ok (.bipush 16, 2) := by decide +kernel
theorem dJ6_bitCount_0f7a4_45 : decode cJ6_bitCount_0f7a4 45 = .ok (.iushr, 1) := by decide +kernel
theorem dJ6_bitCount_0f7a4_46 : decode cJ6_bitCount_0f7a4 46 = .ok (.iadd, 1) := by decide +kernel
theorem dJ6_bitCount_0f7a4_47 : decode cJ6_bitCount_0f7a4 47 = .ok (.istore_n 0, 1) := by decide +kernel
theorem dJ6_bitCount_0f7a4_48 : decode cJ6_bitCount_0f7a4 48 = .ok (.iload_n 0, 1) := by decide +kernel
theorem dJ6_bitCount_0f7a4_49 : decode cJ6_bitCount_0f7a4 49 = .ok (.bipush 63, 2) := by decide +kernel
theorem dJ6_bitCount_0f7a4_51 : decode cJ6_bitCount_0f7a4 51 = .ok (.iand, 1) := by decide +kernel
theorem dJ6_bitCount_0f7a4_52 : decode cJ6_bitCount_0f7a4 52 = .ok (.ireturn, 1) := by decide +kernel
abbrev rm_J6_bitCount_0f7a4 : Room := { frames := 0, cells := 0, slots := 0, locals := 0 }
noncomputable def fJ6_bitCount_0f7a4 (x0 : Int32) : Option (Int32) :=
  y_nm ((x0 - (((x0).toUInt32 >>> (((1 : Int32)).toUInt32 &&& Int32.toUInt32 31)).toInt32 &&& (1431655765 : Int32)))) fun v1 =>
  y_nm (((v1 &&& (858993459 : Int32)) + (((v1).toUInt32 >>> (((2 : Int32)).toUInt32 &&& Int32.toUInt32 31)).toInt32 &&& (858993459 : Int32)))) fun v2 =>
  y_nm (((v2 + ((v2).toUInt32 >>> (((4 : Int32)).toUInt32 &&& Int32.toUInt32 31)).toInt32) &&& (252645135 : Int32))) fun v3 =>
  y_nm ((v3 + ((v3).toUInt32 >>> (((8 : Int32)).toUInt32 &&& Int32.toUInt32 31)).toInt32)) fun v4 =>
  y_nm ((v4 + ((v4).toUInt32 >>> (((16 : Int32)).toUInt32 &&& Int32.toUInt32 31)).toInt32)) fun v5 =>
  some (v5 &&& (63 : Int32))
set_option maxHeartbeats 4000000 in
set_option maxRecDepth 100000 in
theorem mm_J6_bitCount_0f7a4 {G : z_Gt} (hSK : z_SK (z_S G)) (l : Launch) (ad : Nat → Nat) (x0 : Int32) (h : z_T) {r0 : Int32} (hv : fJ6_bitCount_0f7a4 x0 = some r0) : z_Mi G (z_S G) l yJ6_bitCount_0f7a4 cJ6_bitCount_0f7a4 1 (.int) rm_J6_bitCount_0f7a4 0 0 [.int x0] ad h h r0 := by
  refine z_ofW hSK (by decide) (Nat.le_of_ble_eq_true rfl) ?_
  intro p e s m args below meth c ls hc hr hnm hB hl
  have hx := hc.1.1
  have hb := hc.1.2.1
  have hown := hc.1.2.2.2.1
  have hts := hc.1.2.2.2.2
  replace hc : z_C G (z_S G) ad (z_n h) p m c cJ6_bitCount_0f7a4 1 s args RJ6 meth := hc
  replace hown : s.vm.findClass RJ6 = some m.cls := hown
  replace hl : lv_has ls 1 [(0, .int x0)] := hl
  show W p l e rm_J6_bitCount_0f7a4 s m args below meth c s.heap [] 0 0 (MQ below (z_Qi G ad h (z_n h) s.heap.size r0) args s 0 0 (z_A ad (z_n h) s.heap.size)) (F0 m 0 ls [])
  obtain ⟨rs, kt⟩ : ∃ rs : Int32, rs = r0 := ⟨_, rfl⟩
  generalize hn0 : z_n h = n0 at hc hB ⊢
  rw [← kt] at hv
  refine lv_iload_n hx hb dJ6_bitCount_0f7a4_0 rfl (lv_at hl 0 rfl) ?_
  refine lv_iload_n hx hb dJ6_bitCount_0f7a4_1 rfl (lv_at hl 0 rfl) ?_
  refine lv_iconst (v := (1 : Int32)) hx hb dJ6_bitCount_0f7a4_2 (by decide) ?_
  refine lv_iushr hx hb dJ6_bitCount_0f7a4_3 rfl ?_
  refine lv_ldcw (v := (1431655765 : Int32)) hx hb hown (hts _ qkJ6_265) dJ6_bitCount_0f7a4_4 ?_
  refine lv_iand hx hb dJ6_bitCount_0f7a4_7 ?_
  refine lv_isub hx hb dJ6_bitCount_0f7a4_8 ?_
  obtain ⟨v1, ev1, hv⟩ := y_nm_e hv
  rw [← ev1]
  refine lv_istore_n (lv' := [(0, .int v1)]) hx hb dJ6_bitCount_0f7a4_9 rfl hl (by decide) rfl (fun ls hl => ?_)
  refine lv_iload_n hx hb dJ6_bitCount_0f7a4_10 rfl (lv_at hl 0 rfl) ?_
  refine lv_ldcw (v := (858993459 : Int32)) hx hb hown (hts _ qkJ6_266) dJ6_bitCount_0f7a4_11 ?_
  refine lv_iand hx hb dJ6_bitCount_0f7a4_14 ?_
  refine lv_iload_n hx hb dJ6_bitCount_0f7a4_15 rfl (lv_at hl 0 rfl) ?_
  refine lv_iconst (v := (2 : Int32)) hx hb dJ6_bitCount_0f7a4_16 (by decide) ?_
  refine lv_iushr hx hb dJ6_bitCount_0f7a4_17 rfl ?_
  refine lv_ldcw (v := (858993459 : Int32)) hx hb hown (hts _ qkJ6_266) dJ6_bitCount_0f7a4_18 ?_
  refine lv_iand hx hb dJ6_bitCount_0f7a4_21 ?_
  refine lv_iadd hx hb dJ6_bitCount_0f7a4_22 ?_
  obtain ⟨v2, ev2, hv⟩ := y_nm_e hv
  rw [← ev2]
  refine lv_istore_n (lv' := [(0, .int v2)]) hx hb dJ6_bitCount_0f7a4_23 rfl hl (by decide) rfl (fun ls hl => ?_)
  refine lv_iload_n hx hb dJ6_bitCount_0f7a4_24 rfl (lv_at hl 0 rfl) ?_
  refine lv_iload_n hx hb dJ6_bitCount_0f7a4_25 rfl (lv_at hl 0 rfl) ?_
  refine lv_iconst (v := (4 : Int32)) hx hb dJ6_bitCount_0f7a4_26 (by decide) ?_
  refine lv_iushr hx hb dJ6_bitCount_0f7a4_27 rfl ?_
  refine lv_iadd hx hb dJ6_bitCount_0f7a4_28 ?_
  refine lv_ldcw (v := (252645135 : Int32)) hx hb hown (hts _ qkJ6_267) dJ6_bitCount_0f7a4_29 ?_
  refine lv_iand hx hb dJ6_bitCount_0f7a4_32 ?_
  obtain ⟨v3, ev3, hv⟩ := y_nm_e hv
  rw [← ev3]
  refine lv_istore_n (lv' := [(0, .int v3)]) hx hb dJ6_bitCount_0f7a4_33 rfl hl (by decide) rfl (fun ls hl => ?_)
  refine lv_iload_n hx hb dJ6_bitCount_0f7a4_34 rfl (lv_at hl 0 rfl) ?_
  refine lv_iload_n hx hb dJ6_bitCount_0f7a4_35 rfl (lv_at hl 0 rfl) ?_
  refine lv_bipush (v := (8 : Int32)) hx hb dJ6_bitCount_0f7a4_36 (by decide) ?_
  refine lv_iushr hx hb dJ6_bitCount_0f7a4_38 rfl ?_
  refine lv_iadd hx hb dJ6_bitCount_0f7a4_39 ?_
  obtain ⟨v4, ev4, hv⟩ := y_nm_e hv
  rw [← ev4]
  refine lv_istore_n (lv' := [(0, .int v4)]) hx hb dJ6_bitCount_0f7a4_40 rfl hl (by decide) rfl (fun ls hl => ?_)
  refine lv_iload_n hx hb dJ6_bitCount_0f7a4_41 rfl (lv_at hl 0 rfl) ?_
  refine lv_iload_n hx hb dJ6_bitCount_0f7a4_42 rfl (lv_at hl 0 rfl) ?_
  refine lv_bipush (v := (16 : Int32)) hx hb dJ6_bitCount_0f7a4_43 (by decide) ?_
  refine lv_iushr hx hb dJ6_bitCount_0f7a4_45 rfl ?_
  refine lv_iadd hx hb dJ6_bitCount_0f7a4_46 ?_
  obtain ⟨v5, ev5, hv⟩ := y_nm_e hv
  rw [← ev5]
  refine lv_istore_n (lv' := [(0, .int v5)]) hx hb dJ6_bitCount_0f7a4_47 rfl hl (by decide) rfl (fun ls hl => ?_)
  refine lv_iload_n hx hb dJ6_bitCount_0f7a4_48 rfl (lv_at hl 0 rfl) ?_
  refine lv_bipush (v := (63 : Int32)) hx hb dJ6_bitCount_0f7a4_49 (by decide) ?_
  refine lv_iand hx hb dJ6_bitCount_0f7a4_51 ?_
  replace hv := Option.some.inj hv
  subst hv
  rw [← kt]
  exact z_iret hc hB hr dJ6_bitCount_0f7a4_52
theorem qkX0_171 : Cond.constantLong RX0 171 (2520 : Int64) ∈ z_ws := List.mem_filter.mpr ⟨List.mem_append_right _ (List.mem_of_getElem? (i := 1220) (by decide +kernel)), rfl⟩
theorem dX0_lotsOf_0 : decode cX0_lotsOf 0 = .ok (.lconst 0, 1) := by decide +kernel
theorem dX0_lotsOf_1 : decode cX0_lotsOf 1 = .ok (.lstore_n 2, 1) := by decide +kernel
theorem dX0_lotsOf_2 : decode cX0_lotsOf 2 = .ok (.iconst 0, 1) := by decide +kernel
theorem dX0_lotsOf_3 : decode cX0_lotsOf 3 = .ok (.istore 4, 2) := by decide +kernel
theorem dX0_lotsOf_5 : decode cX0_lotsOf 5 = .ok (.iload 4, 2) := by decide +kernel
theorem dX0_lotsOf_7 : decode cX0_lotsOf 7 = .ok (.aload_n 0, 1) := by decide +kernel
theorem dX0_lotsOf_8 : decode cX0_lotsOf 8 = .ok (.getfield 79, 3) := by decide +kernel
theorem dX0_lotsOf_11 : decode cX0_lotsOf 11 = .ok (.if_icmp .ge 44, 3) := by decide +kernel
theorem dX0_lotsOf_14 : decode cX0_lotsOf 14 = .ok (.bipush 9, 2) := by decide +kernel
theorem dX0_lotsOf_16 : decode cX0_lotsOf 16 = .ok (.aload_n 0, 1) := by decide +kernel
theorem dX0_lotsOf_17 : decode cX0_lotsOf 17 = .ok (.iload 4, 2) := by decide +kernel
theorem dX0_lotsOf_19 : decode cX0_lotsOf 19 = .ok (.invokevirtual 143, 3) := by decide +kernel
theorem dX0_lotsOf_22 : decode cX0_lotsOf 22 = .ok (.isub, 1) := by decide +kernel
theorem dX0_lotsOf_23 : decode cX0_lotsOf 23 = .ok (.istore 5, 2) := by decide +kernel
theorem dX0_lotsOf_25 : decode cX0_lotsOf 25 = .ok (.iload_n 1, 1) := by decide +kernel
theorem dX0_lotsOf_26 : decode cX0_lotsOf 26 = .ok (.iconst 1, 1) := by decide +kernel
theorem dX0_lotsOf_27 : decode cX0_lotsOf 27 = .ok (.iload 4, 2) := by decide +kernel
theorem dX0_lotsOf_29 : decode cX0_lotsOf 29 = .ok (.ishl, 1) := by decide +kernel
theorem dX0_lotsOf_30 : decode cX0_lotsOf 30 = .ok (.iand, 1) := by decide +kernel
theorem dX0_lotsOf_31 : decode cX0_lotsOf 31 = .ok (.ifCond .eq 18, 3) := by decide +kernel
theorem dX0_lotsOf_34 : decode cX0_lotsOf 34 = .ok (.iload 5, 2) := by decide +kernel
theorem dX0_lotsOf_36 : decode cX0_lotsOf 36 = .ok (.ifCond .le 13, 3) := by decide +kernel
theorem dX0_lotsOf_39 : decode cX0_lotsOf 39 = .ok (.lload_n 2, 1) := by decide +kernel
theorem dX0_lotsOf_40 : decode cX0_lotsOf 40 = .ok (.ldc2_w 171, 3) := by decide +kernel
theorem dX0_lotsOf_43 : decode cX0_lotsOf 43 = .ok (.iload 5, 2) := by decide +kernel
theorem dX0_lotsOf_45 : decode cX0_lotsOf 45 = .ok (.i2l, 1) := by decide +kernel
theorem dX0_lotsOf_46 : decode cX0_lotsOf 46 = .ok (.ldiv, 1) := by decide +kernel
theorem dX0_lotsOf_47 : decode cX0_lotsOf 47 = .ok (.ladd, 1) := by decide +kernel
theorem dX0_lotsOf_48 : decode cX0_lotsOf 48 = .ok (.lstore_n 2, 1) := by decide +kernel
theorem dX0_lotsOf_49 : decode cX0_lotsOf 49 = .ok (.iinc 4 1, 3) := by decide +kernel
theorem dX0_lotsOf_52 : decode cX0_lotsOf 52 = .ok (.goto (-47), 3) := by decide +kernel
theorem dX0_lotsOf_55 : decode cX0_lotsOf 55 = .ok (.lload_n 2, 1) := by decide +kernel
theorem dX0_lotsOf_56 : decode cX0_lotsOf 56 = .ok (.lreturn, 1) := by decide +kernel
abbrev rm_X0_lotsOf : Room := { frames := 1, cells := 0, slots := 0, locals := 21 }
noncomputable def fX0_lotsOf_b49 (o0 : Nat) (x1 : Int32) (l2 : Int64) (x4 : Int32) (h : z_T) : Option ((Int64 × Int32) ⊕ (Int64)) :=
  y_nm (x4 + 1) fun v1 =>
  some (.inl (l2, v1))
noncomputable def fX0_lotsOf_b5_i (o0 : Nat) (x1 : Int32) (h : z_T) (l2 : Int64) (x4 : Int32) : Option ((Int64 × Int32) ⊕ (Int64)) :=
  y_gd (z_ok h o0 0) <|
  y_br ((z_I h o0 1) ≤ x4)
    (y_mp <|
    some l2)
    (y_bi (fX0_inDream o0 x4 h) fun r6 =>
    y_nm (((9 : Int32) - r6)) fun v10 =>
    y_br ((x1 &&& ((1 : Int32) <<< (x4 &&& 31))) = 0)
      (fX0_lotsOf_b49 o0 x1 l2 x4 h)
      (y_br (v10 ≤ 0)
        (fX0_lotsOf_b49 o0 x1 l2 x4 h)
        (y_gd (!decide ((v10).toInt64 = 0)) <|
        y_nm ((l2 + ((2520 : Int64) / (v10).toInt64))) fun v14 =>
        fX0_lotsOf_b49 o0 x1 v14 x4 h)))
noncomputable def fX0_lotsOf_b5 (o0 : Nat) (x1 : Int32) (l2 : Int64) (x4 : Int32) (h : z_T) : Option (Int64) := y_lp (fun q : Int64 × Int32 => fX0_lotsOf_b5_i o0 x1 h q.1 q.2) (l2, x4)
noncomputable def fX0_lotsOf (o0 : Nat) (x1 : Int32) (h : z_T) : Option (Int64) :=
  fX0_lotsOf_b5 o0 x1 (0 : Int64) (0 : Int32) h
set_option maxHeartbeats 4000000 in
set_option maxRecDepth 100000 in
theorem mm_X0_lotsOf {G : z_Gt} (hSK : z_SK (z_S G)) (l : Launch) (ad : Nat → Nat) (o0 : Nat) (x1 : Int32) (h : z_T) {r0 : Int64} (hv : fX0_lotsOf o0 x1 h = some r0) : z_Ml G (z_S G) l yX0_lotsOf cX0_lotsOf 6 (.long) rm_X0_lotsOf 0 0 [.ref (ad o0), .int x1] ad h h r0 := by
  refine z_ofW hSK (by decide) (Nat.le_of_ble_eq_true rfl) ?_
  intro p e s m args below meth c ls hc hr hnm hB hl
  have hx := hc.1.1
  have hb := hc.1.2.1
  have hown := hc.1.2.2.2.1
  have hts := hc.1.2.2.2.2
  replace hc : z_C G (z_S G) ad (z_n h) p m c cX0_lotsOf 6 s args RX0 meth := hc
  replace hown : s.vm.findClass RX0 = some m.cls := hown
  replace hl : lv_has ls 6 [(0, .ref (ad o0)), (1, .int x1)] := hl
  show W p l e rm_X0_lotsOf s m args below meth c s.heap [] 0 0 (MQ below (z_Ql G ad h (z_n h) s.heap.size r0) args s 0 0 (z_A ad (z_n h) s.heap.size)) (F0 m 0 ls [])
  obtain ⟨rs, kt⟩ : ∃ rs : Int64, rs = r0 := ⟨_, rfl⟩
  generalize hn0 : z_n h = n0 at hc hB ⊢
  have L5 : ∀ (nn5 : Nat) (l2 : Int64) (x4 : Int32) (H : Heap) (locs : List Loc) (ls : Array Slot), z_B G ad n0 s h H locs → lv_has ls 6 [(0, .ref (ad o0)), (1, .int x1), (2, .long l2), (4, .int x4)] → ∀ vv5, y_lpN (fun q : Int64 × Int32 => fX0_lotsOf_b5_i o0 x1 h q.1 q.2) nn5 (l2, x4) = some vv5 → vv5 = r0 → W p l e rm_X0_lotsOf s m args below meth c H locs 0 0 (MQ below (z_Ql G ad h n0 s.heap.size r0) args s 0 0 (z_A ad n0 s.heap.size)) (F0 m 5 ls []) := by
    intro nn5
    induction nn5 with
    | zero => intro l2 x4 H locs ls hB hl vv5 hv kv5; exact absurd hv (fun q => y_lpN_0 q)
    | succ nn5 ih5 =>
      intro l2 x4 H locs ls hB hl vv5 hv kv5
      obtain ⟨w, hq, kw5⟩ := y_lpN_e hv
      clear hv
      have hv : fX0_lotsOf_b5_i o0 x1 h l2 x4 = some w := hq
      clear hq
      have b49 : ∀ (l2 : Int64) (x4 : Int32) (H : Heap) (locs : List Loc) (ls : Array Slot), z_B G ad n0 s h H locs → lv_has ls 6 [(0, .ref (ad o0)), (1, .int x1), (2, .long l2), (4, .int x4)] → ∀ w, fX0_lotsOf_b49 o0 x1 l2 x4 h = some w → y_lq (fun q : Int64 × Int32 => fX0_lotsOf_b5_i o0 x1 h q.1 q.2) nn5 vv5 w → W p l e rm_X0_lotsOf s m args below meth c H locs 0 0 (MQ below (z_Ql G ad h n0 s.heap.size r0) args s 0 0 (z_A ad n0 s.heap.size)) (F0 m 49 ls []) := by
        intro l2 x4 H locs ls hB hl w hv kw5
        obtain ⟨v1, ev1, hv⟩ := y_nm_e hv
        refine lv_iinc (v := v1) (lv' := [(4, .int v1), (0, .ref (ad o0)), (1, .int x1), (2, .long l2)]) hx hb dX0_lotsOf_49 hl (k := 3) rfl (by rw [ev1]; rfl) (by decide) rfl (fun ls hl => ?_)
        refine lv_goto (tgt := 5) hx hb dX0_lotsOf_52 (by decide) ?_
        replace hv := Option.some.inj hv
        subst hv
        exact ih5 l2 v1 _ _ _ hB (lv_sub hl [1, 2, 3, 0] rfl) _ kw5 kv5
      refine lv_iload hx hb dX0_lotsOf_5 (lv_at hl 3 rfl) ?_
      refine lv_aload_n hx hb dX0_lotsOf_7 rfl (lv_at hl 0 rfl) ?_
      obtain ⟨g2, hv⟩ := y_gd_e hv
      refine z_getI hc hB 0 1 g2 (by decide) (by decide) rfl (z_l1 hc qfX0_79) dX0_lotsOf_8 ?_
      refine lv_icmp_ge (tgt := 55) hx hb dX0_lotsOf_11 (by decide) (fun c3 => ?_) (fun c3 => ?_)
      · replace hv := y_br_t hv c3
        obtain ⟨t4, hq, ew⟩ := y_mp_e hv
        clear hv; subst ew
        replace kw5 : t4 = _ := kw5
        subst kw5
        have hv := hq
        clear hq
        refine lv_lload_n hx hb dX0_lotsOf_55 rfl (lv_at hl 2 rfl) ?_
        replace hv := Option.some.inj hv
        subst hv
        rw [← kv5]
        exact z_lret hc hB hr dX0_lotsOf_56
      · replace hv := y_br_f hv c3
        refine lv_bipush (v := (9 : Int32)) hx hb dX0_lotsOf_14 (by decide) ?_
        refine lv_aload_n hx hb dX0_lotsOf_16 rfl (lv_at hl 0 rfl) ?_
        refine lv_iload hx hb dX0_lotsOf_17 (lv_at hl 3 rfl) ?_
        obtain ⟨r6, c5, hv⟩ := y_bi_e hv
        refine z_thI hc hB (z_runV hc hB 0 (mm_X0_inDream hSK l ad o0 x4 h c5) md_X0_inDream qmX0_143 g2 (by decide) rfl rfl rfl ⟨Nat.le_of_ble_eq_true rfl, Nat.le_of_ble_eq_true rfl⟩ rfl hl.1 rfl (Nat.le_of_ble_eq_true rfl) dX0_lotsOf_19 ⟨Nat.le_of_ble_eq_true rfl, Nat.le_of_ble_eq_true rfl⟩) (fun H locs hB => ?_)
        refine lv_isub hx hb dX0_lotsOf_22 ?_
        obtain ⟨v10, ev10, hv⟩ := y_nm_e hv
        rw [← ev10]
        refine lv_istore (lv' := [(5, .int v10), (0, .ref (ad o0)), (1, .int x1), (2, .long l2), (4, .int x4)]) hx hb dX0_lotsOf_23 hl (by decide) rfl (fun ls hl => ?_)
        refine lv_iload_n hx hb dX0_lotsOf_25 rfl (lv_at hl 2 rfl) ?_
        refine lv_iconst (v := (1 : Int32)) hx hb dX0_lotsOf_26 (by decide) ?_
        refine lv_iload hx hb dX0_lotsOf_27 (lv_at hl 4 rfl) ?_
        refine lv_ishl hx hb dX0_lotsOf_29 ?_
        refine lv_iand hx hb dX0_lotsOf_30 ?_
        refine lv_if_eq (tgt := 49) hx hb dX0_lotsOf_31 (by decide) (fun c11 => ?_) (fun c11 => ?_)
        · replace hv := y_br_t hv c11
          exact b49 l2 x4 _ _ _ hB (lv_sub hl [1, 2, 3, 4] rfl) _ hv kw5
        · replace hv := y_br_f hv c11
          refine lv_iload hx hb dX0_lotsOf_34 (lv_at hl 0 rfl) ?_
          refine lv_if_le (tgt := 49) hx hb dX0_lotsOf_36 (by decide) (fun c12 => ?_) (fun c12 => ?_)
          · replace hv := y_br_t hv c12
            exact b49 l2 x4 _ _ _ hB (lv_sub hl [1, 2, 3, 4] rfl) _ hv kw5
          · replace hv := y_br_f hv c12
            refine lv_lload_n hx hb dX0_lotsOf_39 rfl (lv_at hl 3 rfl) ?_
            refine lv_ldc2 (v := (2520 : Int64)) hx hb hown (hts _ qkX0_171) dX0_lotsOf_40 ?_
            refine lv_iload hx hb dX0_lotsOf_43 (lv_at hl 0 rfl) ?_
            refine lv_i2l hx hb dX0_lotsOf_45 rfl ?_
            obtain ⟨z13, hv⟩ := y_gd_e hv
            refine lv_ldiv hx hb dX0_lotsOf_46 (y_neL z13) ?_
            refine lv_ladd hx hb dX0_lotsOf_47 ?_
            obtain ⟨v14, ev14, hv⟩ := y_nm_e hv
            rw [← ev14]
            refine lv_lstore_n (lv' := [(2, .long v14), (5, .int v10), (0, .ref (ad o0)), (1, .int x1), (4, .int x4)]) hx hb dX0_lotsOf_48 rfl hl (by decide) rfl (fun ls hl => ?_)
            exact b49 v14 x4 _ _ _ hB (lv_sub hl [2, 3, 0, 4] rfl) _ hv kw5
  rw [← kt] at hv
  refine lv_lconst (v := (0 : Int64)) hx hb dX0_lotsOf_0 (by decide) ?_
  refine lv_lstore_n (lv' := [(2, .long (0 : Int64)), (0, .ref (ad o0)), (1, .int x1)]) hx hb dX0_lotsOf_1 rfl hl (by decide) rfl (fun ls hl => ?_)
  refine lv_iconst (v := (0 : Int32)) hx hb dX0_lotsOf_2 (by decide) ?_
  refine lv_istore (lv' := [(4, .int (0 : Int32)), (2, .long (0 : Int64)), (0, .ref (ad o0)), (1, .int x1)]) hx hb dX0_lotsOf_3 hl (by decide) rfl (fun ls hl => ?_)
  obtain ⟨n, hv⟩ := y_lp_e hv
  exact L5 n (0 : Int64) (0 : Int32) _ _ _ hB (lv_sub hl [2, 3, 1, 0] rfl) _ hv kt
theorem dX0_movingBy_0 : decode cX0_movingBy 0 = .ok (.iconst 0, 1) := by decide +kernel
theorem dX0_movingBy_1 : decode cX0_movingBy 1 = .ok (.istore_n 2, 1) := by decide +kernel
theorem dX0_movingBy_2 : decode cX0_movingBy 2 = .ok (.iconst 0, 1) := by decide +kernel
theorem dX0_movingBy_3 : decode cX0_movingBy 3 = .ok (.istore_n 3, 1) := by decide +kernel
theorem dX0_movingBy_4 : decode cX0_movingBy 4 = .ok (.iload_n 3, 1) := by decide +kernel
theorem dX0_movingBy_5 : decode cX0_movingBy 5 = .ok (.aload_n 0, 1) := by decide +kernel
theorem dX0_movingBy_6 : decode cX0_movingBy 6 = .ok (.getfield 79, 3) := by decide +kernel
theorem dX0_movingBy_9 : decode cX0_movingBy 9 = .ok (.if_icmp .ge 27, 3) := by decide +kernel
theorem dX0_movingBy_12 : decode cX0_movingBy 12 = .ok (.bipush 9, 2) := by decide +kernel
theorem dX0_movingBy_14 : decode cX0_movingBy 14 = .ok (.aload_n 0, 1) := by decide +kernel
theorem dX0_movingBy_15 : decode cX0_movingBy 15 = .ok (.iload_n 3, 1) := by decide +kernel
theorem dX0_movingBy_16 : decode cX0_movingBy 16 = .ok (.invokevirtual 143, 3) := by decide +kernel
theorem dX0_movingBy_19 : decode cX0_movingBy 19 = .ok (.isub, 1) := by decide +kernel
theorem dX0_movingBy_20 : decode cX0_movingBy 20 = .ok (.iload_n 1, 1) := by decide +kernel
theorem dX0_movingBy_21 : decode cX0_movingBy 21 = .ok (.if_icmp .lt 9, 3) := by decide +kernel
theorem dX0_movingBy_24 : decode cX0_movingBy 24 = .ok (.iload_n 2, 1) := by decide +kernel
theorem dX0_movingBy_25 : decode cX0_movingBy 25 = .ok (.iconst 1, 1) := by decide +kernel
theorem dX0_movingBy_26 : decode cX0_movingBy 26 = .ok (.iload_n 3, 1) := by decide +kernel
theorem dX0_movingBy_27 : decode cX0_movingBy 27 = .ok (.ishl, 1) := by decide +kernel
theorem dX0_movingBy_28 : decode cX0_movingBy 28 = .ok (.ior, 1) := by decide +kernel
theorem dX0_movingBy_29 : decode cX0_movingBy 29 = .ok (.istore_n 2, 1) := by decide +kernel
theorem dX0_movingBy_30 : decode cX0_movingBy 30 = .ok (.iinc 3 1, 3) := by decide +kernel
theorem dX0_movingBy_33 : decode cX0_movingBy 33 = .ok (.goto (-29), 3) := by decide +kernel
theorem dX0_movingBy_36 : decode cX0_movingBy 36 = .ok (.iload_n 2, 1) := by decide +kernel
theorem dX0_movingBy_37 : decode cX0_movingBy 37 = .ok (.ireturn, 1) := by decide +kernel
abbrev rm_X0_movingBy : Room := { frames := 1, cells := 0, slots := 0, locals := 21 }
noncomputable def fX0_movingBy_b30 (o0 : Nat) (x1 : Int32) (x2 : Int32) (x3 : Int32) (h : z_T) : Option ((Int32 × Int32) ⊕ (Int32)) :=
  y_nm (x3 + 1) fun v1 =>
  some (.inl (x2, v1))
noncomputable def fX0_movingBy_b4_i (o0 : Nat) (x1 : Int32) (h : z_T) (x2 : Int32) (x3 : Int32) : Option ((Int32 × Int32) ⊕ (Int32)) :=
  y_gd (z_ok h o0 0) <|
  y_br ((z_I h o0 1) ≤ x3)
    (y_mp <|
    some x2)
    (y_bi (fX0_inDream o0 x3 h) fun r6 =>
    y_br (((9 : Int32) - r6) < x1)
      (fX0_movingBy_b30 o0 x1 x2 x3 h)
      (y_nm ((x2 ||| ((1 : Int32) <<< (x3 &&& 31)))) fun v11 =>
      fX0_movingBy_b30 o0 x1 v11 x3 h))
noncomputable def fX0_movingBy_b4 (o0 : Nat) (x1 : Int32) (x2 : Int32) (x3 : Int32) (h : z_T) : Option (Int32) := y_lp (fun q : Int32 × Int32 => fX0_movingBy_b4_i o0 x1 h q.1 q.2) (x2, x3)
noncomputable def fX0_movingBy (o0 : Nat) (x1 : Int32) (h : z_T) : Option (Int32) :=
  fX0_movingBy_b4 o0 x1 (0 : Int32) (0 : Int32) h
set_option maxHeartbeats 4000000 in
set_option maxRecDepth 100000 in
theorem mm_X0_movingBy {G : z_Gt} (hSK : z_SK (z_S G)) (l : Launch) (ad : Nat → Nat) (o0 : Nat) (x1 : Int32) (h : z_T) {r0 : Int32} (hv : fX0_movingBy o0 x1 h = some r0) : z_Mi G (z_S G) l yX0_movingBy cX0_movingBy 4 (.int) rm_X0_movingBy 0 0 [.ref (ad o0), .int x1] ad h h r0 := by
  refine z_ofW hSK (by decide) (Nat.le_of_ble_eq_true rfl) ?_
  intro p e s m args below meth c ls hc hr hnm hB hl
  have hx := hc.1.1
  have hb := hc.1.2.1
  have hown := hc.1.2.2.2.1
  have hts := hc.1.2.2.2.2
  replace hc : z_C G (z_S G) ad (z_n h) p m c cX0_movingBy 4 s args RX0 meth := hc
  replace hown : s.vm.findClass RX0 = some m.cls := hown
  replace hl : lv_has ls 4 [(0, .ref (ad o0)), (1, .int x1)] := hl
  show W p l e rm_X0_movingBy s m args below meth c s.heap [] 0 0 (MQ below (z_Qi G ad h (z_n h) s.heap.size r0) args s 0 0 (z_A ad (z_n h) s.heap.size)) (F0 m 0 ls [])
  obtain ⟨rs, kt⟩ : ∃ rs : Int32, rs = r0 := ⟨_, rfl⟩
  generalize hn0 : z_n h = n0 at hc hB ⊢
  have L4 : ∀ (nn4 : Nat) (x2 : Int32) (x3 : Int32) (H : Heap) (locs : List Loc) (ls : Array Slot), z_B G ad n0 s h H locs → lv_has ls 4 [(0, .ref (ad o0)), (1, .int x1), (2, .int x2), (3, .int x3)] → ∀ vv4, y_lpN (fun q : Int32 × Int32 => fX0_movingBy_b4_i o0 x1 h q.1 q.2) nn4 (x2, x3) = some vv4 → vv4 = r0 → W p l e rm_X0_movingBy s m args below meth c H locs 0 0 (MQ below (z_Qi G ad h n0 s.heap.size r0) args s 0 0 (z_A ad n0 s.heap.size)) (F0 m 4 ls []) := by
    intro nn4
    induction nn4 with
    | zero => intro x2 x3 H locs ls hB hl vv4 hv kv4; exact absurd hv (fun q => y_lpN_0 q)
    | succ nn4 ih4 =>
      intro x2 x3 H locs ls hB hl vv4 hv kv4
      obtain ⟨w, hq, kw4⟩ := y_lpN_e hv
      clear hv
      have hv : fX0_movingBy_b4_i o0 x1 h x2 x3 = some w := hq
      clear hq
      have b30 : ∀ (x2 : Int32) (x3 : Int32) (H : Heap) (locs : List Loc) (ls : Array Slot), z_B G ad n0 s h H locs → lv_has ls 4 [(0, .ref (ad o0)), (1, .int x1), (2, .int x2), (3, .int x3)] → ∀ w, fX0_movingBy_b30 o0 x1 x2 x3 h = some w → y_lq (fun q : Int32 × Int32 => fX0_movingBy_b4_i o0 x1 h q.1 q.2) nn4 vv4 w → W p l e rm_X0_movingBy s m args below meth c H locs 0 0 (MQ below (z_Qi G ad h n0 s.heap.size r0) args s 0 0 (z_A ad n0 s.heap.size)) (F0 m 30 ls []) := by
        intro x2 x3 H locs ls hB hl w hv kw4
        obtain ⟨v1, ev1, hv⟩ := y_nm_e hv
        refine lv_iinc (v := v1) (lv' := [(3, .int v1), (0, .ref (ad o0)), (1, .int x1), (2, .int x2)]) hx hb dX0_movingBy_30 hl (k := 3) rfl (by rw [ev1]; rfl) (by decide) rfl (fun ls hl => ?_)
        refine lv_goto (tgt := 4) hx hb dX0_movingBy_33 (by decide) ?_
        replace hv := Option.some.inj hv
        subst hv
        exact ih4 x2 v1 _ _ _ hB (lv_sub hl [1, 2, 3, 0] rfl) _ kw4 kv4
      refine lv_iload_n hx hb dX0_movingBy_4 rfl (lv_at hl 3 rfl) ?_
      refine lv_aload_n hx hb dX0_movingBy_5 rfl (lv_at hl 0 rfl) ?_
      obtain ⟨g2, hv⟩ := y_gd_e hv
      refine z_getI hc hB 0 1 g2 (by decide) (by decide) rfl (z_l1 hc qfX0_79) dX0_movingBy_6 ?_
      refine lv_icmp_ge (tgt := 36) hx hb dX0_movingBy_9 (by decide) (fun c3 => ?_) (fun c3 => ?_)
      · replace hv := y_br_t hv c3
        obtain ⟨t4, hq, ew⟩ := y_mp_e hv
        clear hv; subst ew
        replace kw4 : t4 = _ := kw4
        subst kw4
        have hv := hq
        clear hq
        refine lv_iload_n hx hb dX0_movingBy_36 rfl (lv_at hl 2 rfl) ?_
        replace hv := Option.some.inj hv
        subst hv
        rw [← kv4]
        exact z_iret hc hB hr dX0_movingBy_37
      · replace hv := y_br_f hv c3
        refine lv_bipush (v := (9 : Int32)) hx hb dX0_movingBy_12 (by decide) ?_
        refine lv_aload_n hx hb dX0_movingBy_14 rfl (lv_at hl 0 rfl) ?_
        refine lv_iload_n hx hb dX0_movingBy_15 rfl (lv_at hl 3 rfl) ?_
        obtain ⟨r6, c5, hv⟩ := y_bi_e hv
        refine z_thI hc hB (z_runV hc hB 0 (mm_X0_inDream hSK l ad o0 x3 h c5) md_X0_inDream qmX0_143 g2 (by decide) rfl rfl rfl ⟨Nat.le_of_ble_eq_true rfl, Nat.le_of_ble_eq_true rfl⟩ rfl hl.1 rfl (Nat.le_of_ble_eq_true rfl) dX0_movingBy_16 ⟨Nat.le_of_ble_eq_true rfl, Nat.le_of_ble_eq_true rfl⟩) (fun H locs hB => ?_)
        refine lv_isub hx hb dX0_movingBy_19 ?_
        refine lv_iload_n hx hb dX0_movingBy_20 rfl (lv_at hl 1 rfl) ?_
        refine lv_icmp_lt (tgt := 30) hx hb dX0_movingBy_21 (by decide) (fun c10 => ?_) (fun c10 => ?_)
        · replace hv := y_br_t hv c10
          exact b30 x2 x3 _ _ _ hB (lv_sub hl [0, 1, 2, 3] rfl) _ hv kw4
        · replace hv := y_br_f hv c10
          refine lv_iload_n hx hb dX0_movingBy_24 rfl (lv_at hl 2 rfl) ?_
          refine lv_iconst (v := (1 : Int32)) hx hb dX0_movingBy_25 (by decide) ?_
          refine lv_iload_n hx hb dX0_movingBy_26 rfl (lv_at hl 3 rfl) ?_
          refine lv_ishl hx hb dX0_movingBy_27 ?_
          refine lv_ior hx hb dX0_movingBy_28 ?_
          obtain ⟨v11, ev11, hv⟩ := y_nm_e hv
          rw [← ev11]
          refine lv_istore_n (lv' := [(2, .int v11), (0, .ref (ad o0)), (1, .int x1), (3, .int x3)]) hx hb dX0_movingBy_29 rfl hl (by decide) rfl (fun ls hl => ?_)
          exact b30 v11 x3 _ _ _ hB (lv_sub hl [1, 2, 0, 3] rfl) _ hv kw4
  rw [← kt] at hv
  refine lv_iconst (v := (0 : Int32)) hx hb dX0_movingBy_0 (by decide) ?_
  refine lv_istore_n (lv' := [(2, .int (0 : Int32)), (0, .ref (ad o0)), (1, .int x1)]) hx hb dX0_movingBy_1 rfl hl (by decide) rfl (fun ls hl => ?_)
  refine lv_iconst (v := (0 : Int32)) hx hb dX0_movingBy_2 (by decide) ?_
  refine lv_istore_n (lv' := [(3, .int (0 : Int32)), (2, .int (0 : Int32)), (0, .ref (ad o0)), (1, .int x1)]) hx hb dX0_movingBy_3 rfl hl (by decide) rfl (fun ls hl => ?_)
  obtain ⟨n, hv⟩ := y_lp_e hv
  exact L4 n (0 : Int32) (0 : Int32) _ _ _ hB (lv_sub hl [2, 3, 1, 0] rfl) _ hv kt
theorem qmX0_159 : Cond.methodLink RX0 159 yX0_movingBy ∈ z_ws := List.mem_filter.mpr ⟨List.mem_append_right _ (List.mem_of_getElem? (i := 1211) (by decide +kernel)), rfl⟩
theorem qc_X0_movingBy : Cond.code yX0_movingBy cX0_movingBy 4 (some .int) ∈ z_ws := List.mem_filter.mpr ⟨List.mem_append_right _ (List.mem_of_getElem? (i := 1214) (by decide +kernel)), rfl⟩
theorem qi_X0_movingBy : Cond.instanceMethod yX0_movingBy ∈ z_ws := List.mem_filter.mpr ⟨List.mem_append_right _ (List.mem_of_getElem? (i := 1213) (by decide +kernel)), rfl⟩
theorem qs_X0_movingBy : Cond.selects RX0 yX0_movingBy yX0_movingBy ∈ z_ws := List.mem_filter.mpr ⟨List.mem_append_left _ (List.mem_of_getElem? (i := 31) (by decide +kernel)), rfl⟩
theorem md_X0_movingBy : z_mdV yX0_movingBy cX0_movingBy 4 (some .int) 1 := ⟨⟨qn_RX0, qc_X0_movingBy, ⟨by decide +kernel, by decide +kernel, by decide +kernel⟩⟩, qi_X0_movingBy, qs_X0_movingBy⟩
theorem qmX0_162 : Cond.methodLink RX0 162 yJ6_bitCount_0f7a4 ∈ z_ws := List.mem_filter.mpr ⟨List.mem_append_right _ (List.mem_of_getElem? (i := 1215) (by decide +kernel)), rfl⟩
theorem qn_RJ6 : Cond.initialized RJ6 ∈ z_ws := List.mem_filter.mpr ⟨List.mem_append_right _ (List.mem_of_getElem? (i := 19) (by decide +kernel)), rfl⟩
theorem qc_J6_bitCount_0f7a4 : Cond.code yJ6_bitCount_0f7a4 cJ6_bitCount_0f7a4 1 (some .int) ∈ z_ws := List.mem_filter.mpr ⟨List.mem_append_right _ (List.mem_of_getElem? (i := 613) (by decide +kernel)), rfl⟩
theorem qs_J6_bitCount_0f7a4 : Cond.static yJ6_bitCount_0f7a4 ∈ z_ws := List.mem_filter.mpr ⟨List.mem_append_right _ (List.mem_of_getElem? (i := 612) (by decide +kernel)), rfl⟩
theorem md_J6_bitCount_0f7a4 : z_mdS yJ6_bitCount_0f7a4 cJ6_bitCount_0f7a4 1 (some .int) 1 := ⟨⟨qn_RJ6, qc_J6_bitCount_0f7a4, ⟨by decide +kernel, by decide +kernel, by decide +kernel⟩⟩, qs_J6_bitCount_0f7a4⟩
theorem qmX0_167 : Cond.methodLink RX0 167 yX0_lotsOf ∈ z_ws := List.mem_filter.mpr ⟨List.mem_append_right _ (List.mem_of_getElem? (i := 1216) (by decide +kernel)), rfl⟩
theorem qc_X0_lotsOf : Cond.code yX0_lotsOf cX0_lotsOf 6 (some .long) ∈ z_ws := List.mem_filter.mpr ⟨List.mem_append_right _ (List.mem_of_getElem? (i := 1219) (by decide +kernel)), rfl⟩
theorem qi_X0_lotsOf : Cond.instanceMethod yX0_lotsOf ∈ z_ws := List.mem_filter.mpr ⟨List.mem_append_right _ (List.mem_of_getElem? (i := 1217) (by decide +kernel)), rfl⟩
theorem qs_X0_lotsOf : Cond.selects RX0 yX0_lotsOf yX0_lotsOf ∈ z_ws := List.mem_filter.mpr ⟨List.mem_append_right _ (List.mem_of_getElem? (i := 1218) (by decide +kernel)), rfl⟩
theorem md_X0_lotsOf : z_mdV yX0_lotsOf cX0_lotsOf 6 (some .long) 1 := ⟨⟨qn_RX0, qc_X0_lotsOf, ⟨by decide +kernel, by decide +kernel, by decide +kernel⟩⟩, qi_X0_lotsOf, qs_X0_lotsOf⟩
theorem dX0_askedByLot_0 : decode cX0_askedByLot 0 = .ok (.iconst 0, 1) := by decide +kernel
theorem dX0_askedByLot_1 : decode cX0_askedByLot 1 = .ok (.istore_n 1, 1) := by decide +kernel
theorem dX0_askedByLot_2 : decode cX0_askedByLot 2 = .ok (.bipush 9, 2) := by decide +kernel
theorem dX0_askedByLot_4 : decode cX0_askedByLot 4 = .ok (.istore_n 2, 1) := by decide +kernel
theorem dX0_askedByLot_5 : decode cX0_askedByLot 5 = .ok (.iload_n 2, 1) := by decide +kernel
theorem dX0_askedByLot_6 : decode cX0_askedByLot 6 = .ok (.ifCond .le 67, 3) := by decide +kernel
theorem dX0_askedByLot_9 : decode cX0_askedByLot 9 = .ok (.aload_n 0, 1) := by decide +kernel
theorem dX0_askedByLot_10 : decode cX0_askedByLot 10 = .ok (.iload_n 2, 1) := by decide +kernel
theorem dX0_askedByLot_11 : decode cX0_askedByLot 11 = .ok (.invokevirtual 159, 3) := by decide +kernel
theorem dX0_askedByLot_14 : decode cX0_askedByLot 14 = .ok (.istore_n 3, 1) := by decide +kernel
theorem dX0_askedByLot_15 : decode cX0_askedByLot 15 = .ok (.iload_n 3, 1) := by decide +kernel
theorem dX0_askedByLot_16 : decode cX0_askedByLot 16 = .ok (.invokestatic 162, 3) := by decide +kernel
theorem dX0_askedByLot_19 : decode cX0_askedByLot 19 = .ok (.iconst 1, 1) := by decide +kernel
theorem dX0_askedByLot_20 : decode cX0_askedByLot 20 = .ok (.isub, 1) := by decide +kernel
theorem dX0_askedByLot_21 : decode cX0_askedByLot 21 = .ok (.i2l, 1) := by decide +kernel
theorem dX0_askedByLot_22 : decode cX0_askedByLot 22 = .ok (.aload_n 0, 1) := by decide +kernel
theorem dX0_askedByLot_23 : decode cX0_askedByLot 23 = .ok (.iload_n 1, 1) := by decide +kernel
theorem dX0_askedByLot_24 : decode cX0_askedByLot 24 = .ok (.invokevirtual 167, 3) := by decide +kernel
theorem dX0_askedByLot_27 : decode cX0_askedByLot 27 = .ok (.lmul, 1) := by decide +kernel
theorem dX0_askedByLot_28 : decode cX0_askedByLot 28 = .ok (.lstore 4, 2) := by decide +kernel
theorem dX0_askedByLot_30 : decode cX0_askedByLot 30 = .ok (.iload_n 1, 1) := by decide +kernel
theorem dX0_askedByLot_31 : decode cX0_askedByLot 31 = .ok (.invokestatic 162, 3) := by decide +kernel
theorem dX0_askedByLot_34 : decode cX0_askedByLot 34 = .ok (.iconst 1, 1) := by decide +kernel
theorem dX0_askedByLot_35 : decode cX0_askedByLot 35 = .ok (.isub, 1) := by decide +kernel
theorem dX0_askedByLot_36 : decode cX0_askedByLot 36 = .ok (.i2l, 1) := by decide +kernel
theorem dX0_askedByLot_37 : decode cX0_askedByLot 37 = .ok (.aload_n 0, 1) := by decide +kernel
theorem dX0_askedByLot_38 : decode cX0_askedByLot 38 = .ok (.iload_n 3, 1) := by decide +kernel
theorem dX0_askedByLot_39 : decode cX0_askedByLot 39 = .ok (.invokevirtual 167, 3) := by decide +kernel
theorem dX0_askedByLot_42 : decode cX0_askedByLot 42 = .ok (.lmul, 1) := by decide +kernel
theorem dX0_askedByLot_43 : decode cX0_askedByLot 43 = .ok (.lstore 6, 2) := by decide +kernel
theorem dX0_askedByLot_45 : decode cX0_askedByLot 45 = .ok (.iload_n 3, 1) := by decide +kernel
theorem dX0_askedByLot_46 : decode cX0_askedByLot 46 = .ok (.invokestatic 162, 3) := by decide +kernel
theorem dX0_askedByLot_49 : decode cX0_askedByLot 49 = .ok (.iconst 1, 1) := by decide +kernel
theorem dX0_askedByLot_50 : decode cX0_askedByLot 50 = .ok (.if_icmp .le 17, 3) := by decide +kernel
theorem dX0_askedByLot_53 : decode cX0_askedByLot 53 = .ok (.iload_n 1, 1) := by decide +kernel
theorem dX0_askedByLot_54 : decode cX0_askedByLot 54 = .ok (.ifCond .eq 11, 3) := by decide +kernel
theorem dX0_askedByLot_57 : decode cX0_askedByLot 57 = .ok (.lload 4, 2) := by decide +kernel
theorem dX0_askedByLot_59 : decode cX0_askedByLot 59 = .ok (.lload 6, 2) := by decide +kernel
theorem dX0_askedByLot_61 : decode cX0_askedByLot 61 = .ok (.lcmp, 1) := by decide +kernel
theorem dX0_askedByLot_62 : decode cX0_askedByLot 62 = .ok (.ifCond .lt 5, 3) := by decide +kernel
theorem dX0_askedByLot_65 : decode cX0_askedByLot 65 = .ok (.iload_n 3, 1) := by decide +kernel
theorem dX0_askedByLot_66 : decode cX0_askedByLot 66 = .ok (.istore_n 1, 1) := by decide +kernel
theorem dX0_askedByLot_67 : decode cX0_askedByLot 67 = .ok (.iinc 2 (-1), 3) := by decide +kernel
theorem dX0_askedByLot_70 : decode cX0_askedByLot 70 = .ok (.goto (-65), 3) := by decide +kernel
theorem dX0_askedByLot_73 : decode cX0_askedByLot 73 = .ok (.iload_n 1, 1) := by decide +kernel
theorem dX0_askedByLot_74 : decode cX0_askedByLot 74 = .ok (.ireturn, 1) := by decide +kernel
abbrev rm_X0_askedByLot : Room := { frames := 2, cells := 0, slots := 0, locals := 46 }
noncomputable def fX0_askedByLot_b67 (o0 : Nat) (x1 : Int32) (x2 : Int32) (h : z_T) : Option ((Int32 × Int32) ⊕ (Int32)) :=
  y_nm (x2 + (-1)) fun v1 =>
  some (.inl (x1, v1))
noncomputable def fX0_askedByLot_b65 (o0 : Nat) (x2 : Int32) (x3 : Int32) (h : z_T) : Option ((Int32 × Int32) ⊕ (Int32)) :=
  fX0_askedByLot_b67 o0 x3 x2 h
noncomputable def fX0_askedByLot_b5_i (o0 : Nat) (h : z_T) (x1 : Int32) (x2 : Int32) : Option ((Int32 × Int32) ⊕ (Int32)) :=
  y_br (x2 ≤ 0)
    (y_mp <|
    some x1)
    (y_gd (z_ok h o0 0) <|
    y_bi (fX0_movingBy o0 x2 h) fun r5 =>
    y_bi (fJ6_bitCount_0f7a4 r5) fun r11 =>
    y_bi (fX0_lotsOf o0 x1 h) fun r17 =>
    y_nm ((((r11 - (1 : Int32))).toInt64 * r17)) fun v20 =>
    y_bi (fJ6_bitCount_0f7a4 x1) fun r22 =>
    y_bi (fX0_lotsOf o0 r5 h) fun r28 =>
    y_nm ((((r22 - (1 : Int32))).toInt64 * r28)) fun v31 =>
    y_bi (fJ6_bitCount_0f7a4 r5) fun r33 =>
    y_br (r33 ≤ (1 : Int32))
      (fX0_askedByLot_b67 o0 x1 x2 h)
      (y_br (x1 = 0)
        (fX0_askedByLot_b65 o0 x2 r5 h)
        (y_br ((lg_cmp v20 v31) < 0)
          (fX0_askedByLot_b67 o0 x1 x2 h)
          (fX0_askedByLot_b65 o0 x2 r5 h))))
noncomputable def fX0_askedByLot_b5 (o0 : Nat) (x1 : Int32) (x2 : Int32) (h : z_T) : Option (Int32) := y_lp (fun q : Int32 × Int32 => fX0_askedByLot_b5_i o0 h q.1 q.2) (x1, x2)
noncomputable def fX0_askedByLot (o0 : Nat) (h : z_T) : Option (Int32) :=
  fX0_askedByLot_b5 o0 (0 : Int32) (9 : Int32) h
set_option maxHeartbeats 4000000 in
set_option maxRecDepth 100000 in
theorem mm_X0_askedByLot {G : z_Gt} (hSK : z_SK (z_S G)) (l : Launch) (ad : Nat → Nat) (o0 : Nat) (h : z_T) {r0 : Int32} (hv : fX0_askedByLot o0 h = some r0) : z_Mi G (z_S G) l yX0_askedByLot cX0_askedByLot 8 (.int) rm_X0_askedByLot 0 0 [.ref (ad o0)] ad h h r0 := by
  refine z_ofW hSK (by decide) (Nat.le_of_ble_eq_true rfl) ?_
  intro p e s m args below meth c ls hc hr hnm hB hl
  have hx := hc.1.1
  have hb := hc.1.2.1
  have hown := hc.1.2.2.2.1
  have hts := hc.1.2.2.2.2
  replace hc : z_C G (z_S G) ad (z_n h) p m c cX0_askedByLot 8 s args RX0 meth := hc
  replace hown : s.vm.findClass RX0 = some m.cls := hown
  replace hl : lv_has ls 8 [(0, .ref (ad o0))] := hl
  show W p l e rm_X0_askedByLot s m args below meth c s.heap [] 0 0 (MQ below (z_Qi G ad h (z_n h) s.heap.size r0) args s 0 0 (z_A ad (z_n h) s.heap.size)) (F0 m 0 ls [])
  obtain ⟨rs, kt⟩ : ∃ rs : Int32, rs = r0 := ⟨_, rfl⟩
  generalize hn0 : z_n h = n0 at hc hB ⊢
  have L5 : ∀ (nn5 : Nat) (x1 : Int32) (x2 : Int32) (H : Heap) (locs : List Loc) (ls : Array Slot), z_B G ad n0 s h H locs → lv_has ls 8 [(0, .ref (ad o0)), (1, .int x1), (2, .int x2)] → ∀ vv5, y_lpN (fun q : Int32 × Int32 => fX0_askedByLot_b5_i o0 h q.1 q.2) nn5 (x1, x2) = some vv5 → vv5 = r0 → W p l e rm_X0_askedByLot s m args below meth c H locs 0 0 (MQ below (z_Qi G ad h n0 s.heap.size r0) args s 0 0 (z_A ad n0 s.heap.size)) (F0 m 5 ls []) := by
    intro nn5
    induction nn5 with
    | zero => intro x1 x2 H locs ls hB hl vv5 hv kv5; exact absurd hv (fun q => y_lpN_0 q)
    | succ nn5 ih5 =>
      intro x1 x2 H locs ls hB hl vv5 hv kv5
      obtain ⟨w, hq, kw5⟩ := y_lpN_e hv
      clear hv
      have hv : fX0_askedByLot_b5_i o0 h x1 x2 = some w := hq
      clear hq
      have b67 : ∀ (x1 : Int32) (x2 : Int32) (H : Heap) (locs : List Loc) (ls : Array Slot), z_B G ad n0 s h H locs → lv_has ls 8 [(0, .ref (ad o0)), (1, .int x1), (2, .int x2)] → ∀ w, fX0_askedByLot_b67 o0 x1 x2 h = some w → y_lq (fun q : Int32 × Int32 => fX0_askedByLot_b5_i o0 h q.1 q.2) nn5 vv5 w → W p l e rm_X0_askedByLot s m args below meth c H locs 0 0 (MQ below (z_Qi G ad h n0 s.heap.size r0) args s 0 0 (z_A ad n0 s.heap.size)) (F0 m 67 ls []) := by
        intro x1 x2 H locs ls hB hl w hv kw5
        obtain ⟨v1, ev1, hv⟩ := y_nm_e hv
        refine lv_iinc (v := v1) (lv' := [(2, .int v1), (0, .ref (ad o0)), (1, .int x1)]) hx hb dX0_askedByLot_67 hl (k := 2) rfl (by rw [ev1]; rfl) (by decide) rfl (fun ls hl => ?_)
        refine lv_goto (tgt := 5) hx hb dX0_askedByLot_70 (by decide) ?_
        replace hv := Option.some.inj hv
        subst hv
        exact ih5 x1 v1 _ _ _ hB (lv_sub hl [1, 2, 0] rfl) _ kw5 kv5
      have b65 : ∀ (x2 : Int32) (x3 : Int32) (H : Heap) (locs : List Loc) (ls : Array Slot), z_B G ad n0 s h H locs → lv_has ls 8 [(0, .ref (ad o0)), (2, .int x2), (3, .int x3)] → ∀ w, fX0_askedByLot_b65 o0 x2 x3 h = some w → y_lq (fun q : Int32 × Int32 => fX0_askedByLot_b5_i o0 h q.1 q.2) nn5 vv5 w → W p l e rm_X0_askedByLot s m args below meth c H locs 0 0 (MQ below (z_Qi G ad h n0 s.heap.size r0) args s 0 0 (z_A ad n0 s.heap.size)) (F0 m 65 ls []) := by
        intro x2 x3 H locs ls hB hl w hv kw5
        refine lv_iload_n hx hb dX0_askedByLot_65 rfl (lv_at hl 2 rfl) ?_
        refine lv_istore_n (lv' := [(1, .int x3), (0, .ref (ad o0)), (2, .int x2), (3, .int x3)]) hx hb dX0_askedByLot_66 rfl hl (by decide) rfl (fun ls hl => ?_)
        exact b67 x3 x2 _ _ _ hB (lv_sub hl [1, 0, 2] rfl) _ hv kw5
      refine lv_iload_n hx hb dX0_askedByLot_5 rfl (lv_at hl 2 rfl) ?_
      refine lv_if_le (tgt := 73) hx hb dX0_askedByLot_6 (by decide) (fun c2 => ?_) (fun c2 => ?_)
      · replace hv := y_br_t hv c2
        obtain ⟨t3, hq, ew⟩ := y_mp_e hv
        clear hv; subst ew
        replace kw5 : t3 = _ := kw5
        subst kw5
        have hv := hq
        clear hq
        refine lv_iload_n hx hb dX0_askedByLot_73 rfl (lv_at hl 1 rfl) ?_
        replace hv := Option.some.inj hv
        subst hv
        rw [← kv5]
        exact z_iret hc hB hr dX0_askedByLot_74
      · replace hv := y_br_f hv c2
        refine lv_aload_n hx hb dX0_askedByLot_9 rfl (lv_at hl 0 rfl) ?_
        refine lv_iload_n hx hb dX0_askedByLot_10 rfl (lv_at hl 2 rfl) ?_
        obtain ⟨g9, hv⟩ := y_gd_e hv
        obtain ⟨r5, c4, hv⟩ := y_bi_e hv
        refine z_thI hc hB (z_runV hc hB 0 (mm_X0_movingBy hSK l ad o0 x2 h c4) md_X0_movingBy qmX0_159 g9 (by decide) rfl rfl rfl ⟨Nat.le_of_ble_eq_true rfl, Nat.le_of_ble_eq_true rfl⟩ rfl hl.1 rfl (Nat.le_of_ble_eq_true rfl) dX0_askedByLot_11 ⟨Nat.le_of_ble_eq_true rfl, Nat.le_of_ble_eq_true rfl⟩) (fun H locs hB => ?_)
        refine lv_istore_n (lv' := [(3, .int r5), (0, .ref (ad o0)), (1, .int x1), (2, .int x2)]) hx hb dX0_askedByLot_14 rfl hl (by decide) rfl (fun ls hl => ?_)
        refine lv_iload_n hx hb dX0_askedByLot_15 rfl (lv_at hl 0 rfl) ?_
        obtain ⟨r11, c10, hv⟩ := y_bi_e hv
        refine z_thI hc hB (z_runS hc hB (mm_J6_bitCount_0f7a4 hSK l ad r5 h c10) md_J6_bitCount_0f7a4 qmX0_162 rfl rfl ⟨Nat.le_of_ble_eq_true rfl, Nat.le_of_ble_eq_true rfl⟩ rfl hl.1 rfl (Nat.le_of_ble_eq_true rfl) dX0_askedByLot_16 ⟨Nat.le_of_ble_eq_true rfl, Nat.le_of_ble_eq_true rfl⟩) (fun H locs hB => ?_)
        refine lv_iconst (v := (1 : Int32)) hx hb dX0_askedByLot_19 (by decide) ?_
        refine lv_isub hx hb dX0_askedByLot_20 ?_
        refine lv_i2l hx hb dX0_askedByLot_21 rfl ?_
        refine lv_aload_n hx hb dX0_askedByLot_22 rfl (lv_at hl 1 rfl) ?_
        refine lv_iload_n hx hb dX0_askedByLot_23 rfl (lv_at hl 2 rfl) ?_
        obtain ⟨r17, c15, hv⟩ := y_bi_e hv
        refine z_thL hc hB (z_runV hc hB 0 (mm_X0_lotsOf hSK l ad o0 x1 h c15) md_X0_lotsOf qmX0_167 g9 (by decide) rfl rfl rfl ⟨Nat.le_of_ble_eq_true rfl, Nat.le_of_ble_eq_true rfl⟩ rfl hl.1 rfl (Nat.le_of_ble_eq_true rfl) dX0_askedByLot_24 ⟨Nat.le_of_ble_eq_true rfl, Nat.le_of_ble_eq_true rfl⟩) (fun H locs hB => ?_)
        refine lv_lmul hx hb dX0_askedByLot_27 ?_
        obtain ⟨v20, ev20, hv⟩ := y_nm_e hv
        rw [← ev20]
        refine lv_lstore (lv' := [(4, .long v20), (3, .int r5), (0, .ref (ad o0)), (1, .int x1), (2, .int x2)]) hx hb dX0_askedByLot_28 hl (by decide) rfl (fun ls hl => ?_)
        refine lv_iload_n hx hb dX0_askedByLot_30 rfl (lv_at hl 3 rfl) ?_
        obtain ⟨r22, c21, hv⟩ := y_bi_e hv
        refine z_thI hc hB (z_runS hc hB (mm_J6_bitCount_0f7a4 hSK l ad x1 h c21) md_J6_bitCount_0f7a4 qmX0_162 rfl rfl ⟨Nat.le_of_ble_eq_true rfl, Nat.le_of_ble_eq_true rfl⟩ rfl hl.1 rfl (Nat.le_of_ble_eq_true rfl) dX0_askedByLot_31 ⟨Nat.le_of_ble_eq_true rfl, Nat.le_of_ble_eq_true rfl⟩) (fun H locs hB => ?_)
        refine lv_iconst (v := (1 : Int32)) hx hb dX0_askedByLot_34 (by decide) ?_
        refine lv_isub hx hb dX0_askedByLot_35 ?_
        refine lv_i2l hx hb dX0_askedByLot_36 rfl ?_
        refine lv_aload_n hx hb dX0_askedByLot_37 rfl (lv_at hl 2 rfl) ?_
        refine lv_iload_n hx hb dX0_askedByLot_38 rfl (lv_at hl 1 rfl) ?_
        obtain ⟨r28, c26, hv⟩ := y_bi_e hv
        refine z_thL hc hB (z_runV hc hB 0 (mm_X0_lotsOf hSK l ad o0 r5 h c26) md_X0_lotsOf qmX0_167 g9 (by decide) rfl rfl rfl ⟨Nat.le_of_ble_eq_true rfl, Nat.le_of_ble_eq_true rfl⟩ rfl hl.1 rfl (Nat.le_of_ble_eq_true rfl) dX0_askedByLot_39 ⟨Nat.le_of_ble_eq_true rfl, Nat.le_of_ble_eq_true rfl⟩) (fun H locs hB => ?_)
        refine lv_lmul hx hb dX0_askedByLot_42 ?_
        obtain ⟨v31, ev31, hv⟩ := y_nm_e hv
        rw [← ev31]
        refine lv_lstore (lv' := [(6, .long v31), (4, .long v20), (3, .int r5), (0, .ref (ad o0)), (1, .int x1), (2, .int x2)]) hx hb dX0_askedByLot_43 hl (by decide) rfl (fun ls hl => ?_)
        refine lv_iload_n hx hb dX0_askedByLot_45 rfl (lv_at hl 2 rfl) ?_
        obtain ⟨r33, c32, hv⟩ := y_bi_e hv
        refine z_thI hc hB (z_runS hc hB (mm_J6_bitCount_0f7a4 hSK l ad r5 h c32) md_J6_bitCount_0f7a4 qmX0_162 rfl rfl ⟨Nat.le_of_ble_eq_true rfl, Nat.le_of_ble_eq_true rfl⟩ rfl hl.1 rfl (Nat.le_of_ble_eq_true rfl) dX0_askedByLot_46 ⟨Nat.le_of_ble_eq_true rfl, Nat.le_of_ble_eq_true rfl⟩) (fun H locs hB => ?_)
        refine lv_iconst (v := (1 : Int32)) hx hb dX0_askedByLot_49 (by decide) ?_
        refine lv_icmp_le (tgt := 67) hx hb dX0_askedByLot_50 (by decide) (fun c37 => ?_) (fun c37 => ?_)
        · replace hv := y_br_t hv c37
          exact b67 x1 x2 _ _ _ hB (lv_sub hl [3, 4, 5] rfl) _ hv kw5
        · replace hv := y_br_f hv c37
          refine lv_iload_n hx hb dX0_askedByLot_53 rfl (lv_at hl 4 rfl) ?_
          refine lv_if_eq (tgt := 65) hx hb dX0_askedByLot_54 (by decide) (fun c38 => ?_) (fun c38 => ?_)
          · replace hv := y_br_t hv c38
            exact b65 x2 r5 _ _ _ hB (lv_sub hl [3, 5, 2] rfl) _ hv kw5
          · replace hv := y_br_f hv c38
            refine lv_lload hx hb dX0_askedByLot_57 (lv_at hl 1 rfl) ?_
            refine lv_lload hx hb dX0_askedByLot_59 (lv_at hl 0 rfl) ?_
            refine W.lcmp hx hb dX0_askedByLot_61 ?_
            refine lv_if_lt (tgt := 67) hx hb dX0_askedByLot_62 (by decide) (fun c39 => ?_) (fun c39 => ?_)
            · replace hv := y_br_t hv c39
              exact b67 x1 x2 _ _ _ hB (lv_sub hl [3, 4, 5] rfl) _ hv kw5
            · replace hv := y_br_f hv c39
              exact b65 x2 r5 _ _ _ hB (lv_sub hl [3, 5, 2] rfl) _ hv kw5
  rw [← kt] at hv
  refine lv_iconst (v := (0 : Int32)) hx hb dX0_askedByLot_0 (by decide) ?_
  refine lv_istore_n (lv' := [(1, .int (0 : Int32)), (0, .ref (ad o0))]) hx hb dX0_askedByLot_1 rfl hl (by decide) rfl (fun ls hl => ?_)
  refine lv_bipush (v := (9 : Int32)) hx hb dX0_askedByLot_2 (by decide) ?_
  refine lv_istore_n (lv' := [(2, .int (9 : Int32)), (1, .int (0 : Int32)), (0, .ref (ad o0))]) hx hb dX0_askedByLot_4 rfl hl (by decide) rfl (fun ls hl => ?_)
  obtain ⟨n, hv⟩ := y_lp_e hv
  exact L5 n (0 : Int32) (9 : Int32) _ _ _ hB (lv_sub hl [2, 1, 0] rfl) _ hv kt
theorem dX0_canDraw_0 : decode cX0_canDraw 0 = .ok (.iload_n 1, 1) := by decide +kernel
theorem dX0_canDraw_1 : decode cX0_canDraw 1 = .ok (.ifCond .lt 24, 3) := by decide +kernel
theorem dX0_canDraw_4 : decode cX0_canDraw 4 = .ok (.iload_n 1, 1) := by decide +kernel
theorem dX0_canDraw_5 : decode cX0_canDraw 5 = .ok (.bipush 12, 2) := by decide +kernel
theorem dX0_canDraw_7 : decode cX0_canDraw 7 = .ok (.if_icmp .gt 18, 3) := by decide +kernel
theorem dX0_canDraw_10 : decode cX0_canDraw 10 = .ok (.iload_n 1, 1) := by decide +kernel
theorem dX0_canDraw_11 : decode cX0_canDraw 11 = .ok (.ifCond .eq 10, 3) := by decide +kernel
theorem dX0_canDraw_14 : decode cX0_canDraw 14 = .ok (.aload_n 0, 1) := by decide +kernel
theorem dX0_canDraw_15 : decode cX0_canDraw 15 = .ok (.getfield 79, 3) := by decide +kernel
theorem dX0_canDraw_18 : decode cX0_canDraw 18 = .ok (.ifCond .le 7, 3) := by decide +kernel
theorem dX0_canDraw_21 : decode cX0_canDraw 21 = .ok (.iconst 1, 1) := by decide +kernel
theorem dX0_canDraw_22 : decode cX0_canDraw 22 = .ok (.goto 4, 3) := by decide +kernel
theorem dX0_canDraw_25 : decode cX0_canDraw 25 = .ok (.iconst 0, 1) := by decide +kernel
theorem dX0_canDraw_26 : decode cX0_canDraw 26 = .ok (.ireturn, 1) := by decide +kernel
abbrev rm_X0_canDraw : Room := { frames := 0, cells := 0, slots := 0, locals := 0 }
noncomputable def fX0_canDraw_b21  (h : z_T) : Option (Int32) :=
  some (1 : Int32)
noncomputable def fX0_canDraw_b25  (h : z_T) : Option (Int32) :=
  some (0 : Int32)
noncomputable def fX0_canDraw (o0 : Nat) (x1 : Int32) (h : z_T) : Option (Int32) :=
  y_br (x1 < 0)
    (fX0_canDraw_b25 h)
    (y_br ((12 : Int32) < x1)
      (fX0_canDraw_b25 h)
      (y_br (x1 = 0)
        (fX0_canDraw_b21 h)
        (y_gd (z_ok h o0 0) <|
        y_br ((z_I h o0 1) ≤ 0)
          (fX0_canDraw_b25 h)
          (fX0_canDraw_b21 h))))
set_option maxHeartbeats 4000000 in
set_option maxRecDepth 100000 in
theorem mm_X0_canDraw {G : z_Gt} (hSK : z_SK (z_S G)) (l : Launch) (ad : Nat → Nat) (o0 : Nat) (x1 : Int32) (h : z_T) {r0 : Int32} (hv : fX0_canDraw o0 x1 h = some r0) : z_Mi G (z_S G) l yX0_canDraw cX0_canDraw 2 (.boolean) rm_X0_canDraw 0 0 [.ref (ad o0), .int x1] ad h h r0 := by
  refine z_ofW hSK (by decide) (Nat.le_of_ble_eq_true rfl) ?_
  intro p e s m args below meth c ls hc hr hnm hB hl
  have hx := hc.1.1
  have hb := hc.1.2.1
  have hown := hc.1.2.2.2.1
  have hts := hc.1.2.2.2.2
  replace hc : z_C G (z_S G) ad (z_n h) p m c cX0_canDraw 2 s args RX0 meth := hc
  replace hown : s.vm.findClass RX0 = some m.cls := hown
  replace hl : lv_has ls 2 [(0, .ref (ad o0)), (1, .int x1)] := hl
  show W p l e rm_X0_canDraw s m args below meth c s.heap [] 0 0 (MQ below (z_Qi G ad h (z_n h) s.heap.size r0) args s 0 0 (z_A ad (z_n h) s.heap.size)) (F0 m 0 ls [])
  obtain ⟨rs, kt⟩ : ∃ rs : Int32, rs = r0 := ⟨_, rfl⟩
  generalize hn0 : z_n h = n0 at hc hB ⊢
  have b21 : ∀ (H : Heap) (locs : List Loc) (ls : Array Slot), z_B G ad n0 s h H locs → lv_has ls 2 [] → ∀ w, fX0_canDraw_b21 h = some w → w = r0 → W p l e rm_X0_canDraw s m args below meth c H locs 0 0 (MQ below (z_Qi G ad h n0 s.heap.size r0) args s 0 0 (z_A ad n0 s.heap.size)) (F0 m 21 ls []) := by
    intro H locs ls hB hl w hv kb
    refine lv_iconst (v := (1 : Int32)) hx hb dX0_canDraw_21 (by decide) ?_
    refine lv_goto (tgt := 26) hx hb dX0_canDraw_22 (by decide) ?_
    replace hv := Option.some.inj hv
    subst hv
    rw [← kb]
    exact z_zret hc hB hr rfl dX0_canDraw_26
  have b25 : ∀ (H : Heap) (locs : List Loc) (ls : Array Slot), z_B G ad n0 s h H locs → lv_has ls 2 [] → ∀ w, fX0_canDraw_b25 h = some w → w = r0 → W p l e rm_X0_canDraw s m args below meth c H locs 0 0 (MQ below (z_Qi G ad h n0 s.heap.size r0) args s 0 0 (z_A ad n0 s.heap.size)) (F0 m 25 ls []) := by
    intro H locs ls hB hl w hv kb
    refine lv_iconst (v := (0 : Int32)) hx hb dX0_canDraw_25 (by decide) ?_
    replace hv := Option.some.inj hv
    subst hv
    rw [← kb]
    exact z_zret hc hB hr rfl dX0_canDraw_26
  rw [← kt] at hv
  refine lv_iload_n hx hb dX0_canDraw_0 rfl (lv_at hl 1 rfl) ?_
  refine lv_if_lt (tgt := 25) hx hb dX0_canDraw_1 (by decide) (fun c1 => ?_) (fun c1 => ?_)
  · replace hv := y_br_t hv c1
    exact b25 _ _ _ hB (lv_sub hl [] rfl) _ hv kt
  · replace hv := y_br_f hv c1
    refine lv_iload_n hx hb dX0_canDraw_4 rfl (lv_at hl 1 rfl) ?_
    refine lv_bipush (v := (12 : Int32)) hx hb dX0_canDraw_5 (by decide) ?_
    refine lv_icmp_gt (tgt := 25) hx hb dX0_canDraw_7 (by decide) (fun c2 => ?_) (fun c2 => ?_)
    · replace hv := y_br_t hv c2
      exact b25 _ _ _ hB (lv_sub hl [] rfl) _ hv kt
    · replace hv := y_br_f hv c2
      refine lv_iload_n hx hb dX0_canDraw_10 rfl (lv_at hl 1 rfl) ?_
      refine lv_if_eq (tgt := 21) hx hb dX0_canDraw_11 (by decide) (fun c3 => ?_) (fun c3 => ?_)
      · replace hv := y_br_t hv c3
        exact b21 _ _ _ hB (lv_sub hl [] rfl) _ hv kt
      · replace hv := y_br_f hv c3
        refine lv_aload_n hx hb dX0_canDraw_14 rfl (lv_at hl 0 rfl) ?_
        obtain ⟨g4, hv⟩ := y_gd_e hv
        refine z_getI hc hB 0 1 g4 (by decide) (by decide) rfl (z_l1 hc qfX0_79) dX0_canDraw_15 ?_
        refine lv_if_le (tgt := 25) hx hb dX0_canDraw_18 (by decide) (fun c5 => ?_) (fun c5 => ?_)
        · replace hv := y_br_t hv c5
          exact b25 _ _ _ hB (lv_sub hl [] rfl) _ hv kt
        · replace hv := y_br_f hv c5
          exact b21 _ _ _ hB (lv_sub hl [] rfl) _ hv kt
theorem qmX1_1 : Cond.methodLink RX1 1 objectInit ∈ z_ws := List.mem_filter.mpr ⟨List.mem_append_right _ (List.mem_of_getElem? (i := 87) (by decide +kernel)), rfl⟩
theorem qa_byte : Cond.arrayClass FieldType.byte ∈ z_ws := List.mem_filter.mpr ⟨List.mem_append_right _ (List.mem_of_getElem? (i := 97) (by decide +kernel)), rfl⟩
theorem dX1_init_0 : decode cX1_init 0 = .ok (.aload_n 0, 1) := by decide +kernel
theorem dX1_init_1 : decode cX1_init 1 = .ok (.invokespecial 1, 3) := by decide +kernel
theorem dX1_init_4 : decode cX1_init 4 = .ok (.aload_n 0, 1) := by decide +kernel
theorem dX1_init_5 : decode cX1_init 5 = .ok (.sipush 940, 3) := by decide +kernel
theorem dX1_init_8 : decode cX1_init 8 = .ok (.newarray .byte, 2) := by decide +kernel
theorem dX1_init_10 : decode cX1_init 10 = .ok (.putfield 9, 3) := by decide +kernel
theorem dX1_init_13 : decode cX1_init 13 = .ok (.return_, 1) := by decide +kernel
abbrev rm_X1_init : Room := { frames := 1, cells := 1, slots := 940, locals := 12 }
noncomputable def fX1_init (o0 : Nat) (h : z_T) : Option (z_T) :=
  y_nm (z_n h) fun o1 =>
  y_nm (z_al h 12 940) fun h2 =>
  y_gd (z_ok h2 o0 1) <|
  y_nm (z_sR h2 o0 0 (some o1)) fun h5 =>
  some h5
set_option maxHeartbeats 4000000 in
set_option maxRecDepth 100000 in
theorem mm_X1_init {G : z_Gt} (hSK : z_SK (z_S G)) (l : Launch) (ad : Nat → Nat) (o0 : Nat) (h : z_T) {h9 : z_T} (hv : fX1_init o0 h = some h9) : z_Mv G (z_S G) l yX1_init cX1_init 1 rm_X1_init 1 940 [.ref (ad o0)] ad h h9 := by
  refine z_ofW hSK (by decide) (Nat.le_of_ble_eq_true rfl) ?_
  intro p e s m args below meth c ls hc hr hnm hB hl
  have hx := hc.1.1
  have hb := hc.1.2.1
  have hown := hc.1.2.2.2.1
  have hts := hc.1.2.2.2.2
  replace hc : z_C G (z_S G) ad (z_n h) p m c cX1_init 1 s args RX1 meth := hc
  replace hown : s.vm.findClass RX1 = some m.cls := hown
  replace hl : lv_has ls 1 [(0, .ref (ad o0))] := hl
  show W p l e rm_X1_init s m args below meth c s.heap [] 0 0 (MQ below (z_Qv G ad h9 (z_n h) s.heap.size) args s 1 940 (z_A ad (z_n h) s.heap.size)) (F0 m 0 ls [])
  obtain ⟨rs, kt⟩ : ∃ rs : z_T, rs = h9 := ⟨_, rfl⟩
  generalize hn0 : z_n h = n0 at hc hB ⊢
  rw [← kt] at hv
  refine lv_aload_n hx hb dX1_init_0 rfl (lv_at hl 0 rfl) ?_
  refine z_objI hc qmX1_1 q_objInst q_objCode hl.1 ⟨Nat.le_of_ble_eq_true rfl, Nat.le_of_ble_eq_true rfl⟩ dX1_init_1 ?_
  refine lv_aload_n hx hb dX1_init_4 rfl (lv_at hl 0 rfl) ?_
  refine lv_sipush (v := (940 : Int32)) hx hb dX1_init_5 (by decide) ?_
  obtain ⟨o1, eo1, hv⟩ := y_nm_e hv
  obtain ⟨h2, eh2, hv⟩ := y_nm_e hv
  refine z_newarr hc hB 12 940 (n := (940 : Int32)) eh2 (by decide) (by decide) (by decide) rfl qa_byte (by decide) (by decide) (Nat.le_of_ble_eq_true rfl) (Nat.le_of_ble_eq_true rfl) dX1_init_8 (fun H hB => ?_)
  rw [← eo1]
  have g3 : z_ok h2 o1 12 = true := by rw [eh2, eo1]; exact z_al_ok
  obtain ⟨g4, hv⟩ := y_gd_e hv
  obtain ⟨h5, eh5, hv⟩ := y_nm_e hv
  refine z_putF hc hB 1 0 (r := (some o1)) rfl (z_hrS (k := 12) g3) eh5 g4 qfX1_9 dX1_init_10 hnm (by decide) (by decide) rfl rfl rfl (fun r => by cases r <;> rfl) (fun r => by cases r <;> rfl) (fun H locs hB => ?_)
  replace hv := Option.some.inj hv
  subst hv
  rw [← kt]
  exact z_vret hc hB hr dX1_init_13
theorem qfX1_13 : Cond.fieldLink RX1 13 "DreamTests$Bytes" "size" "I" ∈ z_ws := List.mem_filter.mpr ⟨List.mem_append_right _ (List.mem_of_getElem? (i := 89) (by decide +kernel)), rfl⟩
theorem dX1_left_0 : decode cX1_left 0 = .ok (.sipush 940, 3) := by decide +kernel
theorem dX1_left_3 : decode cX1_left 3 = .ok (.aload_n 0, 1) := by decide +kernel
theorem dX1_left_4 : decode cX1_left 4 = .ok (.getfield 13, 3) := by decide +kernel
theorem dX1_left_7 : decode cX1_left 7 = .ok (.isub, 1) := by decide +kernel
theorem dX1_left_8 : decode cX1_left 8 = .ok (.ireturn, 1) := by decide +kernel
abbrev rm_X1_left : Room := { frames := 0, cells := 0, slots := 0, locals := 0 }
noncomputable def fX1_left (o0 : Nat) (h : z_T) : Option (Int32) :=
  y_gd (z_ok h o0 1) <|
  some ((940 : Int32) - (z_I h o0 1))
set_option maxHeartbeats 4000000 in
set_option maxRecDepth 100000 in
theorem mm_X1_left {G : z_Gt} (hSK : z_SK (z_S G)) (l : Launch) (ad : Nat → Nat) (o0 : Nat) (h : z_T) {r0 : Int32} (hv : fX1_left o0 h = some r0) : z_Mi G (z_S G) l yX1_left cX1_left 1 (.int) rm_X1_left 0 0 [.ref (ad o0)] ad h h r0 := by
  refine z_ofW hSK (by decide) (Nat.le_of_ble_eq_true rfl) ?_
  intro p e s m args below meth c ls hc hr hnm hB hl
  have hx := hc.1.1
  have hb := hc.1.2.1
  have hown := hc.1.2.2.2.1
  have hts := hc.1.2.2.2.2
  replace hc : z_C G (z_S G) ad (z_n h) p m c cX1_left 1 s args RX1 meth := hc
  replace hown : s.vm.findClass RX1 = some m.cls := hown
  replace hl : lv_has ls 1 [(0, .ref (ad o0))] := hl
  show W p l e rm_X1_left s m args below meth c s.heap [] 0 0 (MQ below (z_Qi G ad h (z_n h) s.heap.size r0) args s 0 0 (z_A ad (z_n h) s.heap.size)) (F0 m 0 ls [])
  obtain ⟨rs, kt⟩ : ∃ rs : Int32, rs = r0 := ⟨_, rfl⟩
  generalize hn0 : z_n h = n0 at hc hB ⊢
  rw [← kt] at hv
  refine lv_sipush (v := (940 : Int32)) hx hb dX1_left_0 (by decide) ?_
  refine lv_aload_n hx hb dX1_left_3 rfl (lv_at hl 0 rfl) ?_
  obtain ⟨g1, hv⟩ := y_gd_e hv
  refine z_getI hc hB 1 1 g1 (by decide) (by decide) rfl (z_l1 hc qfX1_13) dX1_left_4 ?_
  refine lv_isub hx hb dX1_left_7 ?_
  replace hv := Option.some.inj hv
  subst hv
  rw [← kt]
  exact z_iret hc hB hr dX1_left_8
theorem dX1_put_0 : decode cX1_put 0 = .ok (.aload_n 0, 1) := by decide +kernel
theorem dX1_put_1 : decode cX1_put 1 = .ok (.getfield 13, 3) := by decide +kernel
theorem dX1_put_4 : decode cX1_put 4 = .ok (.ifCond .lt 36, 3) := by decide +kernel
theorem dX1_put_7 : decode cX1_put 7 = .ok (.aload_n 0, 1) := by decide +kernel
theorem dX1_put_8 : decode cX1_put 8 = .ok (.getfield 13, 3) := by decide +kernel
theorem dX1_put_11 : decode cX1_put 11 = .ok (.aload_n 0, 1) := by decide +kernel
theorem dX1_put_12 : decode cX1_put 12 = .ok (.getfield 9, 3) := by decide +kernel
theorem dX1_put_15 : decode cX1_put 15 = .ok (.arraylength, 1) := by decide +kernel
theorem dX1_put_16 : decode cX1_put 16 = .ok (.if_icmp .ge 24, 3) := by decide +kernel
theorem dX1_put_19 : decode cX1_put 19 = .ok (.aload_n 0, 1) := by decide +kernel
theorem dX1_put_20 : decode cX1_put 20 = .ok (.getfield 9, 3) := by decide +kernel
theorem dX1_put_23 : decode cX1_put 23 = .ok (.aload_n 0, 1) := by decide +kernel
theorem dX1_put_24 : decode cX1_put 24 = .ok (.getfield 13, 3) := by decide +kernel
theorem dX1_put_27 : decode cX1_put 27 = .ok (.iload_n 1, 1) := by decide +kernel
theorem dX1_put_28 : decode cX1_put 28 = .ok (.i2b, 1) := by decide +kernel
theorem dX1_put_29 : decode cX1_put 29 = .ok (.bastore, 1) := by decide +kernel
theorem dX1_put_30 : decode cX1_put 30 = .ok (.aload_n 0, 1) := by decide +kernel
theorem dX1_put_31 : decode cX1_put 31 = .ok (.dup, 1) := by decide +kernel
theorem dX1_put_32 : decode cX1_put 32 = .ok (.getfield 13, 3) := by decide +kernel
theorem dX1_put_35 : decode cX1_put 35 = .ok (.iconst 1, 1) := by decide +kernel
theorem dX1_put_36 : decode cX1_put 36 = .ok (.iadd, 1) := by decide +kernel
theorem dX1_put_37 : decode cX1_put 37 = .ok (.putfield 13, 3) := by decide +kernel
theorem dX1_put_40 : decode cX1_put 40 = .ok (.return_, 1) := by decide +kernel
abbrev rm_X1_put : Room := { frames := 0, cells := 0, slots := 0, locals := 0 }
noncomputable def fX1_put (o0 : Nat) (x1 : Int32) (h : z_T) : Option (z_T) :=
  y_gd (z_ok h o0 1) <|
  y_br ((z_I h o0 1) < 0)
    (some h)
    (y_bi (z_R h o0 0) fun o3 =>
    y_gd (z_ok h o3 12) <|
    y_br ((nI (z_N h o3)) ≤ (z_I h o0 1))
      (some h)
      (y_gd (z_ix (z_I h o0 1) (z_N h o3)) <|
      y_nm (z_sI h o3 (z_I h o0 1).toNatClampNeg ((x1).toInt8.toInt32).toInt8.toInt32) fun h7 =>
      y_nm (z_sI h7 o0 1 ((z_I h7 o0 1) + (1 : Int32))) fun h8 =>
      some h8))
set_option maxHeartbeats 4000000 in
set_option maxRecDepth 100000 in
theorem mm_X1_put {G : z_Gt} (hSK : z_SK (z_S G)) (l : Launch) (ad : Nat → Nat) (o0 : Nat) (x1 : Int32) (h : z_T) {h9 : z_T} (hv : fX1_put o0 x1 h = some h9) : z_Mv G (z_S G) l yX1_put cX1_put 2 rm_X1_put 0 0 [.ref (ad o0), .int x1] ad h h9 := by
  refine z_ofW hSK (by decide) (Nat.le_of_ble_eq_true rfl) ?_
  intro p e s m args below meth c ls hc hr hnm hB hl
  have hx := hc.1.1
  have hb := hc.1.2.1
  have hown := hc.1.2.2.2.1
  have hts := hc.1.2.2.2.2
  replace hc : z_C G (z_S G) ad (z_n h) p m c cX1_put 2 s args RX1 meth := hc
  replace hown : s.vm.findClass RX1 = some m.cls := hown
  replace hl : lv_has ls 2 [(0, .ref (ad o0)), (1, .int x1)] := hl
  show W p l e rm_X1_put s m args below meth c s.heap [] 0 0 (MQ below (z_Qv G ad h9 (z_n h) s.heap.size) args s 0 0 (z_A ad (z_n h) s.heap.size)) (F0 m 0 ls [])
  obtain ⟨rs, kt⟩ : ∃ rs : z_T, rs = h9 := ⟨_, rfl⟩
  generalize hn0 : z_n h = n0 at hc hB ⊢
  rw [← kt] at hv
  refine lv_aload_n hx hb dX1_put_0 rfl (lv_at hl 0 rfl) ?_
  obtain ⟨g1, hv⟩ := y_gd_e hv
  refine z_getI hc hB 1 1 g1 (by decide) (by decide) rfl (z_l1 hc qfX1_13) dX1_put_1 ?_
  refine lv_if_lt (tgt := 40) hx hb dX1_put_4 (by decide) (fun c2 => ?_) (fun c2 => ?_)
  · replace hv := y_br_t hv c2
    replace hv := Option.some.inj hv
    subst hv
    rw [← kt]
    exact z_vret hc hB hr dX1_put_40
  · replace hv := y_br_f hv c2
    refine lv_aload_n hx hb dX1_put_7 rfl (lv_at hl 0 rfl) ?_
    refine z_getI hc hB 1 1 g1 (by decide) (by decide) rfl (z_l1 hc qfX1_13) dX1_put_8 ?_
    refine lv_aload_n hx hb dX1_put_11 rfl (lv_at hl 0 rfl) ?_
    obtain ⟨o3, eo3, hv⟩ := y_bi_e hv
    refine z_getR hc hB 1 0 g1 eo3 (by decide) (by decide) rfl (z_l1 hc qfX1_9) dX1_put_12 ?_
    obtain ⟨g4, hv⟩ := y_gd_e hv
    refine z_alen hc hB 12 (by decide) (by decide) g4 dX1_put_15 ?_
    refine lv_icmp_ge (tgt := 40) hx hb dX1_put_16 (by decide) (fun c5 => ?_) (fun c5 => ?_)
    · replace hv := y_br_t hv c5
      replace hv := Option.some.inj hv
      subst hv
      rw [← kt]
      exact z_vret hc hB hr dX1_put_40
    · replace hv := y_br_f hv c5
      refine lv_aload_n hx hb dX1_put_19 rfl (lv_at hl 0 rfl) ?_
      refine z_getR hc hB 1 0 g1 eo3 (by decide) (by decide) rfl (z_l1 hc qfX1_9) dX1_put_20 ?_
      refine lv_aload_n hx hb dX1_put_23 rfl (lv_at hl 0 rfl) ?_
      refine z_getI hc hB 1 1 g1 (by decide) (by decide) rfl (z_l1 hc qfX1_13) dX1_put_24 ?_
      refine lv_iload_n hx hb dX1_put_27 rfl (lv_at hl 1 rfl) ?_
      refine lv_i2b hx hb dX1_put_28 rfl ?_
      obtain ⟨i6, hv⟩ := y_gd_e hv
      obtain ⟨h7, eh7, hv⟩ := y_nm_e hv
      refine y_bast hc hB eh7 g4 i6 dX1_put_29 (fun H locs hB => ?_)
      refine lv_aload_n hx hb dX1_put_30 rfl (lv_at hl 0 rfl) ?_
      refine lv_dup hx hb dX1_put_31 rfl ?_
      refine z_getI hc hB 1 1 (by rw [eh7]; exact g1) (by decide) (by decide) rfl (z_l1 hc qfX1_13) dX1_put_32 ?_
      refine lv_iconst (v := (1 : Int32)) hx hb dX1_put_35 (by decide) ?_
      refine lv_iadd hx hb dX1_put_36 ?_
      obtain ⟨h8, eh8, hv⟩ := y_nm_e hv
      refine y_putI hc hB 1 1 eh8 (by rw [eh7]; exact g1) (z_l1 hc qfX1_13) dX1_put_37 (by decide) (by decide) rfl rfl rfl rfl (fun H locs hB => ?_)
      replace hv := Option.some.inj hv
      subst hv
      rw [← kt]
      exact z_vret hc hB hr dX1_put_40
theorem qmX1_17 : Cond.methodLink RX1 17 yX1_put ∈ z_ws := List.mem_filter.mpr ⟨List.mem_append_right _ (List.mem_of_getElem? (i := 327) (by decide +kernel)), rfl⟩
theorem qc_X1_put : Cond.code yX1_put cX1_put 2 none ∈ z_ws := List.mem_filter.mpr ⟨List.mem_append_right _ (List.mem_of_getElem? (i := 330) (by decide +kernel)), rfl⟩
theorem qi_X1_put : Cond.instanceMethod yX1_put ∈ z_ws := List.mem_filter.mpr ⟨List.mem_append_right _ (List.mem_of_getElem? (i := 328) (by decide +kernel)), rfl⟩
theorem qs_X1_put : Cond.selects RX1 yX1_put yX1_put ∈ z_ws := List.mem_filter.mpr ⟨List.mem_append_right _ (List.mem_of_getElem? (i := 329) (by decide +kernel)), rfl⟩
theorem md_X1_put : z_mdV yX1_put cX1_put 2 none 1 := ⟨⟨qn_RX1, qc_X1_put, ⟨by decide +kernel, by decide +kernel, by decide +kernel⟩⟩, qi_X1_put, qs_X1_put⟩
theorem dX1_putNumber_0 : decode cX1_putNumber 0 = .ok (.aload_n 0, 1) := by decide +kernel
theorem dX1_putNumber_1 : decode cX1_putNumber 1 = .ok (.iload_n 1, 1) := by decide +kernel
theorem dX1_putNumber_2 : decode cX1_putNumber 2 = .ok (.bipush 24, 2) := by decide +kernel
theorem dX1_putNumber_4 : decode cX1_putNumber 4 = .ok (.ishr, 1) := by decide +kernel
theorem dX1_putNumber_5 : decode cX1_putNumber 5 = .ok (.invokevirtual 17, 3) := by decide +kernel
theorem dX1_putNumber_8 : decode cX1_putNumber 8 = .ok (.aload_n 0, 1) := by decide +kernel
theorem dX1_putNumber_9 : decode cX1_putNumber 9 = .ok (.iload_n 1, 1) := by decide +kernel
theorem dX1_putNumber_10 : decode cX1_putNumber 10 = .ok (.bipush 16, 2) := by decide +kernel
theorem dX1_putNumber_12 : decode cX1_putNumber 12 = .ok (.ishr, 1) := by decide +kernel
theorem dX1_putNumber_13 : decode cX1_putNumber 13 = .ok (.invokevirtual 17, 3) := by decide +kernel
theorem dX1_putNumber_16 : decode cX1_putNumber 16 = .ok (.aload_n 0, 1) := by decide +kernel
theorem dX1_putNumber_17 : decode cX1_putNumber 17 = .ok (.iload_n 1, 1) := by decide +kernel
theorem dX1_putNumber_18 : decode cX1_putNumber 18 = .ok (.bipush 8, 2) := by decide +kernel
theorem dX1_putNumber_20 : decode cX1_putNumber 20 = .ok (.ishr, 1) := by decide +kernel
theorem dX1_putNumber_21 : decode cX1_putNumber 21 = .ok (.invokevirtual 17, 3) := by decide +kernel
theorem dX1_putNumber_24 : decode cX1_putNumber 24 = .ok (.aload_n 0, 1) := by decide +kernel
theorem dX1_putNumber_25 : decode cX1_putNumber 25 = .ok (.iload_n 1, 1) := by decide +kernel
theorem dX1_putNumber_26 : decode cX1_putNumber 26 = .ok (.invokevirtual 17, 3) := by decide +kernel
theorem dX1_putNumber_29 : decode cX1_putNumber 29 = .ok (.return_, 1) := by decide +kernel
abbrev rm_X1_putNumber : Room := { frames := 1, cells := 0, slots := 0, locals := 21 }
noncomputable def fX1_putNumber (o0 : Nat) (x1 : Int32) (h : z_T) : Option (z_T) :=
  y_gd (z_ok h o0 1) <|
  y_bi (fX1_put o0 (x1 >>> ((24 : Int32) &&& 31)) h) fun h2 =>
  y_gd (z_ok h2 o0 1) <|
  y_bi (fX1_put o0 (x1 >>> ((16 : Int32) &&& 31)) h2) fun h5 =>
  y_gd (z_ok h5 o0 1) <|
  y_bi (fX1_put o0 (x1 >>> ((8 : Int32) &&& 31)) h5) fun h8 =>
  y_gd (z_ok h8 o0 1) <|
  y_bi (fX1_put o0 x1 h8) fun h11 =>
  some h11
set_option maxHeartbeats 4000000 in
set_option maxRecDepth 100000 in
theorem mm_X1_putNumber {G : z_Gt} (hSK : z_SK (z_S G)) (l : Launch) (ad : Nat → Nat) (o0 : Nat) (x1 : Int32) (h : z_T) {h9 : z_T} (hv : fX1_putNumber o0 x1 h = some h9) : z_Mv G (z_S G) l yX1_putNumber cX1_putNumber 2 rm_X1_putNumber 0 0 [.ref (ad o0), .int x1] ad h h9 := by
  refine z_ofW hSK (by decide) (Nat.le_of_ble_eq_true rfl) ?_
  intro p e s m args below meth c ls hc hr hnm hB hl
  have hx := hc.1.1
  have hb := hc.1.2.1
  have hown := hc.1.2.2.2.1
  have hts := hc.1.2.2.2.2
  replace hc : z_C G (z_S G) ad (z_n h) p m c cX1_putNumber 2 s args RX1 meth := hc
  replace hown : s.vm.findClass RX1 = some m.cls := hown
  replace hl : lv_has ls 2 [(0, .ref (ad o0)), (1, .int x1)] := hl
  show W p l e rm_X1_putNumber s m args below meth c s.heap [] 0 0 (MQ below (z_Qv G ad h9 (z_n h) s.heap.size) args s 0 0 (z_A ad (z_n h) s.heap.size)) (F0 m 0 ls [])
  obtain ⟨rs, kt⟩ : ∃ rs : z_T, rs = h9 := ⟨_, rfl⟩
  generalize hn0 : z_n h = n0 at hc hB ⊢
  rw [← kt] at hv
  refine lv_aload_n hx hb dX1_putNumber_0 rfl (lv_at hl 0 rfl) ?_
  refine lv_iload_n hx hb dX1_putNumber_1 rfl (lv_at hl 1 rfl) ?_
  refine lv_bipush (v := (24 : Int32)) hx hb dX1_putNumber_2 (by decide) ?_
  refine lv_ishr hx hb dX1_putNumber_4 ?_
  obtain ⟨g3, hv⟩ := y_gd_e hv
  obtain ⟨h2, c1, hv⟩ := y_bi_e hv
  refine z_thV hc hB (z_runV hc hB 1 (mm_X1_put hSK l ad o0 (x1 >>> ((24 : Int32) &&& 31)) h c1) md_X1_put qmX1_17 g3 (by decide) rfl rfl rfl ⟨Nat.le_of_ble_eq_true rfl, Nat.le_of_ble_eq_true rfl⟩ rfl hl.1 rfl (Nat.le_of_ble_eq_true rfl) dX1_putNumber_5 ⟨Nat.le_of_ble_eq_true rfl, Nat.le_of_ble_eq_true rfl⟩) (fun H locs hB => ?_)
  refine lv_aload_n hx hb dX1_putNumber_8 rfl (lv_at hl 0 rfl) ?_
  refine lv_iload_n hx hb dX1_putNumber_9 rfl (lv_at hl 1 rfl) ?_
  refine lv_bipush (v := (16 : Int32)) hx hb dX1_putNumber_10 (by decide) ?_
  refine lv_ishr hx hb dX1_putNumber_12 ?_
  obtain ⟨g6, hv⟩ := y_gd_e hv
  obtain ⟨h5, c4, hv⟩ := y_bi_e hv
  refine z_thV hc hB (z_runV hc hB 1 (mm_X1_put hSK l ad o0 (x1 >>> ((16 : Int32) &&& 31)) h2 c4) md_X1_put qmX1_17 g6 (by decide) rfl rfl rfl ⟨Nat.le_of_ble_eq_true rfl, Nat.le_of_ble_eq_true rfl⟩ rfl hl.1 rfl (Nat.le_of_ble_eq_true rfl) dX1_putNumber_13 ⟨Nat.le_of_ble_eq_true rfl, Nat.le_of_ble_eq_true rfl⟩) (fun H locs hB => ?_)
  refine lv_aload_n hx hb dX1_putNumber_16 rfl (lv_at hl 0 rfl) ?_
  refine lv_iload_n hx hb dX1_putNumber_17 rfl (lv_at hl 1 rfl) ?_
  refine lv_bipush (v := (8 : Int32)) hx hb dX1_putNumber_18 (by decide) ?_
  refine lv_ishr hx hb dX1_putNumber_20 ?_
  obtain ⟨g9, hv⟩ := y_gd_e hv
  obtain ⟨h8, c7, hv⟩ := y_bi_e hv
  refine z_thV hc hB (z_runV hc hB 1 (mm_X1_put hSK l ad o0 (x1 >>> ((8 : Int32) &&& 31)) h5 c7) md_X1_put qmX1_17 g9 (by decide) rfl rfl rfl ⟨Nat.le_of_ble_eq_true rfl, Nat.le_of_ble_eq_true rfl⟩ rfl hl.1 rfl (Nat.le_of_ble_eq_true rfl) dX1_putNumber_21 ⟨Nat.le_of_ble_eq_true rfl, Nat.le_of_ble_eq_true rfl⟩) (fun H locs hB => ?_)
  refine lv_aload_n hx hb dX1_putNumber_24 rfl (lv_at hl 0 rfl) ?_
  refine lv_iload_n hx hb dX1_putNumber_25 rfl (lv_at hl 1 rfl) ?_
  obtain ⟨g12, hv⟩ := y_gd_e hv
  obtain ⟨h11, c10, hv⟩ := y_bi_e hv
  refine z_thV hc hB (z_runV hc hB 1 (mm_X1_put hSK l ad o0 x1 h8 c10) md_X1_put qmX1_17 g12 (by decide) rfl rfl rfl ⟨Nat.le_of_ble_eq_true rfl, Nat.le_of_ble_eq_true rfl⟩ rfl hl.1 rfl (Nat.le_of_ble_eq_true rfl) dX1_putNumber_26 ⟨Nat.le_of_ble_eq_true rfl, Nat.le_of_ble_eq_true rfl⟩) (fun H locs hB => ?_)
  replace hv := Option.some.inj hv
  subst hv
  rw [← kt]
  exact z_vret hc hB hr dX1_putNumber_29
theorem dX1_putName_0 : decode cX1_putName 0 = .ok (.bipush 30, 2) := by decide +kernel
theorem dX1_putName_2 : decode cX1_putName 2 = .ok (.istore_n 3, 1) := by decide +kernel
theorem dX1_putName_3 : decode cX1_putName 3 = .ok (.iload_n 3, 1) := by decide +kernel
theorem dX1_putName_4 : decode cX1_putName 4 = .ok (.ifCond .lt 34, 3) := by decide +kernel
theorem dX1_putName_7 : decode cX1_putName 7 = .ok (.lload_n 1, 1) := by decide +kernel
theorem dX1_putName_8 : decode cX1_putName 8 = .ok (.iload_n 3, 1) := by decide +kernel
theorem dX1_putName_9 : decode cX1_putName 9 = .ok (.lshr, 1) := by decide +kernel
theorem dX1_putName_10 : decode cX1_putName 10 = .ok (.l2i, 1) := by decide +kernel
theorem dX1_putName_11 : decode cX1_putName 11 = .ok (.bipush 31, 2) := by decide +kernel
theorem dX1_putName_13 : decode cX1_putName 13 = .ok (.iand, 1) := by decide +kernel
theorem dX1_putName_14 : decode cX1_putName 14 = .ok (.istore 4, 2) := by decide +kernel
theorem dX1_putName_16 : decode cX1_putName 16 = .ok (.iload 4, 2) := by decide +kernel
theorem dX1_putName_18 : decode cX1_putName 18 = .ok (.ifCond .le 14, 3) := by decide +kernel
theorem dX1_putName_21 : decode cX1_putName 21 = .ok (.aload_n 0, 1) := by decide +kernel
theorem dX1_putName_22 : decode cX1_putName 22 = .ok (.bipush 97, 2) := by decide +kernel
theorem dX1_putName_24 : decode cX1_putName 24 = .ok (.iload 4, 2) := by decide +kernel
theorem dX1_putName_26 : decode cX1_putName 26 = .ok (.iadd, 1) := by decide +kernel
theorem dX1_putName_27 : decode cX1_putName 27 = .ok (.iconst 1, 1) := by decide +kernel
theorem dX1_putName_28 : decode cX1_putName 28 = .ok (.isub, 1) := by decide +kernel
theorem dX1_putName_29 : decode cX1_putName 29 = .ok (.invokevirtual 17, 3) := by decide +kernel
theorem dX1_putName_32 : decode cX1_putName 32 = .ok (.iinc 3 (-5), 3) := by decide +kernel
theorem dX1_putName_35 : decode cX1_putName 35 = .ok (.goto (-32), 3) := by decide +kernel
theorem dX1_putName_38 : decode cX1_putName 38 = .ok (.return_, 1) := by decide +kernel
abbrev rm_X1_putName : Room := { frames := 1, cells := 0, slots := 0, locals := 21 }
noncomputable def fX1_putName_b32 (o0 : Nat) (l1 : Int64) (x3 : Int32) (h : z_T) : Option ((Int32 × z_T) ⊕ (z_T)) :=
  y_nm (x3 + (-5)) fun v1 =>
  some (.inl (v1, h))
noncomputable def fX1_putName_b3_i (o0 : Nat) (l1 : Int64) (x3 : Int32) (h : z_T) : Option ((Int32 × z_T) ⊕ (z_T)) :=
  y_br (x3 < 0)
    (y_mp <|
    some h)
    (y_nm ((((l1 >>> ((x3).toInt64 &&& 63))).toInt32 &&& (31 : Int32))) fun v4 =>
    y_br (v4 ≤ 0)
      (fX1_putName_b32 o0 l1 x3 h)
      (y_gd (z_ok h o0 1) <|
      y_bi (fX1_put o0 (((97 : Int32) + v4) - (1 : Int32)) h) fun h7 =>
      fX1_putName_b32 o0 l1 x3 h7))
noncomputable def fX1_putName_b3 (o0 : Nat) (l1 : Int64) (x3 : Int32) (h : z_T) : Option (z_T) := y_lp (fun q : Int32 × z_T => fX1_putName_b3_i o0 l1 q.1 q.2) (x3, h)
noncomputable def fX1_putName (o0 : Nat) (l1 : Int64) (h : z_T) : Option (z_T) :=
  fX1_putName_b3 o0 l1 (30 : Int32) h
set_option maxHeartbeats 4000000 in
set_option maxRecDepth 100000 in
theorem mm_X1_putName {G : z_Gt} (hSK : z_SK (z_S G)) (l : Launch) (ad : Nat → Nat) (o0 : Nat) (l1 : Int64) (h : z_T) {h9 : z_T} (hv : fX1_putName o0 l1 h = some h9) : z_Mv G (z_S G) l yX1_putName cX1_putName 5 rm_X1_putName 0 0 [.ref (ad o0), .long l1] ad h h9 := by
  refine z_ofW hSK (by decide) (Nat.le_of_ble_eq_true rfl) ?_
  intro p e s m args below meth c ls hc hr hnm hB hl
  have hx := hc.1.1
  have hb := hc.1.2.1
  have hown := hc.1.2.2.2.1
  have hts := hc.1.2.2.2.2
  replace hc : z_C G (z_S G) ad (z_n h) p m c cX1_putName 5 s args RX1 meth := hc
  replace hown : s.vm.findClass RX1 = some m.cls := hown
  replace hl : lv_has ls 5 [(0, .ref (ad o0)), (1, .long l1)] := hl
  show W p l e rm_X1_putName s m args below meth c s.heap [] 0 0 (MQ below (z_Qv G ad h9 (z_n h) s.heap.size) args s 0 0 (z_A ad (z_n h) s.heap.size)) (F0 m 0 ls [])
  obtain ⟨rs, kt⟩ : ∃ rs : z_T, rs = h9 := ⟨_, rfl⟩
  generalize hn0 : z_n h = n0 at hc hB ⊢
  have L3 : ∀ (nn3 : Nat) (x3 : Int32) (h : z_T) (H : Heap) (locs : List Loc) (ls : Array Slot), z_B G ad n0 s h H locs → lv_has ls 5 [(0, .ref (ad o0)), (1, .long l1), (3, .int x3)] → ∀ vv3, y_lpN (fun q : Int32 × z_T => fX1_putName_b3_i o0 l1 q.1 q.2) nn3 (x3, h) = some vv3 → vv3 = h9 → W p l e rm_X1_putName s m args below meth c H locs 0 0 (MQ below (z_Qv G ad h9 n0 s.heap.size) args s 0 0 (z_A ad n0 s.heap.size)) (F0 m 3 ls []) := by
    intro nn3
    induction nn3 with
    | zero => intro x3 h H locs ls hB hl vv3 hv kv3; exact absurd hv (fun q => y_lpN_0 q)
    | succ nn3 ih3 =>
      intro x3 h H locs ls hB hl vv3 hv kv3
      obtain ⟨w, hq, kw3⟩ := y_lpN_e hv
      clear hv
      have hv : fX1_putName_b3_i o0 l1 x3 h = some w := hq
      clear hq
      have b32 : ∀ (x3 : Int32) (h : z_T) (H : Heap) (locs : List Loc) (ls : Array Slot), z_B G ad n0 s h H locs → lv_has ls 5 [(0, .ref (ad o0)), (1, .long l1), (3, .int x3)] → ∀ w, fX1_putName_b32 o0 l1 x3 h = some w → y_lq (fun q : Int32 × z_T => fX1_putName_b3_i o0 l1 q.1 q.2) nn3 vv3 w → W p l e rm_X1_putName s m args below meth c H locs 0 0 (MQ below (z_Qv G ad h9 n0 s.heap.size) args s 0 0 (z_A ad n0 s.heap.size)) (F0 m 32 ls []) := by
        intro x3 h H locs ls hB hl w hv kw3
        obtain ⟨v1, ev1, hv⟩ := y_nm_e hv
        refine lv_iinc (v := v1) (lv' := [(3, .int v1), (0, .ref (ad o0)), (1, .long l1)]) hx hb dX1_putName_32 hl (k := 2) rfl (by rw [ev1]; rfl) (by decide) rfl (fun ls hl => ?_)
        refine lv_goto (tgt := 3) hx hb dX1_putName_35 (by decide) ?_
        replace hv := Option.some.inj hv
        subst hv
        exact ih3 v1 h _ _ _ hB (lv_sub hl [1, 2, 0] rfl) _ kw3 kv3
      refine lv_iload_n hx hb dX1_putName_3 rfl (lv_at hl 2 rfl) ?_
      refine lv_if_lt (tgt := 38) hx hb dX1_putName_4 (by decide) (fun c2 => ?_) (fun c2 => ?_)
      · replace hv := y_br_t hv c2
        obtain ⟨t3, hq, ew⟩ := y_mp_e hv
        clear hv; subst ew
        replace kw3 : t3 = _ := kw3
        subst kw3
        have hv := hq
        clear hq
        replace hv := Option.some.inj hv
        subst hv
        rw [← kv3]
        exact z_vret hc hB hr dX1_putName_38
      · replace hv := y_br_f hv c2
        refine lv_lload_n hx hb dX1_putName_7 rfl (lv_at hl 1 rfl) ?_
        refine lv_iload_n hx hb dX1_putName_8 rfl (lv_at hl 2 rfl) ?_
        refine lv_lshr hx hb dX1_putName_9 rfl ?_
        refine lv_l2i hx hb dX1_putName_10 rfl ?_
        refine lv_bipush (v := (31 : Int32)) hx hb dX1_putName_11 (by decide) ?_
        refine lv_iand hx hb dX1_putName_13 ?_
        obtain ⟨v4, ev4, hv⟩ := y_nm_e hv
        rw [← ev4]
        refine lv_istore (lv' := [(4, .int v4), (0, .ref (ad o0)), (1, .long l1), (3, .int x3)]) hx hb dX1_putName_14 hl (by decide) rfl (fun ls hl => ?_)
        refine lv_iload hx hb dX1_putName_16 (lv_at hl 0 rfl) ?_
        refine lv_if_le (tgt := 32) hx hb dX1_putName_18 (by decide) (fun c5 => ?_) (fun c5 => ?_)
        · replace hv := y_br_t hv c5
          exact b32 x3 h _ _ _ hB (lv_sub hl [1, 2, 3] rfl) _ hv kw3
        · replace hv := y_br_f hv c5
          refine lv_aload_n hx hb dX1_putName_21 rfl (lv_at hl 1 rfl) ?_
          refine lv_bipush (v := (97 : Int32)) hx hb dX1_putName_22 (by decide) ?_
          refine lv_iload hx hb dX1_putName_24 (lv_at hl 0 rfl) ?_
          refine lv_iadd hx hb dX1_putName_26 ?_
          refine lv_iconst (v := (1 : Int32)) hx hb dX1_putName_27 (by decide) ?_
          refine lv_isub hx hb dX1_putName_28 ?_
          obtain ⟨g8, hv⟩ := y_gd_e hv
          obtain ⟨h7, c6, hv⟩ := y_bi_e hv
          refine z_thV hc hB (z_runV hc hB 1 (mm_X1_put hSK l ad o0 (((97 : Int32) + v4) - (1 : Int32)) h c6) md_X1_put qmX1_17 g8 (by decide) rfl rfl rfl ⟨Nat.le_of_ble_eq_true rfl, Nat.le_of_ble_eq_true rfl⟩ rfl hl.1 rfl (Nat.le_of_ble_eq_true rfl) dX1_putName_29 ⟨Nat.le_of_ble_eq_true rfl, Nat.le_of_ble_eq_true rfl⟩) (fun H locs hB => ?_)
          exact b32 x3 h7 _ _ _ hB (lv_sub hl [1, 2, 3] rfl) _ hv kw3
  rw [← kt] at hv
  refine lv_bipush (v := (30 : Int32)) hx hb dX1_putName_0 (by decide) ?_
  refine lv_istore_n (lv' := [(3, .int (30 : Int32)), (0, .ref (ad o0)), (1, .long l1)]) hx hb dX1_putName_2 rfl hl (by decide) rfl (fun ls hl => ?_)
  obtain ⟨n, hv⟩ := y_lp_e hv
  exact L3 n (30 : Int32) h _ _ _ hB (lv_sub hl [1, 2, 0] rfl) _ hv kt
