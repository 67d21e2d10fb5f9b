/-! the methods of the reference: the rows that decode, a function each, the walk (by gen3.py) -/
theorem qmX12_353 : Cond.methodLink RX12 353 yX12_hangs ∈ z_ws := List.mem_filter.mpr ⟨List.mem_append_right _ (List.mem_of_getElem? (i := 1756) (by decide +kernel)), rfl⟩
theorem qc_X12_hangs : Cond.code yX12_hangs cX12_hangs 3 none ∈ z_ws := List.mem_filter.mpr ⟨List.mem_append_right _ (List.mem_of_getElem? (i := 1759) (by decide +kernel)), rfl⟩
theorem qi_X12_hangs : Cond.instanceMethod yX12_hangs ∈ z_ws := List.mem_filter.mpr ⟨List.mem_append_right _ (List.mem_of_getElem? (i := 1758) (by decide +kernel)), rfl⟩
theorem qs_X12_hangs : Cond.selects RX12 yX12_hangs yX12_hangs ∈ z_ws := List.mem_filter.mpr ⟨List.mem_append_left _ (List.mem_of_getElem? (i := 74) (by decide +kernel)), rfl⟩
theorem md_X12_hangs : z_mdV yX12_hangs cX12_hangs 3 none 1 := ⟨⟨qn_RX12, qc_X12_hangs, ⟨by decide +kernel, by decide +kernel, by decide +kernel⟩⟩, qi_X12_hangs, qs_X12_hangs⟩
theorem qfX12_356 : Cond.fieldLink RX12 356 "DreamTestsModel" "treeTests" "I" ∈ z_ws := List.mem_filter.mpr ⟨List.mem_append_right _ (List.mem_of_getElem? (i := 1337) (by decide +kernel)), rfl⟩
theorem dX12_opensTest_0 : decode cX12_opensTest 0 = .ok (.aload_n 0, 1) := by decide +kernel
theorem dX12_opensTest_1 : decode cX12_opensTest 1 = .ok (.invokevirtual 195, 3) := by decide +kernel
theorem dX12_opensTest_4 : decode cX12_opensTest 4 = .ok (.ifCond .ne 9, 3) := by decide +kernel
theorem dX12_opensTest_7 : decode cX12_opensTest 7 = .ok (.aload_n 0, 1) := by decide +kernel
theorem dX12_opensTest_8 : decode cX12_opensTest 8 = .ok (.iconst 1, 1) := by decide +kernel
theorem dX12_opensTest_9 : decode cX12_opensTest 9 = .ok (.invokevirtual 182, 3) := by decide +kernel
theorem dX12_opensTest_12 : decode cX12_opensTest 12 = .ok (.ireturn, 1) := by decide +kernel
theorem dX12_opensTest_13 : decode cX12_opensTest 13 = .ok (.aload_n 0, 1) := by decide +kernel
theorem dX12_opensTest_14 : decode cX12_opensTest 14 = .ok (.iconst 0, 1) := by decide +kernel
theorem dX12_opensTest_15 : decode cX12_opensTest 15 = .ok (.aload_n 0, 1) := by decide +kernel
theorem dX12_opensTest_16 : decode cX12_opensTest 16 = .ok (.getfield 33, 3) := by decide +kernel
theorem dX12_opensTest_19 : decode cX12_opensTest 19 = .ok (.iconst 0, 1) := by decide +kernel
theorem dX12_opensTest_20 : decode cX12_opensTest 20 = .ok (.iaload, 1) := by decide +kernel
theorem dX12_opensTest_21 : decode cX12_opensTest 21 = .ok (.invokevirtual 199, 3) := by decide +kernel
theorem dX12_opensTest_24 : decode cX12_opensTest 24 = .ok (.istore_n 1, 1) := by decide +kernel
theorem dX12_opensTest_25 : decode cX12_opensTest 25 = .ok (.iload_n 1, 1) := by decide +kernel
theorem dX12_opensTest_26 : decode cX12_opensTest 26 = .ok (.ifCond .lt 7, 3) := by decide +kernel
theorem dX12_opensTest_29 : decode cX12_opensTest 29 = .ok (.iconst 1, 1) := by decide +kernel
theorem dX12_opensTest_30 : decode cX12_opensTest 30 = .ok (.goto 4, 3) := by decide +kernel
theorem dX12_opensTest_33 : decode cX12_opensTest 33 = .ok (.iconst 0, 1) := by decide +kernel
theorem dX12_opensTest_34 : decode cX12_opensTest 34 = .ok (.istore_n 2, 1) := by decide +kernel
theorem dX12_opensTest_35 : decode cX12_opensTest 35 = .ok (.iconst 0, 1) := by decide +kernel
theorem dX12_opensTest_36 : decode cX12_opensTest 36 = .ok (.istore_n 3, 1) := by decide +kernel
theorem dX12_opensTest_37 : decode cX12_opensTest 37 = .ok (.iload_n 3, 1) := by decide +kernel
theorem dX12_opensTest_38 : decode cX12_opensTest 38 = .ok (.aload_n 0, 1) := by decide +kernel
theorem dX12_opensTest_39 : decode cX12_opensTest 39 = .ok (.getfield 350, 3) := by decide +kernel
theorem dX12_opensTest_42 : decode cX12_opensTest 42 = .ok (.if_icmp .ge 36, 3) := by decide +kernel
theorem dX12_opensTest_45 : decode cX12_opensTest 45 = .ok (.iload_n 2, 1) := by decide +kernel
theorem dX12_opensTest_46 : decode cX12_opensTest 46 = .ok (.ifCond .eq 24, 3) := by decide +kernel
theorem dX12_opensTest_49 : decode cX12_opensTest 49 = .ok (.aload_n 0, 1) := by decide +kernel
theorem dX12_opensTest_50 : decode cX12_opensTest 50 = .ok (.getfield 71, 3) := by decide +kernel
theorem dX12_opensTest_53 : decode cX12_opensTest 53 = .ok (.iconst 4, 1) := by decide +kernel
theorem dX12_opensTest_54 : decode cX12_opensTest 54 = .ok (.aload_n 0, 1) := by decide +kernel
theorem dX12_opensTest_55 : decode cX12_opensTest 55 = .ok (.getfield 74, 3) := by decide +kernel
theorem dX12_opensTest_58 : decode cX12_opensTest 58 = .ok (.iload_n 3, 1) := by decide +kernel
theorem dX12_opensTest_59 : decode cX12_opensTest 59 = .ok (.iaload, 1) := by decide +kernel
theorem dX12_opensTest_60 : decode cX12_opensTest 60 = .ok (.imul, 1) := by decide +kernel
theorem dX12_opensTest_61 : decode cX12_opensTest 61 = .ok (.iaload, 1) := by decide +kernel
theorem dX12_opensTest_62 : decode cX12_opensTest 62 = .ok (.iload_n 1, 1) := by decide +kernel
theorem dX12_opensTest_63 : decode cX12_opensTest 63 = .ok (.if_icmp .eq 7, 3) := by decide +kernel
theorem dX12_opensTest_66 : decode cX12_opensTest 66 = .ok (.iconst 1, 1) := by decide +kernel
theorem dX12_opensTest_67 : decode cX12_opensTest 67 = .ok (.goto 4, 3) := by decide +kernel
theorem dX12_opensTest_70 : decode cX12_opensTest 70 = .ok (.iconst 0, 1) := by decide +kernel
theorem dX12_opensTest_71 : decode cX12_opensTest 71 = .ok (.istore_n 2, 1) := by decide +kernel
theorem dX12_opensTest_72 : decode cX12_opensTest 72 = .ok (.iinc 3 1, 3) := by decide +kernel
theorem dX12_opensTest_75 : decode cX12_opensTest 75 = .ok (.goto (-38), 3) := by decide +kernel
theorem dX12_opensTest_78 : decode cX12_opensTest 78 = .ok (.iload_n 2, 1) := by decide +kernel
theorem dX12_opensTest_79 : decode cX12_opensTest 79 = .ok (.ifCond .ne 9, 3) := by decide +kernel
theorem dX12_opensTest_82 : decode cX12_opensTest 82 = .ok (.aload_n 0, 1) := by decide +kernel
theorem dX12_opensTest_83 : decode cX12_opensTest 83 = .ok (.iconst 3, 1) := by decide +kernel
theorem dX12_opensTest_84 : decode cX12_opensTest 84 = .ok (.invokevirtual 182, 3) := by decide +kernel
theorem dX12_opensTest_87 : decode cX12_opensTest 87 = .ok (.ireturn, 1) := by decide +kernel
theorem dX12_opensTest_88 : decode cX12_opensTest 88 = .ok (.aload_n 0, 1) := by decide +kernel
theorem dX12_opensTest_89 : decode cX12_opensTest 89 = .ok (.getfield 350, 3) := by decide +kernel
theorem dX12_opensTest_92 : decode cX12_opensTest 92 = .ok (.iconst 4, 1) := by decide +kernel
theorem dX12_opensTest_93 : decode cX12_opensTest 93 = .ok (.if_icmp .ne 9, 3) := by decide +kernel
theorem dX12_opensTest_96 : decode cX12_opensTest 96 = .ok (.aload_n 0, 1) := by decide +kernel
theorem dX12_opensTest_97 : decode cX12_opensTest 97 = .ok (.iconst 4, 1) := by decide +kernel
theorem dX12_opensTest_98 : decode cX12_opensTest 98 = .ok (.invokevirtual 182, 3) := by decide +kernel
theorem dX12_opensTest_101 : decode cX12_opensTest 101 = .ok (.ireturn, 1) := by decide +kernel
theorem dX12_opensTest_102 : decode cX12_opensTest 102 = .ok (.aload_n 0, 1) := by decide +kernel
theorem dX12_opensTest_103 : decode cX12_opensTest 103 = .ok (.iload_n 1, 1) := by decide +kernel
theorem dX12_opensTest_104 : decode cX12_opensTest 104 = .ok (.invokevirtual 353, 3) := by decide +kernel
theorem dX12_opensTest_107 : decode cX12_opensTest 107 = .ok (.aload_n 0, 1) := by decide +kernel
theorem dX12_opensTest_108 : decode cX12_opensTest 108 = .ok (.dup, 1) := by decide +kernel
theorem dX12_opensTest_109 : decode cX12_opensTest 109 = .ok (.getfield 356, 3) := by decide +kernel
theorem dX12_opensTest_112 : decode cX12_opensTest 112 = .ok (.iconst 1, 1) := by decide +kernel
theorem dX12_opensTest_113 : decode cX12_opensTest 113 = .ok (.iadd, 1) := by decide +kernel
theorem dX12_opensTest_114 : decode cX12_opensTest 114 = .ok (.putfield 356, 3) := by decide +kernel
theorem dX12_opensTest_117 : decode cX12_opensTest 117 = .ok (.aload_n 0, 1) := by decide +kernel
theorem dX12_opensTest_118 : decode cX12_opensTest 118 = .ok (.getfield 74, 3) := by decide +kernel
theorem dX12_opensTest_121 : decode cX12_opensTest 121 = .ok (.aload_n 0, 1) := by decide +kernel
theorem dX12_opensTest_122 : decode cX12_opensTest 122 = .ok (.getfield 350, 3) := by decide +kernel
theorem dX12_opensTest_125 : decode cX12_opensTest 125 = .ok (.aload_n 0, 1) := by decide +kernel
theorem dX12_opensTest_126 : decode cX12_opensTest 126 = .ok (.getfield 347, 3) := by decide +kernel
theorem dX12_opensTest_129 : decode cX12_opensTest 129 = .ok (.iconst 1, 1) := by decide +kernel
theorem dX12_opensTest_130 : decode cX12_opensTest 130 = .ok (.isub, 1) := by decide +kernel
theorem dX12_opensTest_131 : decode cX12_opensTest 131 = .ok (.iastore, 1) := by decide +kernel
theorem dX12_opensTest_132 : decode cX12_opensTest 132 = .ok (.aload_n 0, 1) := by decide +kernel
theorem dX12_opensTest_133 : decode cX12_opensTest 133 = .ok (.getfield 77, 3) := by decide +kernel
theorem dX12_opensTest_136 : decode cX12_opensTest 136 = .ok (.aload_n 0, 1) := by decide +kernel
theorem dX12_opensTest_137 : decode cX12_opensTest 137 = .ok (.getfield 350, 3) := by decide +kernel
theorem dX12_opensTest_140 : decode cX12_opensTest 140 = .ok (.iconst 0, 1) := by decide +kernel
theorem dX12_opensTest_141 : decode cX12_opensTest 141 = .ok (.iastore, 1) := by decide +kernel
theorem dX12_opensTest_142 : decode cX12_opensTest 142 = .ok (.aload_n 0, 1) := by decide +kernel
theorem dX12_opensTest_143 : decode cX12_opensTest 143 = .ok (.dup, 1) := by decide +kernel
theorem dX12_opensTest_144 : decode cX12_opensTest 144 = .ok (.getfield 350, 3) := by decide +kernel
theorem dX12_opensTest_147 : decode cX12_opensTest 147 = .ok (.iconst 1, 1) := by decide +kernel
theorem dX12_opensTest_148 : decode cX12_opensTest 148 = .ok (.iadd, 1) := by decide +kernel
theorem dX12_opensTest_149 : decode cX12_opensTest 149 = .ok (.putfield 350, 3) := by decide +kernel
theorem dX12_opensTest_152 : decode cX12_opensTest 152 = .ok (.aload_n 0, 1) := by decide +kernel
theorem dX12_opensTest_153 : decode cX12_opensTest 153 = .ok (.invokevirtual 185, 3) := by decide +kernel
theorem dX12_opensTest_156 : decode cX12_opensTest 156 = .ok (.aload_n 0, 1) := by decide +kernel
theorem dX12_opensTest_157 : decode cX12_opensTest 157 = .ok (.bipush 40, 2) := by decide +kernel
theorem dX12_opensTest_159 : decode cX12_opensTest 159 = .ok (.invokevirtual 235, 3) := by decide +kernel
theorem dX12_opensTest_162 : decode cX12_opensTest 162 = .ok (.ireturn, 1) := by decide +kernel
abbrev rm_X12_opensTest : Room := { frames := 3, cells := 0, slots := 0, locals := 64 }
noncomputable def fX12_opensTest_b71 (o0 : Nat) (x1 : Int32) (x3 : Int32) (s0 : Int32) (h : z_T) : Option ((Int32 × Int32) ⊕ (Int32 × z_T)) :=
  y_nm (x3 + 1) fun v1 =>
  some (.inl (s0, v1))
noncomputable def fX12_opensTest_b70 (o0 : Nat) (x1 : Int32) (x3 : Int32) (h : z_T) : Option ((Int32 × Int32) ⊕ (Int32 × z_T)) :=
  fX12_opensTest_b71 o0 x1 x3 (0 : Int32) h
noncomputable def fX12_opensTest_b37_i (o0 : Nat) (x1 : Int32) (h : z_T) (x2 : Int32) (x3 : Int32) : Option ((Int32 × Int32) ⊕ (Int32 × z_T)) :=
  y_gd (z_ok h o0 11) <|
  y_br ((z_I h o0 36) ≤ x3)
    (y_mp <|
    y_br (x2 = 0)
      (y_bi (fX12_bad o0 (3 : Int32) h) fun ⟨r38, h42⟩ =>
      y_gd (y_b r38) <|
      some (r38, h42))
      (y_br ((z_I h o0 36) = (4 : Int32))
        (y_bi (fX12_bad o0 (4 : Int32) h) fun ⟨r31, h35⟩ =>
        y_gd (y_b r31) <|
        some (r31, h35))
        (y_bi (fX12_hangs o0 x1 h) fun h8 =>
        y_gd (z_ok h8 o0 11) <|
        y_nm (z_sI h8 o0 37 ((z_I h8 o0 37) + (1 : Int32))) fun h10 =>
        y_bi (z_R h10 o0 33) fun o11 =>
        y_gd (z_ok h10 o11 13) <|
        y_gd (z_ix (z_I h10 o0 36) (z_N h10 o11)) <|
        y_nm (z_sI h10 o11 (z_I h10 o0 36).toNatClampNeg ((z_I h10 o0 35) - (1 : Int32))) fun h14 =>
        y_bi (z_R h14 o0 34) fun o15 =>
        y_gd (z_ok h14 o15 13) <|
        y_gd (z_ix (z_I h14 o0 36) (z_N h14 o15)) <|
        y_nm (z_sI h14 o15 (z_I h14 o0 36).toNatClampNeg (0 : Int32)) fun h18 =>
        y_nm (z_sI h18 o0 36 ((z_I h18 o0 36) + (1 : Int32))) fun h19 =>
        y_bi (fX12_go o0 h19) fun h21 =>
        y_gd (z_ok h21 o0 11) <|
        y_bi (fX12_sign o0 (40 : Int32) h21) fun ⟨r23, h27⟩ =>
        y_gd (y_b r23) <|
        some (r23, h27))))
    (y_br (x2 = 0)
      (fX12_opensTest_b70 o0 x1 x3 h)
      (y_bi (z_R h o0 32) fun o45 =>
      y_bi (z_R h o0 33) fun o46 =>
      y_gd (z_ok h o46 13) <|
      y_gd (z_ix x3 (z_N h o46)) <|
      y_gd (z_ok h o45 13) <|
      y_gd (z_ix ((4 : Int32) * (z_I h o46 x3.toNatClampNeg)) (z_N h o45)) <|
      y_br ((z_I h o45 ((4 : Int32) * (z_I h o46 x3.toNatClampNeg)).toNatClampNeg) = x1)
        (fX12_opensTest_b70 o0 x1 x3 h)
        (fX12_opensTest_b71 o0 x1 x3 (1 : Int32) h)))
noncomputable def fX12_opensTest_b37 (o0 : Nat) (x1 : Int32) (x2 : Int32) (x3 : Int32) (h : z_T) : Option (Int32 × z_T) := y_lp (fun q : Int32 × Int32 => fX12_opensTest_b37_i o0 x1 h q.1 q.2) (x2, x3)
noncomputable def fX12_opensTest_b34 (o0 : Nat) (x1 : Int32) (s0 : Int32) (h : z_T) : Option (Int32 × z_T) :=
  fX12_opensTest_b37 o0 x1 s0 (0 : Int32) h
noncomputable def fX12_opensTest (o0 : Nat) (h : z_T) : Option (Int32 × z_T) :=
  y_gd (z_ok h o0 11) <|
  y_bi (fX12_isName o0 h) fun r53 =>
  y_br (r53 = 0)
    (y_bi (fX12_bad o0 (1 : Int32) h) fun ⟨r69, h73⟩ =>
    y_gd (y_b r69) <|
    some (r69, h73))
    (y_bi (z_R h o0 6) fun o59 =>
    y_gd (z_ok h o59 13) <|
    y_gd (z_ix (0 : Int32) (z_N h o59)) <|
    y_bi (fX12_find o0 (0 : Int32) (z_I h o59 (0 : Int32).toNatClampNeg) h) fun r63 =>
    y_br (r63 < 0)
      (fX12_opensTest_b34 o0 r63 (0 : Int32) h)
      (fX12_opensTest_b34 o0 r63 (1 : Int32) h))
set_option maxHeartbeats 4000000 in
set_option maxRecDepth 100000 in
theorem mm_X12_opensTest {G : z_Gt} {S : State → Prop} (hSK : z_SK S) (l : Launch) (ad : Nat → Nat) (o0 : Nat) (h : z_T) {r0 : Int32} {h9 : z_T} (hv : fX12_opensTest o0 h = some (r0, h9)) : z_Mi G S l yX12_opensTest cX12_opensTest 4 (.boolean) rm_X12_opensTest 0 0 [.ref (ad o0)] ad h h9 r0 := by
  refine z_ofW hSK (by decide) (Nat.le_of_ble_eq_true rfl) ?_
  intro p e s m args below meth c ls hc hr hnm hB hl
  have hx := hc.1.1
  have hb := hc.1.2.1
  have hown := hc.1.2.2.2.1
  have hts := hc.1.2.2.2.2
  replace hc : z_C G S ad (z_n h) p m c cX12_opensTest 4 s args RX12 meth := hc
  replace hown : s.vm.findClass RX12 = some m.cls := hown
  replace hl : lv_has ls 4 [(0, .ref (ad o0))] := hl
  show W p l e rm_X12_opensTest s m args below meth c s.heap [] 0 0 (MQ below (z_Qi G ad h9 (z_n h) s.heap.size r0) args s 0 0 (z_A ad (z_n h) s.heap.size)) (F0 m 0 ls [])
  obtain ⟨rs, kt⟩ : ∃ rs : Int32 × z_T, rs = (r0, h9) := ⟨_, rfl⟩
  generalize hn0 : z_n h = n0 at hc hB ⊢
  have L37 : ∀ (x1 : Int32) (h : z_T) (nn37 : Nat) (x2 : Int32) (x3 : Int32) (H : Heap) (locs : List Loc) (ls : Array Slot), z_B G ad n0 s h H locs → lv_has ls 4 [(0, .ref (ad o0)), (1, .int x1), (2, .int x2), (3, .int x3)] → ∀ vv37, y_lpN (fun q : Int32 × Int32 => fX12_opensTest_b37_i o0 x1 h q.1 q.2) nn37 (x2, x3) = some vv37 → vv37 = (r0, h9) → W p l e rm_X12_opensTest s m args below meth c H locs 0 0 (MQ below (z_Qi G ad h9 n0 s.heap.size r0) args s 0 0 (z_A ad n0 s.heap.size)) (F0 m 37 ls []) := by
    intro x1 h nn37
    induction nn37 with
    | zero => intro x2 x3 H locs ls hB hl vv37 hv kv37; exact absurd hv (fun q => y_lpN_0 q)
    | succ nn37 ih37 =>
      intro x2 x3 H locs ls hB hl vv37 hv kv37
      obtain ⟨w, hq, kw37⟩ := y_lpN_e hv
      clear hv
      have hv : fX12_opensTest_b37_i o0 x1 h x2 x3 = some w := hq
      clear hq
      have b71 : ∀ (x3 : Int32) (s0 : Int32) (H : Heap) (locs : List Loc) (ls : Array Slot), z_B G ad n0 s h H locs → lv_has ls 4 [(0, .ref (ad o0)), (1, .int x1), (3, .int x3)] → ∀ w, fX12_opensTest_b71 o0 x1 x3 s0 h = some w → y_lq (fun q : Int32 × Int32 => fX12_opensTest_b37_i o0 x1 h q.1 q.2) nn37 vv37 w → W p l e rm_X12_opensTest s m args below meth c H locs 0 0 (MQ below (z_Qi G ad h9 n0 s.heap.size r0) args s 0 0 (z_A ad n0 s.heap.size)) (F0 m 71 ls [.int s0]) := by
        intro x3 s0 H locs ls hB hl w hv kw37
        refine lv_istore_n (lv' := [(2, .int s0), (0, .ref (ad o0)), (1, .int x1), (3, .int x3)]) hx hb dX12_opensTest_71 rfl hl (by decide) rfl (fun ls hl => ?_)
        obtain ⟨v1, ev1, hv⟩ := y_nm_e hv
        refine lv_iinc (v := v1) (lv' := [(3, .int v1), (2, .int s0), (0, .ref (ad o0)), (1, .int x1)]) hx hb dX12_opensTest_72 hl (k := 3) rfl (by rw [ev1]; rfl) (by decide) rfl (fun ls hl => ?_)
        refine lv_goto (tgt := 37) hx hb dX12_opensTest_75 (by decide) ?_
        replace hv := Option.some.inj hv
        subst hv
        exact ih37 s0 v1 _ _ _ hB (lv_sub hl [2, 3, 1, 0] rfl) _ kw37 kv37
      have b70 : ∀ (x3 : Int32) (H : Heap) (locs : List Loc) (ls : Array Slot), z_B G ad n0 s h H locs → lv_has ls 4 [(0, .ref (ad o0)), (1, .int x1), (3, .int x3)] → ∀ w, fX12_opensTest_b70 o0 x1 x3 h = some w → y_lq (fun q : Int32 × Int32 => fX12_opensTest_b37_i o0 x1 h q.1 q.2) nn37 vv37 w → W p l e rm_X12_opensTest s m args below meth c H locs 0 0 (MQ below (z_Qi G ad h9 n0 s.heap.size r0) args s 0 0 (z_A ad n0 s.heap.size)) (F0 m 70 ls []) := by
        intro x3 H locs ls hB hl w hv kw37
        refine lv_iconst (v := (0 : Int32)) hx hb dX12_opensTest_70 (by decide) ?_
        exact b71 x3 (0 : Int32) _ _ _ hB (lv_sub hl [0, 1, 2] rfl) _ hv kw37
      refine lv_iload_n hx hb dX12_opensTest_37 rfl (lv_at hl 3 rfl) ?_
      refine lv_aload_n hx hb dX12_opensTest_38 rfl (lv_at hl 0 rfl) ?_
      obtain ⟨g2, hv⟩ := y_gd_e hv
      refine z_getI hc hB 11 36 g2 (by decide) (by decide) rfl (z_l1 hc qfX12_350) dX12_opensTest_39 ?_
      refine lv_icmp_ge (tgt := 78) hx hb dX12_opensTest_42 (by decide) (fun c3 => ?_) (fun c3 => ?_)
      · replace hv := y_br_t hv c3
        obtain ⟨t4, hq, ew⟩ := y_mp_e hv
        clear hv; subst ew
        replace kw37 : t4 = _ := kw37
        subst kw37
        have hv := hq
        clear hq
        refine lv_iload_n hx hb dX12_opensTest_78 rfl (lv_at hl 2 rfl) ?_
        refine lv_if_ne (tgt := 88) hx hb dX12_opensTest_79 (by decide) (fun c5 => ?_) (fun c5 => ?_)
        · replace hv := y_br_f hv c5
          refine lv_aload_n hx hb dX12_opensTest_88 rfl (lv_at hl 0 rfl) ?_
          refine z_getI hc hB 11 36 g2 (by decide) (by decide) rfl (z_l1 hc qfX12_350) dX12_opensTest_89 ?_
          refine lv_iconst (v := (4 : Int32)) hx hb dX12_opensTest_92 (by decide) ?_
          refine lv_icmp_ne (tgt := 102) hx hb dX12_opensTest_93 (by decide) (fun c6 => ?_) (fun c6 => ?_)
          · replace hv := y_br_f hv c6
            refine lv_aload_n hx hb dX12_opensTest_102 rfl (lv_at hl 0 rfl) ?_
            refine lv_iload_n hx hb dX12_opensTest_103 rfl (lv_at hl 1 rfl) ?_
            obtain ⟨h8, c7, hv⟩ := y_bi_e hv
            refine z_thV hc hB (z_runV hc hB 11 (mm_X12_hangs hSK l ad o0 x1 h c7) md_X12_hangs qmX12_353 g2 (by decide) rfl rfl rfl ⟨Nat.le_of_ble_eq_true rfl, Nat.le_of_ble_eq_true rfl⟩ rfl hl.1 rfl (Nat.le_of_ble_eq_true rfl) dX12_opensTest_104 ⟨Nat.le_of_ble_eq_true rfl, Nat.le_of_ble_eq_true rfl⟩) (fun H locs hB => ?_)
            refine lv_aload_n hx hb dX12_opensTest_107 rfl (lv_at hl 0 rfl) ?_
            refine lv_dup hx hb dX12_opensTest_108 rfl ?_
            obtain ⟨g9, hv⟩ := y_gd_e hv
            refine z_getI hc hB 11 37 g9 (by decide) (by decide) rfl (z_l1 hc qfX12_356) dX12_opensTest_109 ?_
            refine lv_iconst (v := (1 : Int32)) hx hb dX12_opensTest_112 (by decide) ?_
            refine lv_iadd hx hb dX12_opensTest_113 ?_
            obtain ⟨h10, eh10, hv⟩ := y_nm_e hv
            refine y_putI hc hB 11 37 eh10 g9 (z_l1 hc qfX12_356) dX12_opensTest_114 (by decide) (by decide) rfl rfl rfl rfl (fun H locs hB => ?_)
            refine lv_aload_n hx hb dX12_opensTest_117 rfl (lv_at hl 0 rfl) ?_
            obtain ⟨o11, eo11, hv⟩ := y_bi_e hv
            refine z_getR hc hB 11 33 (by rw [eh10]; exact g9) eo11 (by decide) (by decide) rfl (z_l1 hc qfX12_74) dX12_opensTest_118 ?_
            refine lv_aload_n hx hb dX12_opensTest_121 rfl (lv_at hl 0 rfl) ?_
            refine z_getI hc hB 11 36 (by rw [eh10]; exact g9) (by decide) (by decide) rfl (z_l1 hc qfX12_350) dX12_opensTest_122 ?_
            refine lv_aload_n hx hb dX12_opensTest_125 rfl (lv_at hl 0 rfl) ?_
            refine z_getI hc hB 11 35 (by rw [eh10]; exact g9) (by decide) (by decide) rfl (z_l1 hc qfX12_347) dX12_opensTest_126 ?_
            refine lv_iconst (v := (1 : Int32)) hx hb dX12_opensTest_129 (by decide) ?_
            refine lv_isub hx hb dX12_opensTest_130 ?_
            obtain ⟨g12, hv⟩ := y_gd_e hv
            obtain ⟨i13, hv⟩ := y_gd_e hv
            obtain ⟨h14, eh14, hv⟩ := y_nm_e hv
            refine y_iast hc hB eh14 g12 i13 dX12_opensTest_131 (fun H locs hB => ?_)
            refine lv_aload_n hx hb dX12_opensTest_132 rfl (lv_at hl 0 rfl) ?_
            obtain ⟨o15, eo15, hv⟩ := y_bi_e hv
            refine z_getR hc hB 11 34 (by rw [eh14, eh10]; exact g9) eo15 (by decide) (by decide) rfl (z_l1 hc qfX12_77) dX12_opensTest_133 ?_
            refine lv_aload_n hx hb dX12_opensTest_136 rfl (lv_at hl 0 rfl) ?_
            refine z_getI hc hB 11 36 (by rw [eh14, eh10]; exact g9) (by decide) (by decide) rfl (z_l1 hc qfX12_350) dX12_opensTest_137 ?_
            refine lv_iconst (v := (0 : Int32)) hx hb dX12_opensTest_140 (by decide) ?_
            obtain ⟨g16, hv⟩ := y_gd_e hv
            obtain ⟨i17, hv⟩ := y_gd_e hv
            obtain ⟨h18, eh18, hv⟩ := y_nm_e hv
            refine y_iast hc hB eh18 g16 i17 dX12_opensTest_141 (fun H locs hB => ?_)
            refine lv_aload_n hx hb dX12_opensTest_142 rfl (lv_at hl 0 rfl) ?_
            refine lv_dup hx hb dX12_opensTest_143 rfl ?_
            refine z_getI hc hB 11 36 (by rw [eh18, eh14, eh10]; exact g9) (by decide) (by decide) rfl (z_l1 hc qfX12_350) dX12_opensTest_144 ?_
            refine lv_iconst (v := (1 : Int32)) hx hb dX12_opensTest_147 (by decide) ?_
            refine lv_iadd hx hb dX12_opensTest_148 ?_
            obtain ⟨h19, eh19, hv⟩ := y_nm_e hv
            refine y_putI hc hB 11 36 eh19 (by rw [eh18, eh14, eh10]; exact g9) (z_l1 hc qfX12_350) dX12_opensTest_149 (by decide) (by decide) rfl rfl rfl rfl (fun H locs hB => ?_)
            refine lv_aload_n hx hb dX12_opensTest_152 rfl (lv_at hl 0 rfl) ?_
            obtain ⟨h21, c20, hv⟩ := y_bi_e hv
            refine z_thV hc hB (z_runV hc hB 11 (mm_X12_go hSK l ad o0 h19 c20) md_X12_go qmX12_185 (by rw [eh19, eh18, eh14, eh10]; exact g9) (by decide) rfl rfl rfl ⟨Nat.le_of_ble_eq_true rfl, Nat.le_of_ble_eq_true rfl⟩ rfl hl.1 rfl (Nat.le_of_ble_eq_true rfl) dX12_opensTest_153 ⟨Nat.le_of_ble_eq_true rfl, Nat.le_of_ble_eq_true rfl⟩) (fun H locs hB => ?_)
            refine lv_aload_n hx hb dX12_opensTest_156 rfl (lv_at hl 0 rfl) ?_
            refine lv_bipush (v := (40 : Int32)) hx hb dX12_opensTest_157 (by decide) ?_
            obtain ⟨g28, hv⟩ := y_gd_e hv
            obtain ⟨⟨r23, h27⟩, c22, hv⟩ := y_bi_e hv
            refine z_thI hc hB (z_runV hc hB 11 (mm_X12_sign hSK l ad o0 (40 : Int32) h21 c22) md_X12_sign qmX12_235 g28 (by decide) rfl rfl rfl ⟨Nat.le_of_ble_eq_true rfl, Nat.le_of_ble_eq_true rfl⟩ rfl hl.1 rfl (Nat.le_of_ble_eq_true rfl) dX12_opensTest_159 ⟨Nat.le_of_ble_eq_true rfl, Nat.le_of_ble_eq_true rfl⟩) (fun H locs hB => ?_)
            obtain ⟨y29, hv⟩ := y_gd_e hv
            replace hv := Option.some.inj hv
            subst hv
            obtain ⟨e1, e2⟩ := y_pr kv37
            rw [← e1, ← e2]
            exact z_zret hc hB hr (y_b_n y29) dX12_opensTest_162
          · replace hv := y_br_t hv c6
            refine lv_aload_n hx hb dX12_opensTest_96 rfl (lv_at hl 0 rfl) ?_
            refine lv_iconst (v := (4 : Int32)) hx hb dX12_opensTest_97 (by decide) ?_
            obtain ⟨⟨r31, h35⟩, c30, hv⟩ := y_bi_e hv
            refine z_thI hc hB (z_runV hc hB 11 (mm_X12_bad hSK l ad o0 (4 : Int32) h c30) md_X12_bad qmX12_182 g2 (by decide) rfl rfl rfl ⟨Nat.le_of_ble_eq_true rfl, Nat.le_of_ble_eq_true rfl⟩ rfl hl.1 rfl (Nat.le_of_ble_eq_true rfl) dX12_opensTest_98 ⟨Nat.le_of_ble_eq_true rfl, Nat.le_of_ble_eq_true rfl⟩) (fun H locs hB => ?_)
            obtain ⟨y36, hv⟩ := y_gd_e hv
            replace hv := Option.some.inj hv
            subst hv
            obtain ⟨e1, e2⟩ := y_pr kv37
            rw [← e1, ← e2]
            exact z_zret hc hB hr (y_b_n y36) dX12_opensTest_101
        · replace hv := y_br_t hv c5
          refine lv_aload_n hx hb dX12_opensTest_82 rfl (lv_at hl 0 rfl) ?_
          refine lv_iconst (v := (3 : Int32)) hx hb dX12_opensTest_83 (by decide) ?_
          obtain ⟨⟨r38, h42⟩, c37, hv⟩ := y_bi_e hv
          refine z_thI hc hB (z_runV hc hB 11 (mm_X12_bad hSK l ad o0 (3 : Int32) h c37) md_X12_bad qmX12_182 g2 (by decide) rfl rfl rfl ⟨Nat.le_of_ble_eq_true rfl, Nat.le_of_ble_eq_true rfl⟩ rfl hl.1 rfl (Nat.le_of_ble_eq_true rfl) dX12_opensTest_84 ⟨Nat.le_of_ble_eq_true rfl, Nat.le_of_ble_eq_true rfl⟩) (fun H locs hB => ?_)
          obtain ⟨y43, hv⟩ := y_gd_e hv
          replace hv := Option.some.inj hv
          subst hv
          obtain ⟨e1, e2⟩ := y_pr kv37
          rw [← e1, ← e2]
          exact z_zret hc hB hr (y_b_n y43) dX12_opensTest_87
      · replace hv := y_br_f hv c3
        refine lv_iload_n hx hb dX12_opensTest_45 rfl (lv_at hl 2 rfl) ?_
        refine lv_if_eq (tgt := 70) hx hb dX12_opensTest_46 (by decide) (fun c44 => ?_) (fun c44 => ?_)
        · replace hv := y_br_t hv c44
          exact b70 x3 _ _ _ hB (lv_sub hl [0, 1, 3] rfl) _ hv kw37
        · replace hv := y_br_f hv c44
          refine lv_aload_n hx hb dX12_opensTest_49 rfl (lv_at hl 0 rfl) ?_
          obtain ⟨o45, eo45, hv⟩ := y_bi_e hv
          refine z_getR hc hB 11 32 g2 eo45 (by decide) (by decide) rfl (z_l1 hc qfX12_71) dX12_opensTest_50 ?_
          refine lv_iconst (v := (4 : Int32)) hx hb dX12_opensTest_53 (by decide) ?_
          refine lv_aload_n hx hb dX12_opensTest_54 rfl (lv_at hl 0 rfl) ?_
          obtain ⟨o46, eo46, hv⟩ := y_bi_e hv
          refine z_getR hc hB 11 33 g2 eo46 (by decide) (by decide) rfl (z_l1 hc qfX12_74) dX12_opensTest_55 ?_
          refine lv_iload_n hx hb dX12_opensTest_58 rfl (lv_at hl 3 rfl) ?_
          obtain ⟨g47, hv⟩ := y_gd_e hv
          obtain ⟨i48, hv⟩ := y_gd_e hv
          refine z_iald hc hB g47 i48 dX12_opensTest_59 ?_
          refine lv_imul hx hb dX12_opensTest_60 ?_
          obtain ⟨g49, hv⟩ := y_gd_e hv
          obtain ⟨i50, hv⟩ := y_gd_e hv
          refine z_iald hc hB g49 i50 dX12_opensTest_61 ?_
          refine lv_iload_n hx hb dX12_opensTest_62 rfl (lv_at hl 1 rfl) ?_
          refine lv_icmp_eq (tgt := 70) hx hb dX12_opensTest_63 (by decide) (fun c51 => ?_) (fun c51 => ?_)
          · replace hv := y_br_t hv c51
            exact b70 x3 _ _ _ hB (lv_sub hl [0, 1, 3] rfl) _ hv kw37
          · replace hv := y_br_f hv c51
            refine lv_iconst (v := (1 : Int32)) hx hb dX12_opensTest_66 (by decide) ?_
            refine lv_goto (tgt := 71) hx hb dX12_opensTest_67 (by decide) ?_
            exact b71 x3 (1 : Int32) _ _ _ hB (lv_sub hl [0, 1, 3] rfl) _ hv kw37
  have b34 : ∀ (x1 : Int32) (s0 : Int32) (h : z_T) (H : Heap) (locs : List Loc) (ls : Array Slot), z_B G ad n0 s h H locs → lv_has ls 4 [(0, .ref (ad o0)), (1, .int x1)] → ∀ w, fX12_opensTest_b34 o0 x1 s0 h = some w → w = (r0, h9) → W p l e rm_X12_opensTest s m args below meth c H locs 0 0 (MQ below (z_Qi G ad h9 n0 s.heap.size r0) args s 0 0 (z_A ad n0 s.heap.size)) (F0 m 34 ls [.int s0]) := by
    intro x1 s0 h H locs ls hB hl w hv kb
    refine lv_istore_n (lv' := [(2, .int s0), (0, .ref (ad o0)), (1, .int x1)]) hx hb dX12_opensTest_34 rfl hl (by decide) rfl (fun ls hl => ?_)
    refine lv_iconst (v := (0 : Int32)) hx hb dX12_opensTest_35 (by decide) ?_
    refine lv_istore_n (lv' := [(3, .int (0 : Int32)), (2, .int s0), (0, .ref (ad o0)), (1, .int x1)]) hx hb dX12_opensTest_36 rfl hl (by decide) rfl (fun ls hl => ?_)
    obtain ⟨n, hv⟩ := y_lp_e hv
    exact L37 x1 h n s0 (0 : Int32) _ _ _ hB (lv_sub hl [2, 3, 1, 0] rfl) _ hv kb
  rw [← kt] at hv
  refine lv_aload_n hx hb dX12_opensTest_0 rfl (lv_at hl 0 rfl) ?_
  obtain ⟨g57, hv⟩ := y_gd_e hv
  obtain ⟨r53, c52, hv⟩ := y_bi_e hv
  refine z_thI hc hB (z_runV hc hB 11 (mm_X12_isName hSK l ad o0 h c52) md_X12_isName qmX12_195 g57 (by decide) rfl rfl rfl ⟨Nat.le_of_ble_eq_true rfl, Nat.le_of_ble_eq_true rfl⟩ rfl hl.1 rfl (Nat.le_of_ble_eq_true rfl) dX12_opensTest_1 ⟨Nat.le_of_ble_eq_true rfl, Nat.le_of_ble_eq_true rfl⟩) (fun H locs hB => ?_)
  refine lv_if_ne (tgt := 13) hx hb dX12_opensTest_4 (by decide) (fun c58 => ?_) (fun c58 => ?_)
  · replace hv := y_br_f hv c58
    refine lv_aload_n hx hb dX12_opensTest_13 rfl (lv_at hl 0 rfl) ?_
    refine lv_iconst (v := (0 : Int32)) hx hb dX12_opensTest_14 (by decide) ?_
    refine lv_aload_n hx hb dX12_opensTest_15 rfl (lv_at hl 0 rfl) ?_
    obtain ⟨o59, eo59, hv⟩ := y_bi_e hv
    refine z_getR hc hB 11 6 g57 eo59 (by decide) (by decide) rfl (z_l1 hc qfX12_33) dX12_opensTest_16 ?_
    refine lv_iconst (v := (0 : Int32)) hx hb dX12_opensTest_19 (by decide) ?_
    obtain ⟨g60, hv⟩ := y_gd_e hv
    obtain ⟨i61, hv⟩ := y_gd_e hv
    refine z_iald hc hB g60 i61 dX12_opensTest_20 ?_
    obtain ⟨r63, c62, hv⟩ := y_bi_e hv
    refine z_thI hc hB (z_runV hc hB 11 (mm_X12_find hSK l ad o0 (0 : Int32) (z_I h o59 (0 : Int32).toNatClampNeg) h c62) md_X12_find qmX12_199 g57 (by decide) rfl rfl rfl ⟨Nat.le_of_ble_eq_true rfl, Nat.le_of_ble_eq_true rfl⟩ rfl hl.1 rfl (Nat.le_of_ble_eq_true rfl) dX12_opensTest_21 ⟨Nat.le_of_ble_eq_true rfl, Nat.le_of_ble_eq_true rfl⟩) (fun H locs hB => ?_)
    refine lv_istore_n (lv' := [(1, .int r63), (0, .ref (ad o0))]) hx hb dX12_opensTest_24 rfl hl (by decide) rfl (fun ls hl => ?_)
    refine lv_iload_n hx hb dX12_opensTest_25 rfl (lv_at hl 0 rfl) ?_
    refine lv_if_lt (tgt := 33) hx hb dX12_opensTest_26 (by decide) (fun c67 => ?_) (fun c67 => ?_)
    · replace hv := y_br_t hv c67
      refine lv_iconst (v := (0 : Int32)) hx hb dX12_opensTest_33 (by decide) ?_
      exact b34 r63 (0 : Int32) h _ _ _ hB (lv_sub hl [1, 0] rfl) _ hv kt
    · replace hv := y_br_f hv c67
      refine lv_iconst (v := (1 : Int32)) hx hb dX12_opensTest_29 (by decide) ?_
      refine lv_goto (tgt := 34) hx hb dX12_opensTest_30 (by decide) ?_
      exact b34 r63 (1 : Int32) h _ _ _ hB (lv_sub hl [1, 0] rfl) _ hv kt
  · replace hv := y_br_t hv c58
    refine lv_aload_n hx hb dX12_opensTest_7 rfl (lv_at hl 0 rfl) ?_
    refine lv_iconst (v := (1 : Int32)) hx hb dX12_opensTest_8 (by decide) ?_
    obtain ⟨⟨r69, h73⟩, c68, hv⟩ := y_bi_e hv
    refine z_thI hc hB (z_runV hc hB 11 (mm_X12_bad hSK l ad o0 (1 : Int32) h c68) md_X12_bad qmX12_182 g57 (by decide) rfl rfl rfl ⟨Nat.le_of_ble_eq_true rfl, Nat.le_of_ble_eq_true rfl⟩ rfl hl.1 rfl (Nat.le_of_ble_eq_true rfl) dX12_opensTest_9 ⟨Nat.le_of_ble_eq_true rfl, Nat.le_of_ble_eq_true rfl⟩) (fun H locs hB => ?_)
    obtain ⟨y74, hv⟩ := y_gd_e hv
    replace hv := Option.some.inj hv
    subst hv
    obtain ⟨e1, e2⟩ := y_pr kt
    rw [← e1, ← e2]
    exact z_zret hc hB hr (y_b_n y74) dX12_opensTest_12
theorem qmX12_359 : Cond.methodLink RX12 359 yX12_opensTest ∈ z_ws := List.mem_filter.mpr ⟨List.mem_append_right _ (List.mem_of_getElem? (i := 1752) (by decide +kernel)), rfl⟩
theorem qc_X12_opensTest : Cond.code yX12_opensTest cX12_opensTest 4 (some .boolean) ∈ z_ws := List.mem_filter.mpr ⟨List.mem_append_right _ (List.mem_of_getElem? (i := 1755) (by decide +kernel)), rfl⟩
theorem qi_X12_opensTest : Cond.instanceMethod yX12_opensTest ∈ z_ws := List.mem_filter.mpr ⟨List.mem_append_right _ (List.mem_of_getElem? (i := 1754) (by decide +kernel)), rfl⟩
theorem qs_X12_opensTest : Cond.selects RX12 yX12_opensTest yX12_opensTest ∈ z_ws := List.mem_filter.mpr ⟨List.mem_append_left _ (List.mem_of_getElem? (i := 73) (by decide +kernel)), rfl⟩
theorem md_X12_opensTest : z_mdV yX12_opensTest cX12_opensTest 4 (some .boolean) 0 := ⟨⟨qn_RX12, qc_X12_opensTest, ⟨by decide +kernel, by decide +kernel, by decide +kernel⟩⟩, qi_X12_opensTest, qs_X12_opensTest⟩
theorem dX12_readTree_0 : decode cX12_readTree 0 = .ok (.iconst 1, 1) := by decide +kernel
theorem dX12_readTree_1 : decode cX12_readTree 1 = .ok (.istore_n 1, 1) := by decide +kernel
theorem dX12_readTree_2 : decode cX12_readTree 2 = .ok (.iload_n 1, 1) := by decide +kernel
theorem dX12_readTree_3 : decode cX12_readTree 3 = .ok (.ifCond .eq 151, 3) := by decide +kernel
theorem dX12_readTree_6 : decode cX12_readTree 6 = .ok (.aload_n 0, 1) := by decide +kernel
theorem dX12_readTree_7 : decode cX12_readTree 7 = .ok (.ldc2_w 121, 3) := by decide +kernel
theorem dX12_readTree_10 : decode cX12_readTree 10 = .ok (.invokevirtual 203, 3) := by decide +kernel
theorem dX12_readTree_13 : decode cX12_readTree 13 = .ok (.ifCond .ne 22, 3) := by decide +kernel
theorem dX12_readTree_16 : decode cX12_readTree 16 = .ok (.aload_n 0, 1) := by decide +kernel
theorem dX12_readTree_17 : decode cX12_readTree 17 = .ok (.ldc2_w 123, 3) := by decide +kernel
theorem dX12_readTree_20 : decode cX12_readTree 20 = .ok (.invokevirtual 203, 3) := by decide +kernel
theorem dX12_readTree_23 : decode cX12_readTree 23 = .ok (.ifCond .ne 12, 3) := by decide +kernel
theorem dX12_readTree_26 : decode cX12_readTree 26 = .ok (.aload_n 0, 1) := by decide +kernel
theorem dX12_readTree_27 : decode cX12_readTree 27 = .ok (.invokevirtual 359, 3) := by decide +kernel
theorem dX12_readTree_30 : decode cX12_readTree 30 = .ok (.ifCond .ne (-28), 3) := by decide +kernel
theorem dX12_readTree_33 : decode cX12_readTree 33 = .ok (.iconst 0, 1) := by decide +kernel
theorem dX12_readTree_34 : decode cX12_readTree 34 = .ok (.ireturn, 1) := by decide +kernel
theorem dX12_readTree_35 : decode cX12_readTree 35 = .ok (.aload_n 0, 1) := by decide +kernel
theorem dX12_readTree_36 : decode cX12_readTree 36 = .ok (.aload_n 0, 1) := by decide +kernel
theorem dX12_readTree_37 : decode cX12_readTree 37 = .ok (.ldc2_w 121, 3) := by decide +kernel
theorem dX12_readTree_40 : decode cX12_readTree 40 = .ok (.invokevirtual 203, 3) := by decide +kernel
theorem dX12_readTree_43 : decode cX12_readTree 43 = .ok (.ifCond .eq 7, 3) := by decide +kernel
theorem dX12_readTree_46 : decode cX12_readTree 46 = .ok (.iconst (-1), 1) := by decide +kernel
theorem dX12_readTree_47 : decode cX12_readTree 47 = .ok (.goto 5, 3) := by decide +kernel
theorem dX12_readTree_50 : decode cX12_readTree 50 = .ok (.bipush (-2), 2) := by decide +kernel
theorem dX12_readTree_52 : decode cX12_readTree 52 = .ok (.invokevirtual 353, 3) := by decide +kernel
theorem dX12_readTree_55 : decode cX12_readTree 55 = .ok (.aload_n 0, 1) := by decide +kernel
theorem dX12_readTree_56 : decode cX12_readTree 56 = .ok (.invokevirtual 185, 3) := by decide +kernel
theorem dX12_readTree_59 : decode cX12_readTree 59 = .ok (.iconst 0, 1) := by decide +kernel
theorem dX12_readTree_60 : decode cX12_readTree 60 = .ok (.istore_n 1, 1) := by decide +kernel
theorem dX12_readTree_61 : decode cX12_readTree 61 = .ok (.aload_n 0, 1) := by decide +kernel
theorem dX12_readTree_62 : decode cX12_readTree 62 = .ok (.getfield 350, 3) := by decide +kernel
theorem dX12_readTree_65 : decode cX12_readTree 65 = .ok (.ifCond .le (-63), 3) := by decide +kernel
theorem dX12_readTree_68 : decode cX12_readTree 68 = .ok (.iload_n 1, 1) := by decide +kernel
theorem dX12_readTree_69 : decode cX12_readTree 69 = .ok (.ifCond .ne (-67), 3) := by decide +kernel
theorem dX12_readTree_72 : decode cX12_readTree 72 = .ok (.aload_n 0, 1) := by decide +kernel
theorem dX12_readTree_73 : decode cX12_readTree 73 = .ok (.aload_n 0, 1) := by decide +kernel
theorem dX12_readTree_74 : decode cX12_readTree 74 = .ok (.getfield 77, 3) := by decide +kernel
theorem dX12_readTree_77 : decode cX12_readTree 77 = .ok (.aload_n 0, 1) := by decide +kernel
theorem dX12_readTree_78 : decode cX12_readTree 78 = .ok (.getfield 350, 3) := by decide +kernel
theorem dX12_readTree_81 : decode cX12_readTree 81 = .ok (.iconst 1, 1) := by decide +kernel
theorem dX12_readTree_82 : decode cX12_readTree 82 = .ok (.isub, 1) := by decide +kernel
theorem dX12_readTree_83 : decode cX12_readTree 83 = .ok (.iaload, 1) := by decide +kernel
theorem dX12_readTree_84 : decode cX12_readTree 84 = .ok (.ifCond .ne 8, 3) := by decide +kernel
theorem dX12_readTree_87 : decode cX12_readTree 87 = .ok (.bipush 59, 2) := by decide +kernel
theorem dX12_readTree_89 : decode cX12_readTree 89 = .ok (.goto 5, 3) := by decide +kernel
theorem dX12_readTree_92 : decode cX12_readTree 92 = .ok (.bipush 41, 2) := by decide +kernel
theorem dX12_readTree_94 : decode cX12_readTree 94 = .ok (.invokevirtual 235, 3) := by decide +kernel
theorem dX12_readTree_97 : decode cX12_readTree 97 = .ok (.ifCond .ne 5, 3) := by decide +kernel
theorem dX12_readTree_100 : decode cX12_readTree 100 = .ok (.iconst 0, 1) := by decide +kernel
theorem dX12_readTree_101 : decode cX12_readTree 101 = .ok (.ireturn, 1) := by decide +kernel
theorem dX12_readTree_102 : decode cX12_readTree 102 = .ok (.aload_n 0, 1) := by decide +kernel
theorem dX12_readTree_103 : decode cX12_readTree 103 = .ok (.getfield 77, 3) := by decide +kernel
theorem dX12_readTree_106 : decode cX12_readTree 106 = .ok (.aload_n 0, 1) := by decide +kernel
theorem dX12_readTree_107 : decode cX12_readTree 107 = .ok (.getfield 350, 3) := by decide +kernel
theorem dX12_readTree_110 : decode cX12_readTree 110 = .ok (.iconst 1, 1) := by decide +kernel
theorem dX12_readTree_111 : decode cX12_readTree 111 = .ok (.isub, 1) := by decide +kernel
theorem dX12_readTree_112 : decode cX12_readTree 112 = .ok (.iaload, 1) := by decide +kernel
theorem dX12_readTree_113 : decode cX12_readTree 113 = .ok (.ifCond .ne 7, 3) := by decide +kernel
theorem dX12_readTree_116 : decode cX12_readTree 116 = .ok (.iconst 1, 1) := by decide +kernel
theorem dX12_readTree_117 : decode cX12_readTree 117 = .ok (.goto 4, 3) := by decide +kernel
theorem dX12_readTree_120 : decode cX12_readTree 120 = .ok (.iconst 0, 1) := by decide +kernel
theorem dX12_readTree_121 : decode cX12_readTree 121 = .ok (.istore_n 1, 1) := by decide +kernel
theorem dX12_readTree_122 : decode cX12_readTree 122 = .ok (.iload_n 1, 1) := by decide +kernel
theorem dX12_readTree_123 : decode cX12_readTree 123 = .ok (.ifCond .eq 18, 3) := by decide +kernel
theorem dX12_readTree_126 : decode cX12_readTree 126 = .ok (.aload_n 0, 1) := by decide +kernel
theorem dX12_readTree_127 : decode cX12_readTree 127 = .ok (.getfield 77, 3) := by decide +kernel
theorem dX12_readTree_130 : decode cX12_readTree 130 = .ok (.aload_n 0, 1) := by decide +kernel
theorem dX12_readTree_131 : decode cX12_readTree 131 = .ok (.getfield 350, 3) := by decide +kernel
theorem dX12_readTree_134 : decode cX12_readTree 134 = .ok (.iconst 1, 1) := by decide +kernel
theorem dX12_readTree_135 : decode cX12_readTree 135 = .ok (.isub, 1) := by decide +kernel
theorem dX12_readTree_136 : decode cX12_readTree 136 = .ok (.iconst 1, 1) := by decide +kernel
theorem dX12_readTree_137 : decode cX12_readTree 137 = .ok (.iastore, 1) := by decide +kernel
theorem dX12_readTree_138 : decode cX12_readTree 138 = .ok (.goto (-77), 3) := by decide +kernel
theorem dX12_readTree_141 : decode cX12_readTree 141 = .ok (.aload_n 0, 1) := by decide +kernel
theorem dX12_readTree_142 : decode cX12_readTree 142 = .ok (.dup, 1) := by decide +kernel
theorem dX12_readTree_143 : decode cX12_readTree 143 = .ok (.getfield 350, 3) := by decide +kernel
theorem dX12_readTree_146 : decode cX12_readTree 146 = .ok (.iconst 1, 1) := by decide +kernel
theorem dX12_readTree_147 : decode cX12_readTree 147 = .ok (.isub, 1) := by decide +kernel
theorem dX12_readTree_148 : decode cX12_readTree 148 = .ok (.putfield 350, 3) := by decide +kernel
theorem dX12_readTree_151 : decode cX12_readTree 151 = .ok (.goto (-90), 3) := by decide +kernel
theorem dX12_readTree_154 : decode cX12_readTree 154 = .ok (.aload_n 0, 1) := by decide +kernel
theorem dX12_readTree_155 : decode cX12_readTree 155 = .ok (.getfield 156, 3) := by decide +kernel
theorem dX12_readTree_158 : decode cX12_readTree 158 = .ok (.ifCond .eq 11, 3) := by decide +kernel
theorem dX12_readTree_161 : decode cX12_readTree 161 = .ok (.aload_n 0, 1) := by decide +kernel
theorem dX12_readTree_162 : decode cX12_readTree 162 = .ok (.iconst 1, 1) := by decide +kernel
theorem dX12_readTree_163 : decode cX12_readTree 163 = .ok (.invokevirtual 182, 3) := by decide +kernel
theorem dX12_readTree_166 : decode cX12_readTree 166 = .ok (.ifCond .eq 7, 3) := by decide +kernel
theorem dX12_readTree_169 : decode cX12_readTree 169 = .ok (.iconst 1, 1) := by decide +kernel
theorem dX12_readTree_170 : decode cX12_readTree 170 = .ok (.goto 4, 3) := by decide +kernel
theorem dX12_readTree_173 : decode cX12_readTree 173 = .ok (.iconst 0, 1) := by decide +kernel
theorem dX12_readTree_174 : decode cX12_readTree 174 = .ok (.ireturn, 1) := by decide +kernel
abbrev rm_X12_readTree : Room := { frames := 4, cells := 0, slots := 0, locals := 87 }
noncomputable def fX12_readTree_b169  (h : z_T) : Option (Int32 × z_T) :=
  some ((1 : Int32), h)
noncomputable def fX12_readTree_b121 (o0 : Nat) (s0 : Int32) (h : z_T) : Option ((Int32 × z_T) ⊕ ((Int32 × z_T) ⊕ (Int32 × z_T))) :=
  y_br (s0 = 0)
    (y_gd (z_ok h o0 11) <|
    y_nm (z_sI h o0 36 ((z_I h o0 36) - (1 : Int32))) fun h3 =>
    some (.inl (s0, h3)))
    (y_gd (z_ok h o0 11) <|
    y_bi (z_R h o0 34) fun o5 =>
    y_gd (z_ok h o5 13) <|
    y_gd (z_ix ((z_I h o0 36) - (1 : Int32)) (z_N h o5)) <|
    y_nm (z_sI h o5 ((z_I h o0 36) - (1 : Int32)).toNatClampNeg (1 : Int32)) fun h8 =>
    some (.inl (s0, h8)))
noncomputable def fX12_readTree_b94 (o0 : Nat) (s0 : Nat) (s1 : Int32) (h : z_T) : Option ((Int32 × z_T) ⊕ ((Int32 × z_T) ⊕ (Int32 × z_T))) :=
  y_gd (z_ok h s0 11) <|
  y_bi (fX12_sign s0 s1 h) fun ⟨r10, h14⟩ =>
  y_br (r10 = 0)
    (y_mp <|
    y_mp <|
    some ((0 : Int32), h14))
    (y_gd (z_ok h14 o0 11) <|
    y_bi (z_R h14 o0 34) fun o18 =>
    y_gd (z_ok h14 o18 13) <|
    y_gd (z_ix ((z_I h14 o0 36) - (1 : Int32)) (z_N h14 o18)) <|
    y_br ((z_I h14 o18 ((z_I h14 o0 36) - (1 : Int32)).toNatClampNeg) = 0)
      (fX12_readTree_b121 o0 (1 : Int32) h14)
      (fX12_readTree_b121 o0 (0 : Int32) h14))
noncomputable def fX12_readTree_b61_i (o0 : Nat) (x1 : Int32) (h : z_T) : Option ((Int32 × z_T) ⊕ ((Int32 × z_T) ⊕ (Int32 × z_T))) :=
  y_gd (z_ok h o0 11) <|
  y_br ((z_I h o0 36) ≤ 0)
    (some (.inr (.inl (x1, h))))
    (y_br (x1 = 0)
      (y_bi (z_R h o0 34) fun o27 =>
      y_gd (z_ok h o27 13) <|
      y_gd (z_ix ((z_I h o0 36) - (1 : Int32)) (z_N h o27)) <|
      y_br ((z_I h o27 ((z_I h o0 36) - (1 : Int32)).toNatClampNeg) = 0)
        (fX12_readTree_b94 o0 o0 (59 : Int32) h)
        (fX12_readTree_b94 o0 o0 (41 : Int32) h))
      (some (.inr (.inl (x1, h)))))
noncomputable def fX12_readTree_b61 (o0 : Nat) (x1 : Int32) (h : z_T) : Option ((Int32 × z_T) ⊕ (Int32 × z_T)) := y_lp (fun q : Int32 × z_T => fX12_readTree_b61_i o0 q.1 q.2) (x1, h)
noncomputable def fX12_readTree_b52 (o0 : Nat) (s0 : Nat) (s1 : Int32) (h : z_T) : Option ((Int32 × z_T) ⊕ (Int32 × z_T)) :=
  y_gd (z_ok h s0 11) <|
  y_bi (fX12_hangs s0 s1 h) fun h32 =>
  y_gd (z_ok h32 o0 11) <|
  y_bi (fX12_go o0 h32) fun h35 =>
  fX12_readTree_b61 o0 (0 : Int32) h35
noncomputable def fX12_readTree_b35 (o0 : Nat) (h : z_T) : Option ((Int32 × z_T) ⊕ (Int32 × z_T)) :=
  y_gd (z_ok h o0 11) <|
  y_bi (fX12_isWord o0 (30064 : Int64) h) fun r38 =>
  y_br (r38 = 0)
    (fX12_readTree_b52 o0 o0 (-2 : Int32) h)
    (fX12_readTree_b52 o0 o0 (-1 : Int32) h)
noncomputable def fX12_readTree_b2_i (o0 : Nat) (x1 : Int32) (h : z_T) : Option ((Int32 × z_T) ⊕ (Int32 × z_T)) :=
  y_br (x1 = 0)
    (y_mp <|
    y_gd (z_ok h o0 11) <|
    y_br ((z_I h o0 11) = 0)
      (fX12_readTree_b169 h)
      (y_bi (fX12_bad o0 (1 : Int32) h) fun ⟨r49, h53⟩ =>
      y_br (r49 = 0)
        (some ((0 : Int32), h53))
        (fX12_readTree_b169 h53)))
    (y_gd (z_ok h o0 11) <|
    y_bi (fX12_isWord o0 (30064 : Int64) h) fun r56 =>
    y_br (r56 = 0)
      (y_bi (fX12_isWord o0 (6448484 : Int64) h) fun r63 =>
      y_br (r63 = 0)
        (y_bi (fX12_opensTest o0 h) fun ⟨r69, h73⟩ =>
        y_br (r69 = 0)
          (y_mp <|
          some ((0 : Int32), h73))
          (some (.inl (x1, h73))))
        (fX12_readTree_b35 o0 h))
      (fX12_readTree_b35 o0 h))
noncomputable def fX12_readTree_b2 (o0 : Nat) (x1 : Int32) (h : z_T) : Option (Int32 × z_T) := y_lp (fun q : Int32 × z_T => fX12_readTree_b2_i o0 q.1 q.2) (x1, h)
noncomputable def fX12_readTree (o0 : Nat) (h : z_T) : Option (Int32 × z_T) :=
  fX12_readTree_b2 o0 (1 : Int32) h
set_option maxHeartbeats 4000000 in
set_option maxRecDepth 100000 in
theorem mm_X12_readTree {G : z_Gt} {S : State → Prop} (hSK : z_SK S) (l : Launch) (ad : Nat → Nat) (o0 : Nat) (h : z_T) {r0 : Int32} {h9 : z_T} (hv : fX12_readTree o0 h = some (r0, h9)) : z_Mi G S l yX12_readTree cX12_readTree 2 (.boolean) rm_X12_readTree 0 0 [.ref (ad o0)] ad h h9 r0 := by
  refine z_ofW hSK (by decide) (Nat.le_of_ble_eq_true rfl) ?_
  intro p e s m args below meth c ls hc hr hnm hB hl
  have hx := hc.1.1
  have hb := hc.1.2.1
  have hown := hc.1.2.2.2.1
  have hts := hc.1.2.2.2.2
  replace hc : z_C G S ad (z_n h) p m c cX12_readTree 2 s args RX12 meth := hc
  replace hown : s.vm.findClass RX12 = some m.cls := hown
  replace hl : lv_has ls 2 [(0, .ref (ad o0))] := hl
  show W p l e rm_X12_readTree s m args below meth c s.heap [] 0 0 (MQ below (z_Qi G ad h9 (z_n h) s.heap.size r0) args s 0 0 (z_A ad (z_n h) s.heap.size)) (F0 m 0 ls [])
  obtain ⟨rs, kt⟩ : ∃ rs : Int32 × z_T, rs = (r0, h9) := ⟨_, rfl⟩
  generalize hn0 : z_n h = n0 at hc hB ⊢
  have b169 : ∀ (h : z_T) (H : Heap) (locs : List Loc) (ls : Array Slot), z_B G ad n0 s h H locs → lv_has ls 2 [] → ∀ w, fX12_readTree_b169 h = some w → w = (r0, h9) → W p l e rm_X12_readTree s m args below meth c H locs 0 0 (MQ below (z_Qi G ad h9 n0 s.heap.size r0) args s 0 0 (z_A ad n0 s.heap.size)) (F0 m 169 ls []) := by
    intro h H locs ls hB hl w hv kb
    refine lv_iconst (v := (1 : Int32)) hx hb dX12_readTree_169 (by decide) ?_
    refine lv_goto (tgt := 174) hx hb dX12_readTree_170 (by decide) ?_
    replace hv := Option.some.inj hv
    subst hv
    obtain ⟨e1, e2⟩ := y_pr kb
    rw [← e1, ← e2]
    exact z_zret hc hB hr rfl dX12_readTree_174
  have L2 : ∀ (nn2 : Nat) (x1 : Int32) (h : z_T) (H : Heap) (locs : List Loc) (ls : Array Slot), z_B G ad n0 s h H locs → lv_has ls 2 [(0, .ref (ad o0)), (1, .int x1)] → ∀ vv2, y_lpN (fun q : Int32 × z_T => fX12_readTree_b2_i o0 q.1 q.2) nn2 (x1, h) = some vv2 → vv2 = (r0, h9) → W p l e rm_X12_readTree s m args below meth c H locs 0 0 (MQ below (z_Qi G ad h9 n0 s.heap.size r0) args s 0 0 (z_A ad n0 s.heap.size)) (F0 m 2 ls []) := by
    intro nn2
    induction nn2 with
    | zero => intro x1 h H locs ls hB hl vv2 hv kv2; exact absurd hv (fun q => y_lpN_0 q)
    | succ nn2 ih2 =>
      intro x1 h H locs ls hB hl vv2 hv kv2
      obtain ⟨w, hq, kw2⟩ := y_lpN_e hv
      clear hv
      have hv : fX12_readTree_b2_i o0 x1 h = some w := hq
      clear hq
      have L61 : ∀ (nn61 : Nat) (x1 : Int32) (h : z_T) (H : Heap) (locs : List Loc) (ls : Array Slot), z_B G ad n0 s h H locs → lv_has ls 2 [(0, .ref (ad o0)), (1, .int x1)] → ∀ vv61, y_lpN (fun q : Int32 × z_T => fX12_readTree_b61_i o0 q.1 q.2) nn61 (x1, h) = some vv61 → y_lq (fun q : Int32 × z_T => fX12_readTree_b2_i o0 q.1 q.2) nn2 vv2 vv61 → W p l e rm_X12_readTree s m args below meth c H locs 0 0 (MQ below (z_Qi G ad h9 n0 s.heap.size r0) args s 0 0 (z_A ad n0 s.heap.size)) (F0 m 61 ls []) := by
        intro nn61
        induction nn61 with
        | zero => intro x1 h H locs ls hB hl vv61 hv kv61; exact absurd hv (fun q => y_lpN_0 q)
        | succ nn61 ih61 =>
          intro x1 h H locs ls hB hl vv61 hv kv61
          obtain ⟨w, hq, kw61⟩ := y_lpN_e hv
          clear hv
          have hv : fX12_readTree_b61_i o0 x1 h = some w := hq
          clear hq
          have b121 : ∀ (s0 : Int32) (h : z_T) (H : Heap) (locs : List Loc) (ls : Array Slot), z_B G ad n0 s h H locs → lv_has ls 2 [(0, .ref (ad o0))] → ∀ w, fX12_readTree_b121 o0 s0 h = some w → y_lq (fun q : Int32 × z_T => fX12_readTree_b61_i o0 q.1 q.2) nn61 vv61 w → W p l e rm_X12_readTree s m args below meth c H locs 0 0 (MQ below (z_Qi G ad h9 n0 s.heap.size r0) args s 0 0 (z_A ad n0 s.heap.size)) (F0 m 121 ls [.int s0]) := by
            intro s0 h H locs ls hB hl w hv kw61
            refine lv_istore_n (lv' := [(1, .int s0), (0, .ref (ad o0))]) hx hb dX12_readTree_121 rfl hl (by decide) rfl (fun ls hl => ?_)
            refine lv_iload_n hx hb dX12_readTree_122 rfl (lv_at hl 0 rfl) ?_
            refine lv_if_eq (tgt := 141) hx hb dX12_readTree_123 (by decide) (fun c1 => ?_) (fun c1 => ?_)
            · replace hv := y_br_t hv c1
              refine lv_aload_n hx hb dX12_readTree_141 rfl (lv_at hl 1 rfl) ?_
              refine lv_dup hx hb dX12_readTree_142 rfl ?_
              obtain ⟨g2, hv⟩ := y_gd_e hv
              refine z_getI hc hB 11 36 g2 (by decide) (by decide) rfl (z_l1 hc qfX12_350) dX12_readTree_143 ?_
              refine lv_iconst (v := (1 : Int32)) hx hb dX12_readTree_146 (by decide) ?_
              refine lv_isub hx hb dX12_readTree_147 ?_
              obtain ⟨h3, eh3, hv⟩ := y_nm_e hv
              refine y_putI hc hB 11 36 eh3 g2 (z_l1 hc qfX12_350) dX12_readTree_148 (by decide) (by decide) rfl rfl rfl rfl (fun H locs hB => ?_)
              refine lv_goto (tgt := 61) hx hb dX12_readTree_151 (by decide) ?_
              replace hv := Option.some.inj hv
              subst hv
              exact ih61 s0 h3 _ _ _ hB (lv_sub hl [1, 0] rfl) _ kw61 kv61
            · replace hv := y_br_f hv c1
              refine lv_aload_n hx hb dX12_readTree_126 rfl (lv_at hl 1 rfl) ?_
              obtain ⟨g4, hv⟩ := y_gd_e hv
              obtain ⟨o5, eo5, hv⟩ := y_bi_e hv
              refine z_getR hc hB 11 34 g4 eo5 (by decide) (by decide) rfl (z_l1 hc qfX12_77) dX12_readTree_127 ?_
              refine lv_aload_n hx hb dX12_readTree_130 rfl (lv_at hl 1 rfl) ?_
              refine z_getI hc hB 11 36 g4 (by decide) (by decide) rfl (z_l1 hc qfX12_350) dX12_readTree_131 ?_
              refine lv_iconst (v := (1 : Int32)) hx hb dX12_readTree_134 (by decide) ?_
              refine lv_isub hx hb dX12_readTree_135 ?_
              refine lv_iconst (v := (1 : Int32)) hx hb dX12_readTree_136 (by decide) ?_
              obtain ⟨g6, hv⟩ := y_gd_e hv
              obtain ⟨i7, hv⟩ := y_gd_e hv
              obtain ⟨h8, eh8, hv⟩ := y_nm_e hv
              refine y_iast hc hB eh8 g6 i7 dX12_readTree_137 (fun H locs hB => ?_)
              refine lv_goto (tgt := 61) hx hb dX12_readTree_138 (by decide) ?_
              replace hv := Option.some.inj hv
              subst hv
              exact ih61 s0 h8 _ _ _ hB (lv_sub hl [1, 0] rfl) _ kw61 kv61
          have b94 : ∀ (s0 : Nat) (s1 : Int32) (h : z_T) (H : Heap) (locs : List Loc) (ls : Array Slot), z_B G ad n0 s h H locs → lv_has ls 2 [(0, .ref (ad o0))] → ∀ w, fX12_readTree_b94 o0 s0 s1 h = some w → y_lq (fun q : Int32 × z_T => fX12_readTree_b61_i o0 q.1 q.2) nn61 vv61 w → W p l e rm_X12_readTree s m args below meth c H locs 0 0 (MQ below (z_Qi G ad h9 n0 s.heap.size r0) args s 0 0 (z_A ad n0 s.heap.size)) (F0 m 94 ls [.int s1, .ref (ad s0)]) := by
            intro s0 s1 h H locs ls hB hl w hv kw61
            obtain ⟨g15, hv⟩ := y_gd_e hv
            obtain ⟨⟨r10, h14⟩, c9, hv⟩ := y_bi_e hv
            refine z_thI hc hB (z_runV hc hB 11 (mm_X12_sign hSK l ad s0 s1 h c9) md_X12_sign qmX12_235 g15 (by decide) rfl rfl rfl ⟨Nat.le_of_ble_eq_true rfl, Nat.le_of_ble_eq_true rfl⟩ rfl hl.1 rfl (Nat.le_of_ble_eq_true rfl) dX12_readTree_94 ⟨Nat.le_of_ble_eq_true rfl, Nat.le_of_ble_eq_true rfl⟩) (fun H locs hB => ?_)
            refine lv_if_ne (tgt := 102) hx hb dX12_readTree_97 (by decide) (fun c16 => ?_) (fun c16 => ?_)
            · replace hv := y_br_f hv c16
              refine lv_aload_n hx hb dX12_readTree_102 rfl (lv_at hl 0 rfl) ?_
              obtain ⟨g17, hv⟩ := y_gd_e hv
              obtain ⟨o18, eo18, hv⟩ := y_bi_e hv
              refine z_getR hc hB 11 34 g17 eo18 (by decide) (by decide) rfl (z_l1 hc qfX12_77) dX12_readTree_103 ?_
              refine lv_aload_n hx hb dX12_readTree_106 rfl (lv_at hl 0 rfl) ?_
              refine z_getI hc hB 11 36 g17 (by decide) (by decide) rfl (z_l1 hc qfX12_350) dX12_readTree_107 ?_
              refine lv_iconst (v := (1 : Int32)) hx hb dX12_readTree_110 (by decide) ?_
              refine lv_isub hx hb dX12_readTree_111 ?_
              obtain ⟨g19, hv⟩ := y_gd_e hv
              obtain ⟨i20, hv⟩ := y_gd_e hv
              refine z_iald hc hB g19 i20 dX12_readTree_112 ?_
              refine lv_if_ne (tgt := 120) hx hb dX12_readTree_113 (by decide) (fun c21 => ?_) (fun c21 => ?_)
              · replace hv := y_br_f hv c21
                refine lv_iconst (v := (0 : Int32)) hx hb dX12_readTree_120 (by decide) ?_
                exact b121 (0 : Int32) h14 _ _ _ hB (lv_sub hl [0] rfl) _ hv kw61
              · replace hv := y_br_t hv c21
                refine lv_iconst (v := (1 : Int32)) hx hb dX12_readTree_116 (by decide) ?_
                refine lv_goto (tgt := 121) hx hb dX12_readTree_117 (by decide) ?_
                exact b121 (1 : Int32) h14 _ _ _ hB (lv_sub hl [0] rfl) _ hv kw61
            · replace hv := y_br_t hv c16
              obtain ⟨t22, hq, ew⟩ := y_mp_e hv
              clear hv; subst ew
              replace kw61 : t22 = _ := kw61
              subst kw61
              have hv := hq
              clear hq
              obtain ⟨t23, hq, ew⟩ := y_mp_e hv
              clear hv; subst ew
              replace kv61 : t23 = _ := kv61
              subst kv61
              have hv := hq
              clear hq
              refine lv_iconst (v := (0 : Int32)) hx hb dX12_readTree_100 (by decide) ?_
              replace hv := Option.some.inj hv
              subst hv
              obtain ⟨e1, e2⟩ := y_pr kv2
              rw [← e1, ← e2]
              exact z_zret hc hB hr rfl dX12_readTree_101
          refine lv_aload_n hx hb dX12_readTree_61 rfl (lv_at hl 0 rfl) ?_
          obtain ⟨g24, hv⟩ := y_gd_e hv
          refine z_getI hc hB 11 36 g24 (by decide) (by decide) rfl (z_l1 hc qfX12_350) dX12_readTree_62 ?_
          refine lv_if_le (tgt := 2) hx hb dX12_readTree_65 (by decide) (fun c25 => ?_) (fun c25 => ?_)
          · replace hv := y_br_t hv c25
            replace hv := Option.some.inj hv
            subst hv
            replace kw61 : _ = _ := kw61
            subst kw61
            exact ih2 x1 h _ _ _ hB (lv_sub hl [0, 1] rfl) _ kv61 kv2
          · replace hv := y_br_f hv c25
            refine lv_iload_n hx hb dX12_readTree_68 rfl (lv_at hl 1 rfl) ?_
            refine lv_if_ne (tgt := 2) hx hb dX12_readTree_69 (by decide) (fun c26 => ?_) (fun c26 => ?_)
            · replace hv := y_br_f hv c26
              replace hv := Option.some.inj hv
              subst hv
              replace kw61 : _ = _ := kw61
              subst kw61
              exact ih2 x1 h _ _ _ hB (lv_sub hl [0, 1] rfl) _ kv61 kv2
            · replace hv := y_br_t hv c26
              refine lv_aload_n hx hb dX12_readTree_72 rfl (lv_at hl 0 rfl) ?_
              refine lv_aload_n hx hb dX12_readTree_73 rfl (lv_at hl 0 rfl) ?_
              obtain ⟨o27, eo27, hv⟩ := y_bi_e hv
              refine z_getR hc hB 11 34 g24 eo27 (by decide) (by decide) rfl (z_l1 hc qfX12_77) dX12_readTree_74 ?_
              refine lv_aload_n hx hb dX12_readTree_77 rfl (lv_at hl 0 rfl) ?_
              refine z_getI hc hB 11 36 g24 (by decide) (by decide) rfl (z_l1 hc qfX12_350) dX12_readTree_78 ?_
              refine lv_iconst (v := (1 : Int32)) hx hb dX12_readTree_81 (by decide) ?_
              refine lv_isub hx hb dX12_readTree_82 ?_
              obtain ⟨g28, hv⟩ := y_gd_e hv
              obtain ⟨i29, hv⟩ := y_gd_e hv
              refine z_iald hc hB g28 i29 dX12_readTree_83 ?_
              refine lv_if_ne (tgt := 92) hx hb dX12_readTree_84 (by decide) (fun c30 => ?_) (fun c30 => ?_)
              · replace hv := y_br_f hv c30
                refine lv_bipush (v := (41 : Int32)) hx hb dX12_readTree_92 (by decide) ?_
                exact b94 o0 (41 : Int32) h _ _ _ hB (lv_sub hl [0] rfl) _ hv kw61
              · replace hv := y_br_t hv c30
                refine lv_bipush (v := (59 : Int32)) hx hb dX12_readTree_87 (by decide) ?_
                refine lv_goto (tgt := 94) hx hb dX12_readTree_89 (by decide) ?_
                exact b94 o0 (59 : Int32) h _ _ _ hB (lv_sub hl [0] rfl) _ hv kw61
      have b52 : ∀ (s0 : Nat) (s1 : Int32) (h : z_T) (H : Heap) (locs : List Loc) (ls : Array Slot), z_B G ad n0 s h H locs → lv_has ls 2 [(0, .ref (ad o0))] → ∀ w, fX12_readTree_b52 o0 s0 s1 h = some w → y_lq (fun q : Int32 × z_T => fX12_readTree_b2_i o0 q.1 q.2) nn2 vv2 w → W p l e rm_X12_readTree s m args below meth c H locs 0 0 (MQ below (z_Qi G ad h9 n0 s.heap.size r0) args s 0 0 (z_A ad n0 s.heap.size)) (F0 m 52 ls [.int s1, .ref (ad s0)]) := by
        intro s0 s1 h H locs ls hB hl w hv kw2
        obtain ⟨g33, hv⟩ := y_gd_e hv
        obtain ⟨h32, c31, hv⟩ := y_bi_e hv
        refine z_thV hc hB (z_runV hc hB 11 (mm_X12_hangs hSK l ad s0 s1 h c31) md_X12_hangs qmX12_353 g33 (by decide) rfl rfl rfl ⟨Nat.le_of_ble_eq_true rfl, Nat.le_of_ble_eq_true rfl⟩ rfl hl.1 rfl (Nat.le_of_ble_eq_true rfl) dX12_readTree_52 ⟨Nat.le_of_ble_eq_true rfl, Nat.le_of_ble_eq_true rfl⟩) (fun H locs hB => ?_)
        refine lv_aload_n hx hb dX12_readTree_55 rfl (lv_at hl 0 rfl) ?_
        obtain ⟨g36, hv⟩ := y_gd_e hv
        obtain ⟨h35, c34, hv⟩ := y_bi_e hv
        refine z_thV hc hB (z_runV hc hB 11 (mm_X12_go hSK l ad o0 h32 c34) md_X12_go qmX12_185 g36 (by decide) rfl rfl rfl ⟨Nat.le_of_ble_eq_true rfl, Nat.le_of_ble_eq_true rfl⟩ rfl hl.1 rfl (Nat.le_of_ble_eq_true rfl) dX12_readTree_56 ⟨Nat.le_of_ble_eq_true rfl, Nat.le_of_ble_eq_true rfl⟩) (fun H locs hB => ?_)
        refine lv_iconst (v := (0 : Int32)) hx hb dX12_readTree_59 (by decide) ?_
        refine lv_istore_n (lv' := [(1, .int (0 : Int32)), (0, .ref (ad o0))]) hx hb dX12_readTree_60 rfl hl (by decide) rfl (fun ls hl => ?_)
        obtain ⟨n, hv⟩ := y_lp_e hv
        exact L61 n (0 : Int32) h35 _ _ _ hB (lv_sub hl [1, 0] rfl) _ hv kw2
      have b35 : ∀ (h : z_T) (H : Heap) (locs : List Loc) (ls : Array Slot), z_B G ad n0 s h H locs → lv_has ls 2 [(0, .ref (ad o0))] → ∀ w, fX12_readTree_b35 o0 h = some w → y_lq (fun q : Int32 × z_T => fX12_readTree_b2_i o0 q.1 q.2) nn2 vv2 w → W p l e rm_X12_readTree s m args below meth c H locs 0 0 (MQ below (z_Qi G ad h9 n0 s.heap.size r0) args s 0 0 (z_A ad n0 s.heap.size)) (F0 m 35 ls []) := by
        intro h H locs ls hB hl w hv kw2
        refine lv_aload_n hx hb dX12_readTree_35 rfl (lv_at hl 0 rfl) ?_
        refine lv_aload_n hx hb dX12_readTree_36 rfl (lv_at hl 0 rfl) ?_
        refine lv_ldc2 (v := (30064 : Int64)) hx hb hown (hts _ qkX12_121) dX12_readTree_37 ?_
        obtain ⟨g42, hv⟩ := y_gd_e hv
        obtain ⟨r38, c37, hv⟩ := y_bi_e hv
        refine z_thI hc hB (z_runV hc hB 11 (mm_X12_isWord hSK l ad o0 (30064 : Int64) h c37) md_X12_isWord qmX12_203 g42 (by decide) rfl rfl rfl ⟨Nat.le_of_ble_eq_true rfl, Nat.le_of_ble_eq_true rfl⟩ rfl hl.1 rfl (Nat.le_of_ble_eq_true rfl) dX12_readTree_40 ⟨Nat.le_of_ble_eq_true rfl, Nat.le_of_ble_eq_true rfl⟩) (fun H locs hB => ?_)
        refine lv_if_eq (tgt := 50) hx hb dX12_readTree_43 (by decide) (fun c43 => ?_) (fun c43 => ?_)
        · replace hv := y_br_t hv c43
          refine lv_bipush (v := (-2 : Int32)) hx hb dX12_readTree_50 (by decide) ?_
          exact b52 o0 (-2 : Int32) h _ _ _ hB (lv_sub hl [0] rfl) _ hv kw2
        · replace hv := y_br_f hv c43
          refine lv_iconst (v := (-1 : Int32)) hx hb dX12_readTree_46 (by decide) ?_
          refine lv_goto (tgt := 52) hx hb dX12_readTree_47 (by decide) ?_
          exact b52 o0 (-1 : Int32) h _ _ _ hB (lv_sub hl [0] rfl) _ hv kw2
      refine lv_iload_n hx hb dX12_readTree_2 rfl (lv_at hl 1 rfl) ?_
      refine lv_if_eq (tgt := 154) hx hb dX12_readTree_3 (by decide) (fun c44 => ?_) (fun c44 => ?_)
      · replace hv := y_br_t hv c44
        obtain ⟨t45, hq, ew⟩ := y_mp_e hv
        clear hv; subst ew
        replace kw2 : t45 = _ := kw2
        subst kw2
        have hv := hq
        clear hq
        refine lv_aload_n hx hb dX12_readTree_154 rfl (lv_at hl 0 rfl) ?_
        obtain ⟨g46, hv⟩ := y_gd_e hv
        refine z_getI hc hB 11 11 g46 (by decide) (by decide) rfl (z_l1 hc qfX12_156) dX12_readTree_155 ?_
        refine lv_if_eq (tgt := 169) hx hb dX12_readTree_158 (by decide) (fun c47 => ?_) (fun c47 => ?_)
        · replace hv := y_br_t hv c47
          exact b169 h _ _ _ hB (lv_sub hl [] rfl) _ hv kv2
        · replace hv := y_br_f hv c47
          refine lv_aload_n hx hb dX12_readTree_161 rfl (lv_at hl 0 rfl) ?_
          refine lv_iconst (v := (1 : Int32)) hx hb dX12_readTree_162 (by decide) ?_
          obtain ⟨⟨r49, h53⟩, c48, hv⟩ := y_bi_e hv
          refine z_thI hc hB (z_runV hc hB 11 (mm_X12_bad hSK l ad o0 (1 : Int32) h c48) md_X12_bad qmX12_182 g46 (by decide) rfl rfl rfl ⟨Nat.le_of_ble_eq_true rfl, Nat.le_of_ble_eq_true rfl⟩ rfl hl.1 rfl (Nat.le_of_ble_eq_true rfl) dX12_readTree_163 ⟨Nat.le_of_ble_eq_true rfl, Nat.le_of_ble_eq_true rfl⟩) (fun H locs hB => ?_)
          refine lv_if_eq (tgt := 173) hx hb dX12_readTree_166 (by decide) (fun c54 => ?_) (fun c54 => ?_)
          · replace hv := y_br_t hv c54
            refine lv_iconst (v := (0 : Int32)) hx hb dX12_readTree_173 (by decide) ?_
            replace hv := Option.some.inj hv
            subst hv
            obtain ⟨e1, e2⟩ := y_pr kv2
            rw [← e1, ← e2]
            exact z_zret hc hB hr rfl dX12_readTree_174
          · replace hv := y_br_f hv c54
            exact b169 h53 _ _ _ hB (lv_sub hl [] rfl) _ hv kv2
      · replace hv := y_br_f hv c44
        refine lv_aload_n hx hb dX12_readTree_6 rfl (lv_at hl 0 rfl) ?_
        refine lv_ldc2 (v := (30064 : Int64)) hx hb hown (hts _ qkX12_121) dX12_readTree_7 ?_
        obtain ⟨g60, hv⟩ := y_gd_e hv
        obtain ⟨r56, c55, hv⟩ := y_bi_e hv
        refine z_thI hc hB (z_runV hc hB 11 (mm_X12_isWord hSK l ad o0 (30064 : Int64) h c55) md_X12_isWord qmX12_203 g60 (by decide) rfl rfl rfl ⟨Nat.le_of_ble_eq_true rfl, Nat.le_of_ble_eq_true rfl⟩ rfl hl.1 rfl (Nat.le_of_ble_eq_true rfl) dX12_readTree_10 ⟨Nat.le_of_ble_eq_true rfl, Nat.le_of_ble_eq_true rfl⟩) (fun H locs hB => ?_)
        refine lv_if_ne (tgt := 35) hx hb dX12_readTree_13 (by decide) (fun c61 => ?_) (fun c61 => ?_)
        · replace hv := y_br_f hv c61
          exact b35 h _ _ _ hB (lv_sub hl [0] rfl) _ hv kw2
        · replace hv := y_br_t hv c61
          refine lv_aload_n hx hb dX12_readTree_16 rfl (lv_at hl 0 rfl) ?_
          refine lv_ldc2 (v := (6448484 : Int64)) hx hb hown (hts _ qkX12_123) dX12_readTree_17 ?_
          obtain ⟨r63, c62, hv⟩ := y_bi_e hv
          refine z_thI hc hB (z_runV hc hB 11 (mm_X12_isWord hSK l ad o0 (6448484 : Int64) h c62) md_X12_isWord qmX12_203 g60 (by decide) rfl rfl rfl ⟨Nat.le_of_ble_eq_true rfl, Nat.le_of_ble_eq_true rfl⟩ rfl hl.1 rfl (Nat.le_of_ble_eq_true rfl) dX12_readTree_20 ⟨Nat.le_of_ble_eq_true rfl, Nat.le_of_ble_eq_true rfl⟩) (fun H locs hB => ?_)
          refine lv_if_ne (tgt := 35) hx hb dX12_readTree_23 (by decide) (fun c67 => ?_) (fun c67 => ?_)
          · replace hv := y_br_f hv c67
            exact b35 h _ _ _ hB (lv_sub hl [0] rfl) _ hv kw2
          · replace hv := y_br_t hv c67
            refine lv_aload_n hx hb dX12_readTree_26 rfl (lv_at hl 0 rfl) ?_
            obtain ⟨⟨r69, h73⟩, c68, hv⟩ := y_bi_e hv
            refine z_thI hc hB (z_runV hc hB 11 (mm_X12_opensTest hSK l ad o0 h c68) md_X12_opensTest qmX12_359 g60 (by decide) rfl rfl rfl ⟨Nat.le_of_ble_eq_true rfl, Nat.le_of_ble_eq_true rfl⟩ rfl hl.1 rfl (Nat.le_of_ble_eq_true rfl) dX12_readTree_27 ⟨Nat.le_of_ble_eq_true rfl, Nat.le_of_ble_eq_true rfl⟩) (fun H locs hB => ?_)
            refine lv_if_ne (tgt := 2) hx hb dX12_readTree_30 (by decide) (fun c74 => ?_) (fun c74 => ?_)
            · replace hv := y_br_f hv c74
              replace hv := Option.some.inj hv
              subst hv
              exact ih2 x1 h73 _ _ _ hB (lv_sub hl [0, 1] rfl) _ kw2 kv2
            · replace hv := y_br_t hv c74
              obtain ⟨t75, hq, ew⟩ := y_mp_e hv
              clear hv; subst ew
              replace kw2 : t75 = _ := kw2
              subst kw2
              have hv := hq
              clear hq
              refine lv_iconst (v := (0 : Int32)) hx hb dX12_readTree_33 (by decide) ?_
              replace hv := Option.some.inj hv
              subst hv
              obtain ⟨e1, e2⟩ := y_pr kv2
              rw [← e1, ← e2]
              exact z_zret hc hB hr rfl dX12_readTree_34
  rw [← kt] at hv
  refine lv_iconst (v := (1 : Int32)) hx hb dX12_readTree_0 (by decide) ?_
  refine lv_istore_n (lv' := [(1, .int (1 : Int32)), (0, .ref (ad o0))]) hx hb dX12_readTree_1 rfl hl (by decide) rfl (fun ls hl => ?_)
  obtain ⟨n, hv⟩ := y_lp_e hv
  exact L2 n (1 : Int32) h _ _ _ hB (lv_sub hl [1, 0] rfl) _ hv kt
theorem qmX12_362 : Cond.methodLink RX12 362 yX12_readTree ∈ z_ws := List.mem_filter.mpr ⟨List.mem_append_right _ (List.mem_of_getElem? (i := 1748) (by decide +kernel)), rfl⟩
theorem qc_X12_readTree : Cond.code yX12_readTree cX12_readTree 2 (some .boolean) ∈ z_ws := List.mem_filter.mpr ⟨List.mem_append_right _ (List.mem_of_getElem? (i := 1751) (by decide +kernel)), rfl⟩
theorem qi_X12_readTree : Cond.instanceMethod yX12_readTree ∈ z_ws := List.mem_filter.mpr ⟨List.mem_append_right _ (List.mem_of_getElem? (i := 1750) (by decide +kernel)), rfl⟩
theorem qs_X12_readTree : Cond.selects RX12 yX12_readTree yX12_readTree ∈ z_ws := List.mem_filter.mpr ⟨List.mem_append_left _ (List.mem_of_getElem? (i := 72) (by decide +kernel)), rfl⟩
theorem md_X12_readTree : z_mdV yX12_readTree cX12_readTree 2 (some .boolean) 0 := ⟨⟨qn_RX12, qc_X12_readTree, ⟨by decide +kernel, by decide +kernel, by decide +kernel⟩⟩, qi_X12_readTree, qs_X12_readTree⟩
theorem dX12_tree_0 : decode cX12_tree 0 = .ok (.aload_n 0, 1) := by decide +kernel
theorem dX12_tree_1 : decode cX12_tree 1 = .ok (.iconst 0, 1) := by decide +kernel
theorem dX12_tree_2 : decode cX12_tree 2 = .ok (.putfield 1, 3) := by decide +kernel
theorem dX12_tree_5 : decode cX12_tree 5 = .ok (.aload_n 0, 1) := by decide +kernel
theorem dX12_tree_6 : decode cX12_tree 6 = .ok (.sipush 400, 3) := by decide +kernel
theorem dX12_tree_9 : decode cX12_tree 9 = .ok (.invokevirtual 226, 3) := by decide +kernel
theorem dX12_tree_12 : decode cX12_tree 12 = .ok (.aload_n 0, 1) := by decide +kernel
theorem dX12_tree_13 : decode cX12_tree 13 = .ok (.iconst 0, 1) := by decide +kernel
theorem dX12_tree_14 : decode cX12_tree 14 = .ok (.putfield 173, 3) := by decide +kernel
theorem dX12_tree_17 : decode cX12_tree 17 = .ok (.aload_n 0, 1) := by decide +kernel
theorem dX12_tree_18 : decode cX12_tree 18 = .ok (.iconst 0, 1) := by decide +kernel
theorem dX12_tree_19 : decode cX12_tree 19 = .ok (.putfield 347, 3) := by decide +kernel
theorem dX12_tree_22 : decode cX12_tree 22 = .ok (.aload_n 0, 1) := by decide +kernel
theorem dX12_tree_23 : decode cX12_tree 23 = .ok (.iconst 0, 1) := by decide +kernel
theorem dX12_tree_24 : decode cX12_tree 24 = .ok (.putfield 350, 3) := by decide +kernel
theorem dX12_tree_27 : decode cX12_tree 27 = .ok (.aload_n 0, 1) := by decide +kernel
theorem dX12_tree_28 : decode cX12_tree 28 = .ok (.iconst 0, 1) := by decide +kernel
theorem dX12_tree_29 : decode cX12_tree 29 = .ok (.putfield 356, 3) := by decide +kernel
theorem dX12_tree_32 : decode cX12_tree 32 = .ok (.aload_n 0, 1) := by decide +kernel
theorem dX12_tree_33 : decode cX12_tree 33 = .ok (.invokevirtual 185, 3) := by decide +kernel
theorem dX12_tree_36 : decode cX12_tree 36 = .ok (.aload_n 0, 1) := by decide +kernel
theorem dX12_tree_37 : decode cX12_tree 37 = .ok (.invokevirtual 362, 3) := by decide +kernel
theorem dX12_tree_40 : decode cX12_tree 40 = .ok (.ifCond .ne 10, 3) := by decide +kernel
theorem dX12_tree_43 : decode cX12_tree 43 = .ok (.iconst (-1), 1) := by decide +kernel
theorem dX12_tree_44 : decode cX12_tree 44 = .ok (.aload_n 0, 1) := by decide +kernel
theorem dX12_tree_45 : decode cX12_tree 45 = .ok (.getfield 176, 3) := by decide +kernel
theorem dX12_tree_48 : decode cX12_tree 48 = .ok (.isub, 1) := by decide +kernel
theorem dX12_tree_49 : decode cX12_tree 49 = .ok (.ireturn, 1) := by decide +kernel
theorem dX12_tree_50 : decode cX12_tree 50 = .ok (.aload_n 0, 1) := by decide +kernel
theorem dX12_tree_51 : decode cX12_tree 51 = .ok (.getfield 33, 3) := by decide +kernel
theorem dX12_tree_54 : decode cX12_tree 54 = .ok (.bipush 49, 2) := by decide +kernel
theorem dX12_tree_56 : decode cX12_tree 56 = .ok (.aload_n 0, 1) := by decide +kernel
theorem dX12_tree_57 : decode cX12_tree 57 = .ok (.getfield 347, 3) := by decide +kernel
theorem dX12_tree_60 : decode cX12_tree 60 = .ok (.iastore, 1) := by decide +kernel
theorem dX12_tree_61 : decode cX12_tree 61 = .ok (.aload_n 0, 1) := by decide +kernel
theorem dX12_tree_62 : decode cX12_tree 62 = .ok (.getfield 33, 3) := by decide +kernel
theorem dX12_tree_65 : decode cX12_tree 65 = .ok (.bipush 50, 2) := by decide +kernel
theorem dX12_tree_67 : decode cX12_tree 67 = .ok (.aload_n 0, 1) := by decide +kernel
theorem dX12_tree_68 : decode cX12_tree 68 = .ok (.getfield 356, 3) := by decide +kernel
theorem dX12_tree_71 : decode cX12_tree 71 = .ok (.iastore, 1) := by decide +kernel
theorem dX12_tree_72 : decode cX12_tree 72 = .ok (.iconst 0, 1) := by decide +kernel
theorem dX12_tree_73 : decode cX12_tree 73 = .ok (.istore_n 1, 1) := by decide +kernel
theorem dX12_tree_74 : decode cX12_tree 74 = .ok (.iload_n 1, 1) := by decide +kernel
theorem dX12_tree_75 : decode cX12_tree 75 = .ok (.iconst 4, 1) := by decide +kernel
theorem dX12_tree_76 : decode cX12_tree 76 = .ok (.aload_n 0, 1) := by decide +kernel
theorem dX12_tree_77 : decode cX12_tree 77 = .ok (.getfield 347, 3) := by decide +kernel
theorem dX12_tree_80 : decode cX12_tree 80 = .ok (.imul, 1) := by decide +kernel
theorem dX12_tree_81 : decode cX12_tree 81 = .ok (.if_icmp .ge 24, 3) := by decide +kernel
theorem dX12_tree_84 : decode cX12_tree 84 = .ok (.aload_n 0, 1) := by decide +kernel
theorem dX12_tree_85 : decode cX12_tree 85 = .ok (.getfield 33, 3) := by decide +kernel
theorem dX12_tree_88 : decode cX12_tree 88 = .ok (.bipush 52, 2) := by decide +kernel
theorem dX12_tree_90 : decode cX12_tree 90 = .ok (.iload_n 1, 1) := by decide +kernel
theorem dX12_tree_91 : decode cX12_tree 91 = .ok (.iadd, 1) := by decide +kernel
theorem dX12_tree_92 : decode cX12_tree 92 = .ok (.aload_n 0, 1) := by decide +kernel
theorem dX12_tree_93 : decode cX12_tree 93 = .ok (.getfield 71, 3) := by decide +kernel
theorem dX12_tree_96 : decode cX12_tree 96 = .ok (.iload_n 1, 1) := by decide +kernel
theorem dX12_tree_97 : decode cX12_tree 97 = .ok (.iaload, 1) := by decide +kernel
theorem dX12_tree_98 : decode cX12_tree 98 = .ok (.iastore, 1) := by decide +kernel
theorem dX12_tree_99 : decode cX12_tree 99 = .ok (.iinc 1 1, 3) := by decide +kernel
theorem dX12_tree_102 : decode cX12_tree 102 = .ok (.goto (-28), 3) := by decide +kernel
theorem dX12_tree_105 : decode cX12_tree 105 = .ok (.aload_n 0, 1) := by decide +kernel
theorem dX12_tree_106 : decode cX12_tree 106 = .ok (.getfield 356, 3) := by decide +kernel
theorem dX12_tree_109 : decode cX12_tree 109 = .ok (.ireturn, 1) := by decide +kernel
abbrev rm_X12_tree : Room := { frames := 5, cells := 0, slots := 0, locals := 108 }
noncomputable def fX12_tree_b74_i (o0 : Nat) (x1 : Int32) (h : z_T) : Option ((Int32 × z_T) ⊕ (Int32 × z_T)) :=
  y_gd (z_ok h o0 11) <|
  y_br (((4 : Int32) * (z_I h o0 35)) ≤ x1)
    (y_mp <|
    some ((z_I h o0 37), h))
    (y_bi (z_R h o0 6) fun o4 =>
    y_bi (z_R h o0 32) fun o5 =>
    y_gd (z_ok h o5 13) <|
    y_gd (z_ix x1 (z_N h o5)) <|
    y_gd (z_ok h o4 13) <|
    y_gd (z_ix ((52 : Int32) + x1) (z_N h o4)) <|
    y_nm (z_sI h o4 ((52 : Int32) + x1).toNatClampNeg (z_I h o5 x1.toNatClampNeg)) fun h10 =>
    y_nm (x1 + 1) fun v11 =>
    some (.inl (v11, h10)))
noncomputable def fX12_tree_b74 (o0 : Nat) (x1 : Int32) (h : z_T) : Option (Int32 × z_T) := y_lp (fun q : Int32 × z_T => fX12_tree_b74_i o0 q.1 q.2) (x1, h)
noncomputable def fX12_tree (o0 : Nat) (h : z_T) : Option (Int32 × z_T) :=
  y_gd (z_ok h o0 11) <|
  y_nm (z_sI h o0 0 (0 : Int32)) fun h13 =>
  y_bi (fX12_taken o0 (400 : Int32) h13) fun h15 =>
  y_gd (z_ok h15 o0 11) <|
  y_nm (z_sI h15 o0 15 (0 : Int32)) fun h17 =>
  y_nm (z_sI h17 o0 35 (0 : Int32)) fun h18 =>
  y_nm (z_sI h18 o0 36 (0 : Int32)) fun h19 =>
  y_nm (z_sI h19 o0 37 (0 : Int32)) fun h20 =>
  y_bi (fX12_go o0 h20) fun h22 =>
  y_gd (z_ok h22 o0 11) <|
  y_bi (fX12_readTree o0 h22) fun ⟨r24, h28⟩ =>
  y_br (r24 = 0)
    (y_gd (z_ok h28 o0 11) <|
    some (((-1 : Int32) - (z_I h28 o0 16)), h28))
    (y_gd (z_ok h28 o0 11) <|
    y_bi (z_R h28 o0 6) fun o32 =>
    y_gd (z_ok h28 o32 13) <|
    y_gd (z_ix (49 : Int32) (z_N h28 o32)) <|
    y_nm (z_sI h28 o32 (49 : Int32).toNatClampNeg (z_I h28 o0 35)) fun h35 =>
    y_gd (z_ix (50 : Int32) (z_N h35 o32)) <|
    y_nm (z_sI h35 o32 (50 : Int32).toNatClampNeg (z_I h35 o0 37)) fun h37 =>
    fX12_tree_b74 o0 (0 : Int32) h37)
set_option maxHeartbeats 4000000 in
set_option maxRecDepth 100000 in
theorem mm_X12_tree {G : z_Gt} {S : State → Prop} (hSK : z_SK S) (l : Launch) (ad : Nat → Nat) (o0 : Nat) (h : z_T) {r0 : Int32} {h9 : z_T} (hv : fX12_tree o0 h = some (r0, h9)) : z_Mi G S l yX12_tree cX12_tree 2 (.int) rm_X12_tree 0 0 [.ref (ad o0)] ad h h9 r0 := by
  refine z_ofW hSK (by decide) (Nat.le_of_ble_eq_true rfl) ?_
  intro p e s m args below meth c ls hc hr hnm hB hl
  have hx := hc.1.1
  have hb := hc.1.2.1
  have hown := hc.1.2.2.2.1
  have hts := hc.1.2.2.2.2
  replace hc : z_C G S ad (z_n h) p m c cX12_tree 2 s args RX12 meth := hc
  replace hown : s.vm.findClass RX12 = some m.cls := hown
  replace hl : lv_has ls 2 [(0, .ref (ad o0))] := hl
  show W p l e rm_X12_tree s m args below meth c s.heap [] 0 0 (MQ below (z_Qi G ad h9 (z_n h) s.heap.size r0) args s 0 0 (z_A ad (z_n h) s.heap.size)) (F0 m 0 ls [])
  obtain ⟨rs, kt⟩ : ∃ rs : Int32 × z_T, rs = (r0, h9) := ⟨_, rfl⟩
  generalize hn0 : z_n h = n0 at hc hB ⊢
  have L74 : ∀ (nn74 : Nat) (x1 : Int32) (h : z_T) (H : Heap) (locs : List Loc) (ls : Array Slot), z_B G ad n0 s h H locs → lv_has ls 2 [(0, .ref (ad o0)), (1, .int x1)] → ∀ vv74, y_lpN (fun q : Int32 × z_T => fX12_tree_b74_i o0 q.1 q.2) nn74 (x1, h) = some vv74 → vv74 = (r0, h9) → W p l e rm_X12_tree s m args below meth c H locs 0 0 (MQ below (z_Qi G ad h9 n0 s.heap.size r0) args s 0 0 (z_A ad n0 s.heap.size)) (F0 m 74 ls []) := by
    intro nn74
    induction nn74 with
    | zero => intro x1 h H locs ls hB hl vv74 hv kv74; exact absurd hv (fun q => y_lpN_0 q)
    | succ nn74 ih74 =>
      intro x1 h H locs ls hB hl vv74 hv kv74
      obtain ⟨w, hq, kw74⟩ := y_lpN_e hv
      clear hv
      have hv : fX12_tree_b74_i o0 x1 h = some w := hq
      clear hq
      refine lv_iload_n hx hb dX12_tree_74 rfl (lv_at hl 1 rfl) ?_
      refine lv_iconst (v := (4 : Int32)) hx hb dX12_tree_75 (by decide) ?_
      refine lv_aload_n hx hb dX12_tree_76 rfl (lv_at hl 0 rfl) ?_
      obtain ⟨g1, hv⟩ := y_gd_e hv
      refine z_getI hc hB 11 35 g1 (by decide) (by decide) rfl (z_l1 hc qfX12_347) dX12_tree_77 ?_
      refine lv_imul hx hb dX12_tree_80 ?_
      refine lv_icmp_ge (tgt := 105) hx hb dX12_tree_81 (by decide) (fun c2 => ?_) (fun c2 => ?_)
      · replace hv := y_br_t hv c2
        obtain ⟨t3, hq, ew⟩ := y_mp_e hv
        clear hv; subst ew
        replace kw74 : t3 = _ := kw74
        subst kw74
        have hv := hq
        clear hq
        refine lv_aload_n hx hb dX12_tree_105 rfl (lv_at hl 0 rfl) ?_
        refine z_getI hc hB 11 37 g1 (by decide) (by decide) rfl (z_l1 hc qfX12_356) dX12_tree_106 ?_
        replace hv := Option.some.inj hv
        subst hv
        obtain ⟨e1, e2⟩ := y_pr kv74
        rw [← e1, ← e2]
        exact z_iret hc hB hr dX12_tree_109
      · replace hv := y_br_f hv c2
        refine lv_aload_n hx hb dX12_tree_84 rfl (lv_at hl 0 rfl) ?_
        obtain ⟨o4, eo4, hv⟩ := y_bi_e hv
        refine z_getR hc hB 11 6 g1 eo4 (by decide) (by decide) rfl (z_l1 hc qfX12_33) dX12_tree_85 ?_
        refine lv_bipush (v := (52 : Int32)) hx hb dX12_tree_88 (by decide) ?_
        refine lv_iload_n hx hb dX12_tree_90 rfl (lv_at hl 1 rfl) ?_
        refine lv_iadd hx hb dX12_tree_91 ?_
        refine lv_aload_n hx hb dX12_tree_92 rfl (lv_at hl 0 rfl) ?_
        obtain ⟨o5, eo5, hv⟩ := y_bi_e hv
        refine z_getR hc hB 11 32 g1 eo5 (by decide) (by decide) rfl (z_l1 hc qfX12_71) dX12_tree_93 ?_
        refine lv_iload_n hx hb dX12_tree_96 rfl (lv_at hl 1 rfl) ?_
        obtain ⟨g6, hv⟩ := y_gd_e hv
        obtain ⟨i7, hv⟩ := y_gd_e hv
        refine z_iald hc hB g6 i7 dX12_tree_97 ?_
        obtain ⟨g8, hv⟩ := y_gd_e hv
        obtain ⟨i9, hv⟩ := y_gd_e hv
        obtain ⟨h10, eh10, hv⟩ := y_nm_e hv
        refine y_iast hc hB eh10 g8 i9 dX12_tree_98 (fun H locs hB => ?_)
        obtain ⟨v11, ev11, hv⟩ := y_nm_e hv
        refine lv_iinc (v := v11) (lv' := [(1, .int v11), (0, .ref (ad o0))]) hx hb dX12_tree_99 hl (k := 1) rfl (by rw [ev11]; rfl) (by decide) rfl (fun ls hl => ?_)
        refine lv_goto (tgt := 74) hx hb dX12_tree_102 (by decide) ?_
        replace hv := Option.some.inj hv
        subst hv
        exact ih74 v11 h10 _ _ _ hB (lv_sub hl [1, 0] rfl) _ kw74 kv74
  rw [← kt] at hv
  refine lv_aload_n hx hb dX12_tree_0 rfl (lv_at hl 0 rfl) ?_
  refine lv_iconst (v := (0 : Int32)) hx hb dX12_tree_1 (by decide) ?_
  obtain ⟨g12, hv⟩ := y_gd_e hv
  obtain ⟨h13, eh13, hv⟩ := y_nm_e hv
  refine y_putI hc hB 11 0 eh13 g12 (z_l1 hc qfX12_1) dX12_tree_2 (by decide) (by decide) rfl rfl rfl rfl (fun H locs hB => ?_)
  refine lv_aload_n hx hb dX12_tree_5 rfl (lv_at hl 0 rfl) ?_
  refine lv_sipush (v := (400 : Int32)) hx hb dX12_tree_6 (by decide) ?_
  obtain ⟨h15, c14, hv⟩ := y_bi_e hv
  refine z_thV hc hB (z_runV hc hB 11 (mm_X12_taken hSK l ad o0 (400 : Int32) h13 c14) md_X12_taken qmX12_226 (by rw [eh13]; exact g12) (by decide) rfl rfl rfl ⟨Nat.le_of_ble_eq_true rfl, Nat.le_of_ble_eq_true rfl⟩ rfl hl.1 rfl (Nat.le_of_ble_eq_true rfl) dX12_tree_9 ⟨Nat.le_of_ble_eq_true rfl, Nat.le_of_ble_eq_true rfl⟩) (fun H locs hB => ?_)
  refine lv_aload_n hx hb dX12_tree_12 rfl (lv_at hl 0 rfl) ?_
  refine lv_iconst (v := (0 : Int32)) hx hb dX12_tree_13 (by decide) ?_
  obtain ⟨g16, hv⟩ := y_gd_e hv
  obtain ⟨h17, eh17, hv⟩ := y_nm_e hv
  refine y_putI hc hB 11 15 eh17 g16 (z_l1 hc qfX12_173) dX12_tree_14 (by decide) (by decide) rfl rfl rfl rfl (fun H locs hB => ?_)
  refine lv_aload_n hx hb dX12_tree_17 rfl (lv_at hl 0 rfl) ?_
  refine lv_iconst (v := (0 : Int32)) hx hb dX12_tree_18 (by decide) ?_
  obtain ⟨h18, eh18, hv⟩ := y_nm_e hv
  refine y_putI hc hB 11 35 eh18 (by rw [eh17]; exact g16) (z_l1 hc qfX12_347) dX12_tree_19 (by decide) (by decide) rfl rfl rfl rfl (fun H locs hB => ?_)
  refine lv_aload_n hx hb dX12_tree_22 rfl (lv_at hl 0 rfl) ?_
  refine lv_iconst (v := (0 : Int32)) hx hb dX12_tree_23 (by decide) ?_
  obtain ⟨h19, eh19, hv⟩ := y_nm_e hv
  refine y_putI hc hB 11 36 eh19 (by rw [eh18, eh17]; exact g16) (z_l1 hc qfX12_350) dX12_tree_24 (by decide) (by decide) rfl rfl rfl rfl (fun H locs hB => ?_)
  refine lv_aload_n hx hb dX12_tree_27 rfl (lv_at hl 0 rfl) ?_
  refine lv_iconst (v := (0 : Int32)) hx hb dX12_tree_28 (by decide) ?_
  obtain ⟨h20, eh20, hv⟩ := y_nm_e hv
  refine y_putI hc hB 11 37 eh20 (by rw [eh19, eh18, eh17]; exact g16) (z_l1 hc qfX12_356) dX12_tree_29 (by decide) (by decide) rfl rfl rfl rfl (fun H locs hB => ?_)
  refine lv_aload_n hx hb dX12_tree_32 rfl (lv_at hl 0 rfl) ?_
  obtain ⟨h22, c21, hv⟩ := y_bi_e hv
  refine z_thV hc hB (z_runV hc hB 11 (mm_X12_go hSK l ad o0 h20 c21) md_X12_go qmX12_185 (by rw [eh20, eh19, eh18, eh17]; exact g16) (by decide) rfl rfl rfl ⟨Nat.le_of_ble_eq_true rfl, Nat.le_of_ble_eq_true rfl⟩ rfl hl.1 rfl (Nat.le_of_ble_eq_true rfl) dX12_tree_33 ⟨Nat.le_of_ble_eq_true rfl, Nat.le_of_ble_eq_true rfl⟩) (fun H locs hB => ?_)
  refine lv_aload_n hx hb dX12_tree_36 rfl (lv_at hl 0 rfl) ?_
  obtain ⟨g29, hv⟩ := y_gd_e hv
  obtain ⟨⟨r24, h28⟩, c23, hv⟩ := y_bi_e hv
  refine z_thI hc hB (z_runV hc hB 11 (mm_X12_readTree hSK l ad o0 h22 c23) md_X12_readTree qmX12_362 g29 (by decide) rfl rfl rfl ⟨Nat.le_of_ble_eq_true rfl, Nat.le_of_ble_eq_true rfl⟩ rfl hl.1 rfl (Nat.le_of_ble_eq_true rfl) dX12_tree_37 ⟨Nat.le_of_ble_eq_true rfl, Nat.le_of_ble_eq_true rfl⟩) (fun H locs hB => ?_)
  refine lv_if_ne (tgt := 50) hx hb dX12_tree_40 (by decide) (fun c30 => ?_) (fun c30 => ?_)
  · replace hv := y_br_f hv c30
    refine lv_aload_n hx hb dX12_tree_50 rfl (lv_at hl 0 rfl) ?_
    obtain ⟨g31, hv⟩ := y_gd_e hv
    obtain ⟨o32, eo32, hv⟩ := y_bi_e hv
    refine z_getR hc hB 11 6 g31 eo32 (by decide) (by decide) rfl (z_l1 hc qfX12_33) dX12_tree_51 ?_
    refine lv_bipush (v := (49 : Int32)) hx hb dX12_tree_54 (by decide) ?_
    refine lv_aload_n hx hb dX12_tree_56 rfl (lv_at hl 0 rfl) ?_
    refine z_getI hc hB 11 35 g31 (by decide) (by decide) rfl (z_l1 hc qfX12_347) dX12_tree_57 ?_
    obtain ⟨g33, hv⟩ := y_gd_e hv
    obtain ⟨i34, hv⟩ := y_gd_e hv
    obtain ⟨h35, eh35, hv⟩ := y_nm_e hv
    refine y_iast hc hB eh35 g33 i34 dX12_tree_60 (fun H locs hB => ?_)
    refine lv_aload_n hx hb dX12_tree_61 rfl (lv_at hl 0 rfl) ?_
    refine z_getR hc hB 11 6 (by rw [eh35]; exact g31) (by rw [eh35]; exact eo32) (by decide) (by decide) rfl (z_l1 hc qfX12_33) dX12_tree_62 ?_
    refine lv_bipush (v := (50 : Int32)) hx hb dX12_tree_65 (by decide) ?_
    refine lv_aload_n hx hb dX12_tree_67 rfl (lv_at hl 0 rfl) ?_
    refine z_getI hc hB 11 37 (by rw [eh35]; exact g31) (by decide) (by decide) rfl (z_l1 hc qfX12_356) dX12_tree_68 ?_
    obtain ⟨i36, hv⟩ := y_gd_e hv
    obtain ⟨h37, eh37, hv⟩ := y_nm_e hv
    refine y_iast hc hB eh37 (by rw [eh35]; exact g33) i36 dX12_tree_71 (fun H locs hB => ?_)
    refine lv_iconst (v := (0 : Int32)) hx hb dX12_tree_72 (by decide) ?_
    refine lv_istore_n (lv' := [(1, .int (0 : Int32)), (0, .ref (ad o0))]) hx hb dX12_tree_73 rfl hl (by decide) rfl (fun ls hl => ?_)
    obtain ⟨n, hv⟩ := y_lp_e hv
    exact L74 n (0 : Int32) h37 _ _ _ hB (lv_sub hl [1, 0] rfl) _ hv kt
  · replace hv := y_br_t hv c30
    refine lv_iconst (v := (-1 : Int32)) hx hb dX12_tree_43 (by decide) ?_
    refine lv_aload_n hx hb dX12_tree_44 rfl (lv_at hl 0 rfl) ?_
    obtain ⟨g38, hv⟩ := y_gd_e hv
    refine z_getI hc hB 11 16 g38 (by decide) (by decide) rfl (z_l1 hc qfX12_176) dX12_tree_45 ?_
    refine lv_isub hx hb dX12_tree_48 ?_
    replace hv := Option.some.inj hv
    subst hv
    obtain ⟨e1, e2⟩ := y_pr kt
    rw [← e1, ← e2]
    exact z_iret hc hB hr dX12_tree_49
theorem dX12_endCost_0 : decode cX12_endCost 0 = .ok (.lconst 0, 1) := by decide +kernel
theorem dX12_endCost_1 : decode cX12_endCost 1 = .ok (.lstore_n 2, 1) := by decide +kernel
theorem dX12_endCost_2 : decode cX12_endCost 2 = .ok (.lconst 0, 1) := by decide +kernel
theorem dX12_endCost_3 : decode cX12_endCost 3 = .ok (.lstore 4, 2) := by decide +kernel
theorem dX12_endCost_5 : decode cX12_endCost 5 = .ok (.iconst 0, 1) := by decide +kernel
theorem dX12_endCost_6 : decode cX12_endCost 6 = .ok (.istore 6, 2) := by decide +kernel
theorem dX12_endCost_8 : decode cX12_endCost 8 = .ok (.iconst 0, 1) := by decide +kernel
theorem dX12_endCost_9 : decode cX12_endCost 9 = .ok (.istore 7, 2) := by decide +kernel
theorem dX12_endCost_11 : decode cX12_endCost 11 = .ok (.iload 7, 2) := by decide +kernel
theorem dX12_endCost_13 : decode cX12_endCost 13 = .ok (.aload_n 0, 1) := by decide +kernel
theorem dX12_endCost_14 : decode cX12_endCost 14 = .ok (.invokevirtual 253, 3) := by decide +kernel
theorem dX12_endCost_17 : decode cX12_endCost 17 = .ok (.if_icmp .ge 156, 3) := by decide +kernel
theorem dX12_endCost_20 : decode cX12_endCost 20 = .ok (.aload_n 0, 1) := by decide +kernel
theorem dX12_endCost_21 : decode cX12_endCost 21 = .ok (.iload 7, 2) := by decide +kernel
theorem dX12_endCost_23 : decode cX12_endCost 23 = .ok (.invokevirtual 256, 3) := by decide +kernel
theorem dX12_endCost_26 : decode cX12_endCost 26 = .ok (.i2l, 1) := by decide +kernel
theorem dX12_endCost_27 : decode cX12_endCost 27 = .ok (.lstore 8, 2) := by decide +kernel
theorem dX12_endCost_29 : decode cX12_endCost 29 = .ok (.iconst 0, 1) := by decide +kernel
theorem dX12_endCost_30 : decode cX12_endCost 30 = .ok (.istore 6, 2) := by decide +kernel
theorem dX12_endCost_32 : decode cX12_endCost 32 = .ok (.iload_n 1, 1) := by decide +kernel
theorem dX12_endCost_33 : decode cX12_endCost 33 = .ok (.istore 10, 2) := by decide +kernel
theorem dX12_endCost_35 : decode cX12_endCost 35 = .ok (.aload_n 0, 1) := by decide +kernel
theorem dX12_endCost_36 : decode cX12_endCost 36 = .ok (.getfield 33, 3) := by decide +kernel
theorem dX12_endCost_39 : decode cX12_endCost 39 = .ok (.bipush 52, 2) := by decide +kernel
theorem dX12_endCost_41 : decode cX12_endCost 41 = .ok (.iconst 4, 1) := by decide +kernel
theorem dX12_endCost_42 : decode cX12_endCost 42 = .ok (.iload_n 1, 1) := by decide +kernel
theorem dX12_endCost_43 : decode cX12_endCost 43 = .ok (.imul, 1) := by decide +kernel
theorem dX12_endCost_44 : decode cX12_endCost 44 = .ok (.iadd, 1) := by decide +kernel
theorem dX12_endCost_45 : decode cX12_endCost 45 = .ok (.iconst 3, 1) := by decide +kernel
theorem dX12_endCost_46 : decode cX12_endCost 46 = .ok (.iadd, 1) := by decide +kernel
theorem dX12_endCost_47 : decode cX12_endCost 47 = .ok (.iaload, 1) := by decide +kernel
theorem dX12_endCost_48 : decode cX12_endCost 48 = .ok (.istore 11, 2) := by decide +kernel
theorem dX12_endCost_50 : decode cX12_endCost 50 = .ok (.iload 11, 2) := by decide +kernel
theorem dX12_endCost_52 : decode cX12_endCost 52 = .ok (.ifCond .lt 85, 3) := by decide +kernel
theorem dX12_endCost_55 : decode cX12_endCost 55 = .ok (.aload_n 0, 1) := by decide +kernel
theorem dX12_endCost_56 : decode cX12_endCost 56 = .ok (.iload 7, 2) := by decide +kernel
theorem dX12_endCost_58 : decode cX12_endCost 58 = .ok (.aload_n 0, 1) := by decide +kernel
theorem dX12_endCost_59 : decode cX12_endCost 59 = .ok (.getfield 33, 3) := by decide +kernel
theorem dX12_endCost_62 : decode cX12_endCost 62 = .ok (.bipush 52, 2) := by decide +kernel
theorem dX12_endCost_64 : decode cX12_endCost 64 = .ok (.iconst 4, 1) := by decide +kernel
theorem dX12_endCost_65 : decode cX12_endCost 65 = .ok (.iload 11, 2) := by decide +kernel
theorem dX12_endCost_67 : decode cX12_endCost 67 = .ok (.imul, 1) := by decide +kernel
theorem dX12_endCost_68 : decode cX12_endCost 68 = .ok (.iadd, 1) := by decide +kernel
theorem dX12_endCost_69 : decode cX12_endCost 69 = .ok (.iaload, 1) := by decide +kernel
theorem dX12_endCost_70 : decode cX12_endCost 70 = .ok (.invokevirtual 250, 3) := by decide +kernel
theorem dX12_endCost_73 : decode cX12_endCost 73 = .ok (.istore 12, 2) := by decide +kernel
theorem dX12_endCost_75 : decode cX12_endCost 75 = .ok (.lload 8, 2) := by decide +kernel
theorem dX12_endCost_77 : decode cX12_endCost 77 = .ok (.aload_n 0, 1) := by decide +kernel
theorem dX12_endCost_78 : decode cX12_endCost 78 = .ok (.getfield 33, 3) := by decide +kernel
theorem dX12_endCost_81 : decode cX12_endCost 81 = .ok (.bipush 52, 2) := by decide +kernel
theorem dX12_endCost_83 : decode cX12_endCost 83 = .ok (.iconst 4, 1) := by decide +kernel
theorem dX12_endCost_84 : decode cX12_endCost 84 = .ok (.iload 11, 2) := by decide +kernel
theorem dX12_endCost_86 : decode cX12_endCost 86 = .ok (.imul, 1) := by decide +kernel
theorem dX12_endCost_87 : decode cX12_endCost 87 = .ok (.iadd, 1) := by decide +kernel
theorem dX12_endCost_88 : decode cX12_endCost 88 = .ok (.iconst 1, 1) := by decide +kernel
theorem dX12_endCost_89 : decode cX12_endCost 89 = .ok (.iadd, 1) := by decide +kernel
theorem dX12_endCost_90 : decode cX12_endCost 90 = .ok (.iaload, 1) := by decide +kernel
theorem dX12_endCost_91 : decode cX12_endCost 91 = .ok (.iload 10, 2) := by decide +kernel
theorem dX12_endCost_93 : decode cX12_endCost 93 = .ok (.if_icmp .ne 9, 3) := by decide +kernel
theorem dX12_endCost_96 : decode cX12_endCost 96 = .ok (.iload 12, 2) := by decide +kernel
theorem dX12_endCost_98 : decode cX12_endCost 98 = .ok (.i2l, 1) := by decide +kernel
theorem dX12_endCost_99 : decode cX12_endCost 99 = .ok (.goto 9, 3) := by decide +kernel
theorem dX12_endCost_102 : decode cX12_endCost 102 = .ok (.bipush 9, 2) := by decide +kernel
theorem dX12_endCost_104 : decode cX12_endCost 104 = .ok (.iload 12, 2) := by decide +kernel
theorem dX12_endCost_106 : decode cX12_endCost 106 = .ok (.isub, 1) := by decide +kernel
theorem dX12_endCost_107 : decode cX12_endCost 107 = .ok (.i2l, 1) := by decide +kernel
theorem dX12_endCost_108 : decode cX12_endCost 108 = .ok (.lmul, 1) := by decide +kernel
theorem dX12_endCost_109 : decode cX12_endCost 109 = .ok (.lstore 8, 2) := by decide +kernel
theorem dX12_endCost_111 : decode cX12_endCost 111 = .ok (.iinc 6 1, 3) := by decide +kernel
theorem dX12_endCost_114 : decode cX12_endCost 114 = .ok (.iload 11, 2) := by decide +kernel
theorem dX12_endCost_116 : decode cX12_endCost 116 = .ok (.istore 10, 2) := by decide +kernel
theorem dX12_endCost_118 : decode cX12_endCost 118 = .ok (.aload_n 0, 1) := by decide +kernel
theorem dX12_endCost_119 : decode cX12_endCost 119 = .ok (.getfield 33, 3) := by decide +kernel
theorem dX12_endCost_122 : decode cX12_endCost 122 = .ok (.bipush 52, 2) := by decide +kernel
theorem dX12_endCost_124 : decode cX12_endCost 124 = .ok (.iconst 4, 1) := by decide +kernel
theorem dX12_endCost_125 : decode cX12_endCost 125 = .ok (.iload 11, 2) := by decide +kernel
theorem dX12_endCost_127 : decode cX12_endCost 127 = .ok (.imul, 1) := by decide +kernel
theorem dX12_endCost_128 : decode cX12_endCost 128 = .ok (.iadd, 1) := by decide +kernel
theorem dX12_endCost_129 : decode cX12_endCost 129 = .ok (.iconst 3, 1) := by decide +kernel
theorem dX12_endCost_130 : decode cX12_endCost 130 = .ok (.iadd, 1) := by decide +kernel
theorem dX12_endCost_131 : decode cX12_endCost 131 = .ok (.iaload, 1) := by decide +kernel
theorem dX12_endCost_132 : decode cX12_endCost 132 = .ok (.istore 11, 2) := by decide +kernel
theorem dX12_endCost_134 : decode cX12_endCost 134 = .ok (.goto (-84), 3) := by decide +kernel
theorem dX12_endCost_137 : decode cX12_endCost 137 = .ok (.lload_n 2, 1) := by decide +kernel
theorem dX12_endCost_138 : decode cX12_endCost 138 = .ok (.iload 7, 2) := by decide +kernel
theorem dX12_endCost_140 : decode cX12_endCost 140 = .ok (.ifCond .ne 8, 3) := by decide +kernel
theorem dX12_endCost_143 : decode cX12_endCost 143 = .ok (.lload 8, 2) := by decide +kernel
theorem dX12_endCost_145 : decode cX12_endCost 145 = .ok (.goto 4, 3) := by decide +kernel
theorem dX12_endCost_148 : decode cX12_endCost 148 = .ok (.lconst 0, 1) := by decide +kernel
theorem dX12_endCost_149 : decode cX12_endCost 149 = .ok (.ladd, 1) := by decide +kernel
theorem dX12_endCost_150 : decode cX12_endCost 150 = .ok (.lstore_n 2, 1) := by decide +kernel
theorem dX12_endCost_151 : decode cX12_endCost 151 = .ok (.lload 4, 2) := by decide +kernel
theorem dX12_endCost_153 : decode cX12_endCost 153 = .ok (.iload 7, 2) := by decide +kernel
theorem dX12_endCost_155 : decode cX12_endCost 155 = .ok (.ifCond .le 8, 3) := by decide +kernel
theorem dX12_endCost_158 : decode cX12_endCost 158 = .ok (.lload 8, 2) := by decide +kernel
theorem dX12_endCost_160 : decode cX12_endCost 160 = .ok (.goto 4, 3) := by decide +kernel
theorem dX12_endCost_163 : decode cX12_endCost 163 = .ok (.lconst 0, 1) := by decide +kernel
theorem dX12_endCost_164 : decode cX12_endCost 164 = .ok (.ladd, 1) := by decide +kernel
theorem dX12_endCost_165 : decode cX12_endCost 165 = .ok (.lstore 4, 2) := by decide +kernel
theorem dX12_endCost_167 : decode cX12_endCost 167 = .ok (.iinc 7 1, 3) := by decide +kernel
theorem dX12_endCost_170 : decode cX12_endCost 170 = .ok (.goto (-159), 3) := by decide +kernel
theorem dX12_endCost_173 : decode cX12_endCost 173 = .ok (.aload_n 0, 1) := by decide +kernel
theorem dX12_endCost_174 : decode cX12_endCost 174 = .ok (.getfield 33, 3) := by decide +kernel
theorem dX12_endCost_177 : decode cX12_endCost 177 = .ok (.bipush 52, 2) := by decide +kernel
theorem dX12_endCost_179 : decode cX12_endCost 179 = .ok (.iconst 4, 1) := by decide +kernel
theorem dX12_endCost_180 : decode cX12_endCost 180 = .ok (.iload_n 1, 1) := by decide +kernel
theorem dX12_endCost_181 : decode cX12_endCost 181 = .ok (.imul, 1) := by decide +kernel
theorem dX12_endCost_182 : decode cX12_endCost 182 = .ok (.iadd, 1) := by decide +kernel
theorem dX12_endCost_183 : decode cX12_endCost 183 = .ok (.iaload, 1) := by decide +kernel
theorem dX12_endCost_184 : decode cX12_endCost 184 = .ok (.iconst (-1), 1) := by decide +kernel
theorem dX12_endCost_185 : decode cX12_endCost 185 = .ok (.if_icmp .ne 17, 3) := by decide +kernel
theorem dX12_endCost_188 : decode cX12_endCost 188 = .ok (.aload_n 0, 1) := by decide +kernel
theorem dX12_endCost_189 : decode cX12_endCost 189 = .ok (.getfield 33, 3) := by decide +kernel
theorem dX12_endCost_192 : decode cX12_endCost 192 = .ok (.bipush 6, 2) := by decide +kernel
theorem dX12_endCost_194 : decode cX12_endCost 194 = .ok (.iaload, 1) := by decide +kernel
theorem dX12_endCost_195 : decode cX12_endCost 195 = .ok (.i2l, 1) := by decide +kernel
theorem dX12_endCost_196 : decode cX12_endCost 196 = .ok (.lload 4, 2) := by decide +kernel
theorem dX12_endCost_198 : decode cX12_endCost 198 = .ok (.lmul, 1) := by decide +kernel
theorem dX12_endCost_199 : decode cX12_endCost 199 = .ok (.goto 12, 3) := by decide +kernel
theorem dX12_endCost_202 : decode cX12_endCost 202 = .ok (.aload_n 0, 1) := by decide +kernel
theorem dX12_endCost_203 : decode cX12_endCost 203 = .ok (.getfield 33, 3) := by decide +kernel
theorem dX12_endCost_206 : decode cX12_endCost 206 = .ok (.iconst 5, 1) := by decide +kernel
theorem dX12_endCost_207 : decode cX12_endCost 207 = .ok (.iaload, 1) := by decide +kernel
theorem dX12_endCost_208 : decode cX12_endCost 208 = .ok (.i2l, 1) := by decide +kernel
theorem dX12_endCost_209 : decode cX12_endCost 209 = .ok (.lload_n 2, 1) := by decide +kernel
theorem dX12_endCost_210 : decode cX12_endCost 210 = .ok (.lmul, 1) := by decide +kernel
theorem dX12_endCost_211 : decode cX12_endCost 211 = .ok (.aload_n 0, 1) := by decide +kernel
theorem dX12_endCost_212 : decode cX12_endCost 212 = .ok (.bipush 9, 2) := by decide +kernel
theorem dX12_endCost_214 : decode cX12_endCost 214 = .ok (.iconst 4, 1) := by decide +kernel
theorem dX12_endCost_215 : decode cX12_endCost 215 = .ok (.iload 6, 2) := by decide +kernel
theorem dX12_endCost_217 : decode cX12_endCost 217 = .ok (.isub, 1) := by decide +kernel
theorem dX12_endCost_218 : decode cX12_endCost 218 = .ok (.invokevirtual 307, 3) := by decide +kernel
theorem dX12_endCost_221 : decode cX12_endCost 221 = .ok (.lmul, 1) := by decide +kernel
theorem dX12_endCost_222 : decode cX12_endCost 222 = .ok (.lreturn, 1) := by decide +kernel
abbrev rm_X12_endCost : Room := { frames := 2, cells := 0, slots := 0, locals := 43 }
noncomputable def fX12_endCost_b211 (o0 : Nat) (x6 : Int32) (s0 : Int64) (h : z_T) : Option (Int64) :=
  y_gd (z_ok h o0 11) <|
  y_bi (fX12_power o0 (9 : Int32) ((4 : Int32) - x6)) fun r3 =>
  some (s0 * r3)
noncomputable def fX12_endCost_b164 (o0 : Nat) (x1 : Int32) (l2 : Int64) (x6 : Int32) (x7 : Int32) (s0 : Int64) (s1 : Int64) (h : z_T) : Option ((Int64 × Int64 × Int32 × Int32) ⊕ (Int64)) :=
  y_nm ((s0 + s1)) fun v7 =>
  y_nm (x7 + 1) fun v8 =>
  some (.inl (l2, v7, x6, v8))
noncomputable def fX12_endCost_b149 (o0 : Nat) (x1 : Int32) (l4 : Int64) (x6 : Int32) (x7 : Int32) (l8 : Int64) (s0 : Int64) (s1 : Int64) (h : z_T) : Option ((Int64 × Int64 × Int32 × Int32) ⊕ (Int64)) :=
  y_nm ((s0 + s1)) fun v9 =>
  y_br (x7 ≤ 0)
    (fX12_endCost_b164 o0 x1 v9 x6 x7 l4 (0 : Int64) h)
    (fX12_endCost_b164 o0 x1 v9 x6 x7 l4 l8 h)
noncomputable def fX12_endCost_b108 (o0 : Nat) (x1 : Int32) (l2 : Int64) (l4 : Int64) (x6 : Int32) (x7 : Int32) (x11 : Int32) (s0 : Int64) (s1 : Int64) (h : z_T) : Option ((Int32 × Int64 × Int32 × Int32) ⊕ ((Int64 × Int64 × Int32 × Int32) ⊕ (Int64))) :=
  y_nm ((s0 * s1)) fun v11 =>
  y_nm (x6 + 1) fun v12 =>
  y_gd (z_ok h o0 11) <|
  y_bi (z_R h o0 6) fun o14 =>
  y_gd (z_ok h o14 13) <|
  y_gd (z_ix (((52 : Int32) + ((4 : Int32) * x11)) + (3 : Int32)) (z_N h o14)) <|
  y_nm ((z_I h o14 (((52 : Int32) + ((4 : Int32) * x11)) + (3 : Int32)).toNatClampNeg)) fun v17 =>
  some (.inl (v12, v11, x11, v17))
noncomputable def fX12_endCost_b50_i (o0 : Nat) (x1 : Int32) (l2 : Int64) (l4 : Int64) (x7 : Int32) (h : z_T) (x6 : Int32) (l8 : Int64) (x10 : Int32) (x11 : Int32) : Option ((Int32 × Int64 × Int32 × Int32) ⊕ ((Int64 × Int64 × Int32 × Int32) ⊕ (Int64))) :=
  y_br (x11 < 0)
    (y_mp <|
    y_br (x7 = 0)
      (fX12_endCost_b149 o0 x1 l4 x6 x7 l8 l2 l8 h)
      (fX12_endCost_b149 o0 x1 l4 x6 x7 l8 l2 (0 : Int64) h))
    (y_gd (z_ok h o0 11) <|
    y_bi (z_R h o0 6) fun o22 =>
    y_gd (z_ok h o22 13) <|
    y_gd (z_ix ((52 : Int32) + ((4 : Int32) * x11)) (z_N h o22)) <|
    y_bi (fX12_plain o0 x7 (z_I h o22 ((52 : Int32) + ((4 : Int32) * x11)).toNatClampNeg) h) fun r26 =>
    y_gd (z_ix (((52 : Int32) + ((4 : Int32) * x11)) + (1 : Int32)) (z_N h o22)) <|
    y_br ((z_I h o22 (((52 : Int32) + ((4 : Int32) * x11)) + (1 : Int32)).toNatClampNeg) = x10)
      (fX12_endCost_b108 o0 x1 l2 l4 x6 x7 x11 l8 ((r26).toInt64) h)
      (fX12_endCost_b108 o0 x1 l2 l4 x6 x7 x11 l8 ((((9 : Int32) - r26)).toInt64) h))
noncomputable def fX12_endCost_b50 (o0 : Nat) (x1 : Int32) (l2 : Int64) (l4 : Int64) (x6 : Int32) (x7 : Int32) (l8 : Int64) (x10 : Int32) (x11 : Int32) (h : z_T) : Option ((Int64 × Int64 × Int32 × Int32) ⊕ (Int64)) := y_lp (fun q : Int32 × Int64 × Int32 × Int32 => fX12_endCost_b50_i o0 x1 l2 l4 x7 h q.1 q.2.1 q.2.2.1 q.2.2.2) (x6, l8, x10, x11)
noncomputable def fX12_endCost_b11_i (o0 : Nat) (x1 : Int32) (h : z_T) (l2 : Int64) (l4 : Int64) (x6 : Int32) (x7 : Int32) : Option ((Int64 × Int64 × Int32 × Int32) ⊕ (Int64)) :=
  y_gd (z_ok h o0 11) <|
  y_bi (fX12_places o0 h) fun r33 =>
  y_br (r33 ≤ x7)
    (y_mp <|
    y_bi (z_R h o0 6) fun o40 =>
    y_gd (z_ok h o40 13) <|
    y_gd (z_ix ((52 : Int32) + ((4 : Int32) * x1)) (z_N h o40)) <|
    y_br ((z_I h o40 ((52 : Int32) + ((4 : Int32) * x1)).toNatClampNeg) = (-1 : Int32))
      (y_gd (z_ix (6 : Int32) (z_N h o40)) <|
      fX12_endCost_b211 o0 x6 (((z_I h o40 (6 : Int32).toNatClampNeg)).toInt64 * l4) h)
      (y_gd (z_ix (5 : Int32) (z_N h o40)) <|
      fX12_endCost_b211 o0 x6 (((z_I h o40 (5 : Int32).toNatClampNeg)).toInt64 * l2) h))
    (y_bi (fX12_weightOf o0 x7 h) fun r47 =>
    y_nm ((r47).toInt64) fun v51 =>
    y_bi (z_R h o0 6) fun o52 =>
    y_gd (z_ok h o52 13) <|
    y_gd (z_ix (((52 : Int32) + ((4 : Int32) * x1)) + (3 : Int32)) (z_N h o52)) <|
    y_nm ((z_I h o52 (((52 : Int32) + ((4 : Int32) * x1)) + (3 : Int32)).toNatClampNeg)) fun v55 =>
    fX12_endCost_b50 o0 x1 l2 l4 (0 : Int32) x7 v51 x1 v55 h)
noncomputable def fX12_endCost_b11 (o0 : Nat) (x1 : Int32) (l2 : Int64) (l4 : Int64) (x6 : Int32) (x7 : Int32) (h : z_T) : Option (Int64) := y_lp (fun q : Int64 × Int64 × Int32 × Int32 => fX12_endCost_b11_i o0 x1 h q.1 q.2.1 q.2.2.1 q.2.2.2) (l2, l4, x6, x7)
noncomputable def fX12_endCost (o0 : Nat) (x1 : Int32) (h : z_T) : Option (Int64) :=
  fX12_endCost_b11 o0 x1 (0 : Int64) (0 : Int64) (0 : Int32) (0 : Int32) h
set_option maxHeartbeats 4000000 in
set_option maxRecDepth 100000 in
theorem mm_X12_endCost {G : z_Gt} {S : State → Prop} (hSK : z_SK S) (l : Launch) (ad : Nat → Nat) (o0 : Nat) (x1 : Int32) (h : z_T) {r0 : Int64} (hv : fX12_endCost o0 x1 h = some r0) : z_Ml G S l yX12_endCost cX12_endCost 13 (.long) rm_X12_endCost 0 0 [.ref (ad o0), .int x1] ad h h r0 := by
  refine z_ofW hSK (by decide) (Nat.le_of_ble_eq_true rfl) ?_
  intro p e s m args below meth c ls hc hr hnm hB hl
  have hx := hc.1.1
  have hb := hc.1.2.1
  have hown := hc.1.2.2.2.1
  have hts := hc.1.2.2.2.2
  replace hc : z_C G S ad (z_n h) p m c cX12_endCost 13 s args RX12 meth := hc
  replace hown : s.vm.findClass RX12 = some m.cls := hown
  replace hl : lv_has ls 13 [(0, .ref (ad o0)), (1, .int x1)] := hl
  show W p l e rm_X12_endCost s m args below meth c s.heap [] 0 0 (MQ below (z_Ql G ad h (z_n h) s.heap.size r0) args s 0 0 (z_A ad (z_n h) s.heap.size)) (F0 m 0 ls [])
  obtain ⟨rs, kt⟩ : ∃ rs : Int64, rs = r0 := ⟨_, rfl⟩
  generalize hn0 : z_n h = n0 at hc hB ⊢
  have b211 : ∀ (x6 : Int32) (s0 : Int64) (H : Heap) (locs : List Loc) (ls : Array Slot), z_B G ad n0 s h H locs → lv_has ls 13 [(0, .ref (ad o0)), (6, .int x6)] → ∀ w, fX12_endCost_b211 o0 x6 s0 h = some w → w = r0 → W p l e rm_X12_endCost s m args below meth c H locs 0 0 (MQ below (z_Ql G ad h n0 s.heap.size r0) args s 0 0 (z_A ad n0 s.heap.size)) (F0 m 211 ls [.long s0]) := by
    intro x6 s0 H locs ls hB hl w hv kb
    refine lv_aload_n hx hb dX12_endCost_211 rfl (lv_at hl 0 rfl) ?_
    refine lv_bipush (v := (9 : Int32)) hx hb dX12_endCost_212 (by decide) ?_
    refine lv_iconst (v := (4 : Int32)) hx hb dX12_endCost_214 (by decide) ?_
    refine lv_iload hx hb dX12_endCost_215 (lv_at hl 1 rfl) ?_
    refine lv_isub hx hb dX12_endCost_217 ?_
    obtain ⟨g6, hv⟩ := y_gd_e hv
    obtain ⟨r3, c1, hv⟩ := y_bi_e hv
    refine z_thL hc hB (z_runV hc hB 11 (mm_X12_power hSK l ad o0 (9 : Int32) ((4 : Int32) - x6) h c1) md_X12_power qmX12_307 g6 (by decide) rfl rfl rfl ⟨Nat.le_of_ble_eq_true rfl, Nat.le_of_ble_eq_true rfl⟩ rfl hl.1 rfl (Nat.le_of_ble_eq_true rfl) dX12_endCost_218 ⟨Nat.le_of_ble_eq_true rfl, Nat.le_of_ble_eq_true rfl⟩) (fun H locs hB => ?_)
    refine lv_lmul hx hb dX12_endCost_221 ?_
    replace hv := Option.some.inj hv
    subst hv
    rw [← kb]
    exact z_lret hc hB hr dX12_endCost_222
  have L11 : ∀ (nn11 : Nat) (l2 : Int64) (l4 : Int64) (x6 : Int32) (x7 : Int32) (H : Heap) (locs : List Loc) (ls : Array Slot), z_B G ad n0 s h H locs → lv_has ls 13 [(0, .ref (ad o0)), (1, .int x1), (2, .long l2), (4, .long l4), (6, .int x6), (7, .int x7)] → ∀ vv11, y_lpN (fun q : Int64 × Int64 × Int32 × Int32 => fX12_endCost_b11_i o0 x1 h q.1 q.2.1 q.2.2.1 q.2.2.2) nn11 (l2, l4, x6, x7) = some vv11 → vv11 = r0 → W p l e rm_X12_endCost s m args below meth c H locs 0 0 (MQ below (z_Ql G ad h n0 s.heap.size r0) args s 0 0 (z_A ad n0 s.heap.size)) (F0 m 11 ls []) := by
    intro nn11
    induction nn11 with
    | zero => intro l2 l4 x6 x7 H locs ls hB hl vv11 hv kv11; exact absurd hv (fun q => y_lpN_0 q)
    | succ nn11 ih11 =>
      intro l2 l4 x6 x7 H locs ls hB hl vv11 hv kv11
      obtain ⟨w, hq, kw11⟩ := y_lpN_e hv
      clear hv
      have hv : fX12_endCost_b11_i o0 x1 h l2 l4 x6 x7 = some w := hq
      clear hq
      have b164 : ∀ (l2 : Int64) (x6 : Int32) (x7 : Int32) (s0 : Int64) (s1 : Int64) (H : Heap) (locs : List Loc) (ls : Array Slot), z_B G ad n0 s h H locs → lv_has ls 13 [(0, .ref (ad o0)), (1, .int x1), (2, .long l2), (6, .int x6), (7, .int x7)] → ∀ w, fX12_endCost_b164 o0 x1 l2 x6 x7 s0 s1 h = some w → y_lq (fun q : Int64 × Int64 × Int32 × Int32 => fX12_endCost_b11_i o0 x1 h q.1 q.2.1 q.2.2.1 q.2.2.2) nn11 vv11 w → W p l e rm_X12_endCost s m args below meth c H locs 0 0 (MQ below (z_Ql G ad h n0 s.heap.size r0) args s 0 0 (z_A ad n0 s.heap.size)) (F0 m 164 ls [.long s1, .long s0]) := by
        intro l2 x6 x7 s0 s1 H locs ls hB hl w hv kw11
        refine lv_ladd hx hb dX12_endCost_164 ?_
        obtain ⟨v7, ev7, hv⟩ := y_nm_e hv
        rw [← ev7]
        refine lv_lstore (lv' := [(4, .long v7), (0, .ref (ad o0)), (1, .int x1), (2, .long l2), (6, .int x6), (7, .int x7)]) hx hb dX12_endCost_165 hl (by decide) rfl (fun ls hl => ?_)
        obtain ⟨v8, ev8, hv⟩ := y_nm_e hv
        refine lv_iinc (v := v8) (lv' := [(7, .int v8), (4, .long v7), (0, .ref (ad o0)), (1, .int x1), (2, .long l2), (6, .int x6)]) hx hb dX12_endCost_167 hl (k := 5) rfl (by rw [ev8]; rfl) (by decide) rfl (fun ls hl => ?_)
        refine lv_goto (tgt := 11) hx hb dX12_endCost_170 (by decide) ?_
        replace hv := Option.some.inj hv
        subst hv
        exact ih11 l2 v7 x6 v8 _ _ _ hB (lv_sub hl [2, 3, 4, 1, 5, 0] rfl) _ kw11 kv11
      have b149 : ∀ (l4 : Int64) (x6 : Int32) (x7 : Int32) (l8 : Int64) (s0 : Int64) (s1 : Int64) (H : Heap) (locs : List Loc) (ls : Array Slot), z_B G ad n0 s h H locs → lv_has ls 13 [(0, .ref (ad o0)), (1, .int x1), (4, .long l4), (6, .int x6), (7, .int x7), (8, .long l8)] → ∀ w, fX12_endCost_b149 o0 x1 l4 x6 x7 l8 s0 s1 h = some w → y_lq (fun q : Int64 × Int64 × Int32 × Int32 => fX12_endCost_b11_i o0 x1 h q.1 q.2.1 q.2.2.1 q.2.2.2) nn11 vv11 w → W p l e rm_X12_endCost s m args below meth c H locs 0 0 (MQ below (z_Ql G ad h n0 s.heap.size r0) args s 0 0 (z_A ad n0 s.heap.size)) (F0 m 149 ls [.long s1, .long s0]) := by
        intro l4 x6 x7 l8 s0 s1 H locs ls hB hl w hv kw11
        refine lv_ladd hx hb dX12_endCost_149 ?_
        obtain ⟨v9, ev9, hv⟩ := y_nm_e hv
        rw [← ev9]
        refine lv_lstore_n (lv' := [(2, .long v9), (0, .ref (ad o0)), (1, .int x1), (4, .long l4), (6, .int x6), (7, .int x7), (8, .long l8)]) hx hb dX12_endCost_150 rfl hl (by decide) rfl (fun ls hl => ?_)
        refine lv_lload hx hb dX12_endCost_151 (lv_at hl 3 rfl) ?_
        refine lv_iload hx hb dX12_endCost_153 (lv_at hl 5 rfl) ?_
        refine lv_if_le (tgt := 163) hx hb dX12_endCost_155 (by decide) (fun c10 => ?_) (fun c10 => ?_)
        · replace hv := y_br_t hv c10
          refine lv_lconst (v := (0 : Int64)) hx hb dX12_endCost_163 (by decide) ?_
          exact b164 v9 x6 x7 l4 (0 : Int64) _ _ _ hB (lv_sub hl [1, 2, 0, 4, 5] rfl) _ hv kw11
        · replace hv := y_br_f hv c10
          refine lv_lload hx hb dX12_endCost_158 (lv_at hl 6 rfl) ?_
          refine lv_goto (tgt := 164) hx hb dX12_endCost_160 (by decide) ?_
          exact b164 v9 x6 x7 l4 l8 _ _ _ hB (lv_sub hl [1, 2, 0, 4, 5] rfl) _ hv kw11
      have L50 : ∀ (l2 : Int64) (l4 : Int64) (x7 : Int32) (nn50 : Nat) (x6 : Int32) (l8 : Int64) (x10 : Int32) (x11 : Int32) (H : Heap) (locs : List Loc) (ls : Array Slot), z_B G ad n0 s h H locs → lv_has ls 13 [(0, .ref (ad o0)), (1, .int x1), (2, .long l2), (4, .long l4), (6, .int x6), (7, .int x7), (8, .long l8), (10, .int x10), (11, .int x11)] → ∀ vv50, y_lpN (fun q : Int32 × Int64 × Int32 × Int32 => fX12_endCost_b50_i o0 x1 l2 l4 x7 h q.1 q.2.1 q.2.2.1 q.2.2.2) nn50 (x6, l8, x10, x11) = some vv50 → y_lq (fun q : Int64 × Int64 × Int32 × Int32 => fX12_endCost_b11_i o0 x1 h q.1 q.2.1 q.2.2.1 q.2.2.2) nn11 vv11 vv50 → W p l e rm_X12_endCost s m args below meth c H locs 0 0 (MQ below (z_Ql G ad h n0 s.heap.size r0) args s 0 0 (z_A ad n0 s.heap.size)) (F0 m 50 ls []) := by
        intro l2 l4 x7 nn50
        induction nn50 with
        | zero => intro x6 l8 x10 x11 H locs ls hB hl vv50 hv kv50; exact absurd hv (fun q => y_lpN_0 q)
        | succ nn50 ih50 =>
          intro x6 l8 x10 x11 H locs ls hB hl vv50 hv kv50
          obtain ⟨w, hq, kw50⟩ := y_lpN_e hv
          clear hv
          have hv : fX12_endCost_b50_i o0 x1 l2 l4 x7 h x6 l8 x10 x11 = some w := hq
          clear hq
          have b108 : ∀ (x6 : Int32) (x11 : Int32) (s0 : Int64) (s1 : Int64) (H : Heap) (locs : List Loc) (ls : Array Slot), z_B G ad n0 s h H locs → lv_has ls 13 [(0, .ref (ad o0)), (1, .int x1), (2, .long l2), (4, .long l4), (6, .int x6), (7, .int x7), (11, .int x11)] → ∀ w, fX12_endCost_b108 o0 x1 l2 l4 x6 x7 x11 s0 s1 h = some w → y_lq (fun q : Int32 × Int64 × Int32 × Int32 => fX12_endCost_b50_i o0 x1 l2 l4 x7 h q.1 q.2.1 q.2.2.1 q.2.2.2) nn50 vv50 w → W p l e rm_X12_endCost s m args below meth c H locs 0 0 (MQ below (z_Ql G ad h n0 s.heap.size r0) args s 0 0 (z_A ad n0 s.heap.size)) (F0 m 108 ls [.long s1, .long s0]) := by
            intro x6 x11 s0 s1 H locs ls hB hl w hv kw50
            refine lv_lmul hx hb dX12_endCost_108 ?_
            obtain ⟨v11, ev11, hv⟩ := y_nm_e hv
            rw [← ev11]
            refine lv_lstore (lv' := [(8, .long v11), (0, .ref (ad o0)), (1, .int x1), (2, .long l2), (4, .long l4), (6, .int x6), (7, .int x7), (11, .int x11)]) hx hb dX12_endCost_109 hl (by decide) rfl (fun ls hl => ?_)
            obtain ⟨v12, ev12, hv⟩ := y_nm_e hv
            refine lv_iinc (v := v12) (lv' := [(6, .int v12), (8, .long v11), (0, .ref (ad o0)), (1, .int x1), (2, .long l2), (4, .long l4), (7, .int x7), (11, .int x11)]) hx hb dX12_endCost_111 hl (k := 5) rfl (by rw [ev12]; rfl) (by decide) rfl (fun ls hl => ?_)
            refine lv_iload hx hb dX12_endCost_114 (lv_at hl 7 rfl) ?_
            refine lv_istore (lv' := [(10, .int x11), (6, .int v12), (8, .long v11), (0, .ref (ad o0)), (1, .int x1), (2, .long l2), (4, .long l4), (7, .int x7), (11, .int x11)]) hx hb dX12_endCost_116 hl (by decide) rfl (fun ls hl => ?_)
            refine lv_aload_n hx hb dX12_endCost_118 rfl (lv_at hl 3 rfl) ?_
            obtain ⟨g13, hv⟩ := y_gd_e hv
            obtain ⟨o14, eo14, hv⟩ := y_bi_e hv
            refine z_getR hc hB 11 6 g13 eo14 (by decide) (by decide) rfl (z_l1 hc qfX12_33) dX12_endCost_119 ?_
            refine lv_bipush (v := (52 : Int32)) hx hb dX12_endCost_122 (by decide) ?_
            refine lv_iconst (v := (4 : Int32)) hx hb dX12_endCost_124 (by decide) ?_
            refine lv_iload hx hb dX12_endCost_125 (lv_at hl 8 rfl) ?_
            refine lv_imul hx hb dX12_endCost_127 ?_
            refine lv_iadd hx hb dX12_endCost_128 ?_
            refine lv_iconst (v := (3 : Int32)) hx hb dX12_endCost_129 (by decide) ?_
            refine lv_iadd hx hb dX12_endCost_130 ?_
            obtain ⟨g15, hv⟩ := y_gd_e hv
            obtain ⟨i16, hv⟩ := y_gd_e hv
            refine z_iald hc hB g15 i16 dX12_endCost_131 ?_
            obtain ⟨v17, ev17, hv⟩ := y_nm_e hv
            rw [← ev17]
            refine lv_istore (lv' := [(11, .int v17), (10, .int x11), (6, .int v12), (8, .long v11), (0, .ref (ad o0)), (1, .int x1), (2, .long l2), (4, .long l4), (7, .int x7)]) hx hb dX12_endCost_132 hl (by decide) rfl (fun ls hl => ?_)
            refine lv_goto (tgt := 50) hx hb dX12_endCost_134 (by decide) ?_
            replace hv := Option.some.inj hv
            subst hv
            exact ih50 v12 v11 x11 v17 _ _ _ hB (lv_sub hl [4, 5, 6, 7, 2, 8, 3, 1, 0] rfl) _ kw50 kv50
          refine lv_iload hx hb dX12_endCost_50 (lv_at hl 8 rfl) ?_
          refine lv_if_lt (tgt := 137) hx hb dX12_endCost_52 (by decide) (fun c18 => ?_) (fun c18 => ?_)
          · replace hv := y_br_t hv c18
            obtain ⟨t19, hq, ew⟩ := y_mp_e hv
            clear hv; subst ew
            replace kw50 : t19 = _ := kw50
            subst kw50
            have hv := hq
            clear hq
            refine lv_lload_n hx hb dX12_endCost_137 rfl (lv_at hl 2 rfl) ?_
            refine lv_iload hx hb dX12_endCost_138 (lv_at hl 5 rfl) ?_
            refine lv_if_ne (tgt := 148) hx hb dX12_endCost_140 (by decide) (fun c20 => ?_) (fun c20 => ?_)
            · replace hv := y_br_f hv c20
              refine lv_lconst (v := (0 : Int64)) hx hb dX12_endCost_148 (by decide) ?_
              exact b149 l4 x6 x7 l8 l2 (0 : Int64) _ _ _ hB (lv_sub hl [0, 1, 3, 4, 5, 6] rfl) _ hv kv50
            · replace hv := y_br_t hv c20
              refine lv_lload hx hb dX12_endCost_143 (lv_at hl 6 rfl) ?_
              refine lv_goto (tgt := 149) hx hb dX12_endCost_145 (by decide) ?_
              exact b149 l4 x6 x7 l8 l2 l8 _ _ _ hB (lv_sub hl [0, 1, 3, 4, 5, 6] rfl) _ hv kv50
          · replace hv := y_br_f hv c18
            refine lv_aload_n hx hb dX12_endCost_55 rfl (lv_at hl 0 rfl) ?_
            refine lv_iload hx hb dX12_endCost_56 (lv_at hl 5 rfl) ?_
            refine lv_aload_n hx hb dX12_endCost_58 rfl (lv_at hl 0 rfl) ?_
            obtain ⟨g21, hv⟩ := y_gd_e hv
            obtain ⟨o22, eo22, hv⟩ := y_bi_e hv
            refine z_getR hc hB 11 6 g21 eo22 (by decide) (by decide) rfl (z_l1 hc qfX12_33) dX12_endCost_59 ?_
            refine lv_bipush (v := (52 : Int32)) hx hb dX12_endCost_62 (by decide) ?_
            refine lv_iconst (v := (4 : Int32)) hx hb dX12_endCost_64 (by decide) ?_
            refine lv_iload hx hb dX12_endCost_65 (lv_at hl 8 rfl) ?_
            refine lv_imul hx hb dX12_endCost_67 ?_
            refine lv_iadd hx hb dX12_endCost_68 ?_
            obtain ⟨g23, hv⟩ := y_gd_e hv
            obtain ⟨i24, hv⟩ := y_gd_e hv
            refine z_iald hc hB g23 i24 dX12_endCost_69 ?_
            obtain ⟨r26, c25, hv⟩ := y_bi_e hv
            refine z_thI hc hB (z_runV hc hB 11 (mm_X12_plain hSK l ad o0 x7 (z_I h o22 ((52 : Int32) + ((4 : Int32) * x11)).toNatClampNeg) h c25) md_X12_plain qmX12_250 g21 (by decide) rfl rfl rfl ⟨Nat.le_of_ble_eq_true rfl, Nat.le_of_ble_eq_true rfl⟩ rfl hl.1 rfl (Nat.le_of_ble_eq_true rfl) dX12_endCost_70 ⟨Nat.le_of_ble_eq_true rfl, Nat.le_of_ble_eq_true rfl⟩) (fun H locs hB => ?_)
            refine lv_istore (lv' := [(12, .int r26), (0, .ref (ad o0)), (1, .int x1), (2, .long l2), (4, .long l4), (6, .int x6), (7, .int x7), (8, .long l8), (10, .int x10), (11, .int x11)]) hx hb dX12_endCost_73 hl (by decide) rfl (fun ls hl => ?_)
            refine lv_lload hx hb dX12_endCost_75 (lv_at hl 7 rfl) ?_
            refine lv_aload_n hx hb dX12_endCost_77 rfl (lv_at hl 1 rfl) ?_
            refine z_getR hc hB 11 6 g21 eo22 (by decide) (by decide) rfl (z_l1 hc qfX12_33) dX12_endCost_78 ?_
            refine lv_bipush (v := (52 : Int32)) hx hb dX12_endCost_81 (by decide) ?_
            refine lv_iconst (v := (4 : Int32)) hx hb dX12_endCost_83 (by decide) ?_
            refine lv_iload hx hb dX12_endCost_84 (lv_at hl 9 rfl) ?_
            refine lv_imul hx hb dX12_endCost_86 ?_
            refine lv_iadd hx hb dX12_endCost_87 ?_
            refine lv_iconst (v := (1 : Int32)) hx hb dX12_endCost_88 (by decide) ?_
            refine lv_iadd hx hb dX12_endCost_89 ?_
            obtain ⟨i30, hv⟩ := y_gd_e hv
            refine z_iald hc hB g23 i30 dX12_endCost_90 ?_
            refine lv_iload hx hb dX12_endCost_91 (lv_at hl 8 rfl) ?_
            refine lv_icmp_ne (tgt := 102) hx hb dX12_endCost_93 (by decide) (fun c31 => ?_) (fun c31 => ?_)
            · replace hv := y_br_f hv c31
              refine lv_bipush (v := (9 : Int32)) hx hb dX12_endCost_102 (by decide) ?_
              refine lv_iload hx hb dX12_endCost_104 (lv_at hl 0 rfl) ?_
              refine lv_isub hx hb dX12_endCost_106 ?_
              refine lv_i2l hx hb dX12_endCost_107 rfl ?_
              exact b108 x6 x11 l8 ((((9 : Int32) - r26)).toInt64) _ _ _ hB (lv_sub hl [1, 2, 3, 4, 5, 6, 9] rfl) _ hv kw50
            · replace hv := y_br_t hv c31
              refine lv_iload hx hb dX12_endCost_96 (lv_at hl 0 rfl) ?_
              refine lv_i2l hx hb dX12_endCost_98 rfl ?_
              refine lv_goto (tgt := 108) hx hb dX12_endCost_99 (by decide) ?_
              exact b108 x6 x11 l8 ((r26).toInt64) _ _ _ hB (lv_sub hl [1, 2, 3, 4, 5, 6, 9] rfl) _ hv kw50
      refine lv_iload hx hb dX12_endCost_11 (lv_at hl 5 rfl) ?_
      refine lv_aload_n hx hb dX12_endCost_13 rfl (lv_at hl 0 rfl) ?_
      obtain ⟨g37, hv⟩ := y_gd_e hv
      obtain ⟨r33, c32, hv⟩ := y_bi_e hv
      refine z_thI hc hB (z_runV hc hB 11 (mm_X12_places hSK l ad o0 h c32) md_X12_places qmX12_253 g37 (by decide) rfl rfl rfl ⟨Nat.le_of_ble_eq_true rfl, Nat.le_of_ble_eq_true rfl⟩ rfl hl.1 rfl (Nat.le_of_ble_eq_true rfl) dX12_endCost_14 ⟨Nat.le_of_ble_eq_true rfl, Nat.le_of_ble_eq_true rfl⟩) (fun H locs hB => ?_)
      refine lv_icmp_ge (tgt := 173) hx hb dX12_endCost_17 (by decide) (fun c38 => ?_) (fun c38 => ?_)
      · replace hv := y_br_t hv c38
        obtain ⟨t39, hq, ew⟩ := y_mp_e hv
        clear hv; subst ew
        replace kw11 : t39 = _ := kw11
        subst kw11
        have hv := hq
        clear hq
        refine lv_aload_n hx hb dX12_endCost_173 rfl (lv_at hl 0 rfl) ?_
        obtain ⟨o40, eo40, hv⟩ := y_bi_e hv
        refine z_getR hc hB 11 6 g37 eo40 (by decide) (by decide) rfl (z_l1 hc qfX12_33) dX12_endCost_174 ?_
        refine lv_bipush (v := (52 : Int32)) hx hb dX12_endCost_177 (by decide) ?_
        refine lv_iconst (v := (4 : Int32)) hx hb dX12_endCost_179 (by decide) ?_
        refine lv_iload_n hx hb dX12_endCost_180 rfl (lv_at hl 1 rfl) ?_
        refine lv_imul hx hb dX12_endCost_181 ?_
        refine lv_iadd hx hb dX12_endCost_182 ?_
        obtain ⟨g41, hv⟩ := y_gd_e hv
        obtain ⟨i42, hv⟩ := y_gd_e hv
        refine z_iald hc hB g41 i42 dX12_endCost_183 ?_
        refine lv_iconst (v := (-1 : Int32)) hx hb dX12_endCost_184 (by decide) ?_
        refine lv_icmp_ne (tgt := 202) hx hb dX12_endCost_185 (by decide) (fun c43 => ?_) (fun c43 => ?_)
        · replace hv := y_br_f hv c43
          refine lv_aload_n hx hb dX12_endCost_202 rfl (lv_at hl 0 rfl) ?_
          refine z_getR hc hB 11 6 g37 eo40 (by decide) (by decide) rfl (z_l1 hc qfX12_33) dX12_endCost_203 ?_
          refine lv_iconst (v := (5 : Int32)) hx hb dX12_endCost_206 (by decide) ?_
          obtain ⟨i44, hv⟩ := y_gd_e hv
          refine z_iald hc hB g41 i44 dX12_endCost_207 ?_
          refine lv_i2l hx hb dX12_endCost_208 rfl ?_
          refine lv_lload_n hx hb dX12_endCost_209 rfl (lv_at hl 2 rfl) ?_
          refine lv_lmul hx hb dX12_endCost_210 ?_
          exact b211 x6 (((z_I h o40 (5 : Int32).toNatClampNeg)).toInt64 * l2) _ _ _ hB (lv_sub hl [0, 4] rfl) _ hv kv11
        · replace hv := y_br_t hv c43
          refine lv_aload_n hx hb dX12_endCost_188 rfl (lv_at hl 0 rfl) ?_
          refine z_getR hc hB 11 6 g37 eo40 (by decide) (by decide) rfl (z_l1 hc qfX12_33) dX12_endCost_189 ?_
          refine lv_bipush (v := (6 : Int32)) hx hb dX12_endCost_192 (by decide) ?_
          obtain ⟨i45, hv⟩ := y_gd_e hv
          refine z_iald hc hB g41 i45 dX12_endCost_194 ?_
          refine lv_i2l hx hb dX12_endCost_195 rfl ?_
          refine lv_lload hx hb dX12_endCost_196 (lv_at hl 3 rfl) ?_
          refine lv_lmul hx hb dX12_endCost_198 ?_
          refine lv_goto (tgt := 211) hx hb dX12_endCost_199 (by decide) ?_
          exact b211 x6 (((z_I h o40 (6 : Int32).toNatClampNeg)).toInt64 * l4) _ _ _ hB (lv_sub hl [0, 4] rfl) _ hv kv11
      · replace hv := y_br_f hv c38
        refine lv_aload_n hx hb dX12_endCost_20 rfl (lv_at hl 0 rfl) ?_
        refine lv_iload hx hb dX12_endCost_21 (lv_at hl 5 rfl) ?_
        obtain ⟨r47, c46, hv⟩ := y_bi_e hv
        refine z_thI hc hB (z_runV hc hB 11 (mm_X12_weightOf hSK l ad o0 x7 h c46) md_X12_weightOf qmX12_256 g37 (by decide) rfl rfl rfl ⟨Nat.le_of_ble_eq_true rfl, Nat.le_of_ble_eq_true rfl⟩ rfl hl.1 rfl (Nat.le_of_ble_eq_true rfl) dX12_endCost_23 ⟨Nat.le_of_ble_eq_true rfl, Nat.le_of_ble_eq_true rfl⟩) (fun H locs hB => ?_)
        refine lv_i2l hx hb dX12_endCost_26 rfl ?_
        obtain ⟨v51, ev51, hv⟩ := y_nm_e hv
        rw [← ev51]
        refine lv_lstore (lv' := [(8, .long v51), (0, .ref (ad o0)), (1, .int x1), (2, .long l2), (4, .long l4), (6, .int x6), (7, .int x7)]) hx hb dX12_endCost_27 hl (by decide) rfl (fun ls hl => ?_)
        refine lv_iconst (v := (0 : Int32)) hx hb dX12_endCost_29 (by decide) ?_
        refine lv_istore (lv' := [(6, .int (0 : Int32)), (8, .long v51), (0, .ref (ad o0)), (1, .int x1), (2, .long l2), (4, .long l4), (7, .int x7)]) hx hb dX12_endCost_30 hl (by decide) rfl (fun ls hl => ?_)
        refine lv_iload_n hx hb dX12_endCost_32 rfl (lv_at hl 3 rfl) ?_
        refine lv_istore (lv' := [(10, .int x1), (6, .int (0 : Int32)), (8, .long v51), (0, .ref (ad o0)), (1, .int x1), (2, .long l2), (4, .long l4), (7, .int x7)]) hx hb dX12_endCost_33 hl (by decide) rfl (fun ls hl => ?_)
        refine lv_aload_n hx hb dX12_endCost_35 rfl (lv_at hl 3 rfl) ?_
        obtain ⟨o52, eo52, hv⟩ := y_bi_e hv
        refine z_getR hc hB 11 6 g37 eo52 (by decide) (by decide) rfl (z_l1 hc qfX12_33) dX12_endCost_36 ?_
        refine lv_bipush (v := (52 : Int32)) hx hb dX12_endCost_39 (by decide) ?_
        refine lv_iconst (v := (4 : Int32)) hx hb dX12_endCost_41 (by decide) ?_
        refine lv_iload_n hx hb dX12_endCost_42 rfl (lv_at hl 4 rfl) ?_
        refine lv_imul hx hb dX12_endCost_43 ?_
        refine lv_iadd hx hb dX12_endCost_44 ?_
        refine lv_iconst (v := (3 : Int32)) hx hb dX12_endCost_45 (by decide) ?_
        refine lv_iadd hx hb dX12_endCost_46 ?_
        obtain ⟨g53, hv⟩ := y_gd_e hv
        obtain ⟨i54, hv⟩ := y_gd_e hv
        refine z_iald hc hB g53 i54 dX12_endCost_47 ?_
        obtain ⟨v55, ev55, hv⟩ := y_nm_e hv
        rw [← ev55]
        refine lv_istore (lv' := [(11, .int v55), (10, .int x1), (6, .int (0 : Int32)), (8, .long v51), (0, .ref (ad o0)), (1, .int x1), (2, .long l2), (4, .long l4), (7, .int x7)]) hx hb dX12_endCost_48 hl (by decide) rfl (fun ls hl => ?_)
        obtain ⟨n, hv⟩ := y_lp_e hv
        exact L50 l2 l4 x7 n (0 : Int32) v51 x1 v55 _ _ _ hB (lv_sub hl [4, 5, 6, 7, 2, 8, 3, 1, 0] rfl) _ hv kw11
  rw [← kt] at hv
  refine lv_lconst (v := (0 : Int64)) hx hb dX12_endCost_0 (by decide) ?_
  refine lv_lstore_n (lv' := [(2, .long (0 : Int64)), (0, .ref (ad o0)), (1, .int x1)]) hx hb dX12_endCost_1 rfl hl (by decide) rfl (fun ls hl => ?_)
  refine lv_lconst (v := (0 : Int64)) hx hb dX12_endCost_2 (by decide) ?_
  refine lv_lstore (lv' := [(4, .long (0 : Int64)), (2, .long (0 : Int64)), (0, .ref (ad o0)), (1, .int x1)]) hx hb dX12_endCost_3 hl (by decide) rfl (fun ls hl => ?_)
  refine lv_iconst (v := (0 : Int32)) hx hb dX12_endCost_5 (by decide) ?_
  refine lv_istore (lv' := [(6, .int (0 : Int32)), (4, .long (0 : Int64)), (2, .long (0 : Int64)), (0, .ref (ad o0)), (1, .int x1)]) hx hb dX12_endCost_6 hl (by decide) rfl (fun ls hl => ?_)
  refine lv_iconst (v := (0 : Int32)) hx hb dX12_endCost_8 (by decide) ?_
  refine lv_istore (lv' := [(7, .int (0 : Int32)), (6, .int (0 : Int32)), (4, .long (0 : Int64)), (2, .long (0 : Int64)), (0, .ref (ad o0)), (1, .int x1)]) hx hb dX12_endCost_9 hl (by decide) rfl (fun ls hl => ?_)
  obtain ⟨n, hv⟩ := y_lp_e hv
  exact L11 n (0 : Int64) (0 : Int64) (0 : Int32) (0 : Int32) _ _ _ hB (lv_sub hl [4, 5, 3, 2, 1, 0] rfl) _ hv kt
theorem qmX12_365 : Cond.methodLink RX12 365 yX12_endCost ∈ z_ws := List.mem_filter.mpr ⟨List.mem_append_right _ (List.mem_of_getElem? (i := 1764) (by decide +kernel)), rfl⟩
theorem qc_X12_endCost : Cond.code yX12_endCost cX12_endCost 13 (some .long) ∈ z_ws := List.mem_filter.mpr ⟨List.mem_append_right _ (List.mem_of_getElem? (i := 1767) (by decide +kernel)), rfl⟩
theorem qi_X12_endCost : Cond.instanceMethod yX12_endCost ∈ z_ws := List.mem_filter.mpr ⟨List.mem_append_right _ (List.mem_of_getElem? (i := 1766) (by decide +kernel)), rfl⟩
theorem qs_X12_endCost : Cond.selects RX12 yX12_endCost yX12_endCost ∈ z_ws := List.mem_filter.mpr ⟨List.mem_append_left _ (List.mem_of_getElem? (i := 75) (by decide +kernel)), rfl⟩
theorem md_X12_endCost : z_mdV yX12_endCost cX12_endCost 13 (some .long) 1 := ⟨⟨qn_RX12, qc_X12_endCost, ⟨by decide +kernel, by decide +kernel, by decide +kernel⟩⟩, qi_X12_endCost, qs_X12_endCost⟩
theorem dX12_worth_0 : decode cX12_worth 0 = .ok (.aload_n 0, 1) := by decide +kernel
theorem dX12_worth_1 : decode cX12_worth 1 = .ok (.aload_n 0, 1) := by decide +kernel
theorem dX12_worth_2 : decode cX12_worth 2 = .ok (.getfield 33, 3) := by decide +kernel
theorem dX12_worth_5 : decode cX12_worth 5 = .ok (.bipush 49, 2) := by decide +kernel
theorem dX12_worth_7 : decode cX12_worth 7 = .ok (.iaload, 1) := by decide +kernel
theorem dX12_worth_8 : decode cX12_worth 8 = .ok (.ifCond .eq 10, 3) := by decide +kernel
theorem dX12_worth_11 : decode cX12_worth 11 = .ok (.iload_n 1, 1) := by decide +kernel
theorem dX12_worth_12 : decode cX12_worth 12 = .ok (.invokestatic 275, 3) := by decide +kernel
theorem dX12_worth_15 : decode cX12_worth 15 = .ok (.ifCond .ne 7, 3) := by decide +kernel
theorem dX12_worth_18 : decode cX12_worth 18 = .ok (.iconst 1, 1) := by decide +kernel
theorem dX12_worth_19 : decode cX12_worth 19 = .ok (.goto 4, 3) := by decide +kernel
theorem dX12_worth_22 : decode cX12_worth 22 = .ok (.iconst 0, 1) := by decide +kernel
theorem dX12_worth_23 : decode cX12_worth 23 = .ok (.invokevirtual 278, 3) := by decide +kernel
theorem dX12_worth_26 : decode cX12_worth 26 = .ok (.ifCond .eq 5, 3) := by decide +kernel
theorem dX12_worth_29 : decode cX12_worth 29 = .ok (.lconst 0, 1) := by decide +kernel
theorem dX12_worth_30 : decode cX12_worth 30 = .ok (.lreturn, 1) := by decide +kernel
theorem dX12_worth_31 : decode cX12_worth 31 = .ok (.lconst 0, 1) := by decide +kernel
theorem dX12_worth_32 : decode cX12_worth 32 = .ok (.lstore_n 2, 1) := by decide +kernel
theorem dX12_worth_33 : decode cX12_worth 33 = .ok (.iconst 0, 1) := by decide +kernel
theorem dX12_worth_34 : decode cX12_worth 34 = .ok (.istore 4, 2) := by decide +kernel
theorem dX12_worth_36 : decode cX12_worth 36 = .ok (.iload 4, 2) := by decide +kernel
theorem dX12_worth_38 : decode cX12_worth 38 = .ok (.aload_n 0, 1) := by decide +kernel
theorem dX12_worth_39 : decode cX12_worth 39 = .ok (.getfield 33, 3) := by decide +kernel
theorem dX12_worth_42 : decode cX12_worth 42 = .ok (.bipush 49, 2) := by decide +kernel
theorem dX12_worth_44 : decode cX12_worth 44 = .ok (.iaload, 1) := by decide +kernel
theorem dX12_worth_45 : decode cX12_worth 45 = .ok (.if_icmp .ge 37, 3) := by decide +kernel
theorem dX12_worth_48 : decode cX12_worth 48 = .ok (.lload_n 2, 1) := by decide +kernel
theorem dX12_worth_49 : decode cX12_worth 49 = .ok (.aload_n 0, 1) := by decide +kernel
theorem dX12_worth_50 : decode cX12_worth 50 = .ok (.getfield 33, 3) := by decide +kernel
theorem dX12_worth_53 : decode cX12_worth 53 = .ok (.bipush 52, 2) := by decide +kernel
theorem dX12_worth_55 : decode cX12_worth 55 = .ok (.iconst 4, 1) := by decide +kernel
theorem dX12_worth_56 : decode cX12_worth 56 = .ok (.iload 4, 2) := by decide +kernel
theorem dX12_worth_58 : decode cX12_worth 58 = .ok (.imul, 1) := by decide +kernel
theorem dX12_worth_59 : decode cX12_worth 59 = .ok (.iadd, 1) := by decide +kernel
theorem dX12_worth_60 : decode cX12_worth 60 = .ok (.iaload, 1) := by decide +kernel
theorem dX12_worth_61 : decode cX12_worth 61 = .ok (.ifCond .ge 12, 3) := by decide +kernel
theorem dX12_worth_64 : decode cX12_worth 64 = .ok (.aload_n 0, 1) := by decide +kernel
theorem dX12_worth_65 : decode cX12_worth 65 = .ok (.iload 4, 2) := by decide +kernel
theorem dX12_worth_67 : decode cX12_worth 67 = .ok (.invokevirtual 365, 3) := by decide +kernel
theorem dX12_worth_70 : decode cX12_worth 70 = .ok (.goto 4, 3) := by decide +kernel
theorem dX12_worth_73 : decode cX12_worth 73 = .ok (.lconst 0, 1) := by decide +kernel
theorem dX12_worth_74 : decode cX12_worth 74 = .ok (.ladd, 1) := by decide +kernel
theorem dX12_worth_75 : decode cX12_worth 75 = .ok (.lstore_n 2, 1) := by decide +kernel
theorem dX12_worth_76 : decode cX12_worth 76 = .ok (.iinc 4 1, 3) := by decide +kernel
theorem dX12_worth_79 : decode cX12_worth 79 = .ok (.goto (-43), 3) := by decide +kernel
theorem dX12_worth_82 : decode cX12_worth 82 = .ok (.lload_n 2, 1) := by decide +kernel
theorem dX12_worth_83 : decode cX12_worth 83 = .ok (.aload_n 0, 1) := by decide +kernel
theorem dX12_worth_84 : decode cX12_worth 84 = .ok (.invokevirtual 304, 3) := by decide +kernel
theorem dX12_worth_87 : decode cX12_worth 87 = .ok (.i2l, 1) := by decide +kernel
theorem dX12_worth_88 : decode cX12_worth 88 = .ok (.aload_n 0, 1) := by decide +kernel
theorem dX12_worth_89 : decode cX12_worth 89 = .ok (.bipush 9, 2) := by decide +kernel
theorem dX12_worth_91 : decode cX12_worth 91 = .ok (.iconst 4, 1) := by decide +kernel
theorem dX12_worth_92 : decode cX12_worth 92 = .ok (.invokevirtual 307, 3) := by decide +kernel
theorem dX12_worth_95 : decode cX12_worth 95 = .ok (.lmul, 1) := by decide +kernel
theorem dX12_worth_96 : decode cX12_worth 96 = .ok (.iload_n 1, 1) := by decide +kernel
theorem dX12_worth_97 : decode cX12_worth 97 = .ok (.invokestatic 282, 3) := by decide +kernel
theorem dX12_worth_100 : decode cX12_worth 100 = .ok (.lreturn, 1) := by decide +kernel
abbrev rm_X12_worth : Room := { frames := 3, cells := 0, slots := 0, locals := 75 }
noncomputable def fX12_worth_b74 (o0 : Nat) (x1 : Int32) (x4 : Int32) (s0 : Int64) (s1 : Int64) (h : z_T) : Option ((Int64 × Int32) ⊕ (Int64 × z_T)) :=
  y_nm ((s0 + s1)) fun v1 =>
  y_nm (x4 + 1) fun v2 =>
  some (.inl (v1, v2))
noncomputable def fX12_worth_b36_i (o0 : Nat) (x1 : Int32) (h : z_T) (l2 : Int64) (x4 : Int32) : Option ((Int64 × Int32) ⊕ (Int64 × z_T)) :=
  y_gd (z_ok h o0 11) <|
  y_bi (z_R h o0 6) fun o4 =>
  y_gd (z_ok h o4 13) <|
  y_gd (z_ix (49 : Int32) (z_N h o4)) <|
  y_br ((z_I h o4 (49 : Int32).toNatClampNeg) ≤ x4)
    (y_mp <|
    y_bi (fX12_allWeights o0 h) fun r10 =>
    y_bi (fX12_power o0 (9 : Int32) (4 : Int32)) fun r16 =>
    y_bi (fX12_part l2 ((r10).toInt64 * r16) x1) fun r21 =>
    some (r21, h))
    (y_gd (z_ix ((52 : Int32) + ((4 : Int32) * x4)) (z_N h o4)) <|
    y_br (0 ≤ (z_I h o4 ((52 : Int32) + ((4 : Int32) * x4)).toNatClampNeg))
      (fX12_worth_b74 o0 x1 x4 l2 (0 : Int64) h)
      (y_bi (fX12_endCost o0 x4 h) fun r28 =>
      fX12_worth_b74 o0 x1 x4 l2 r28 h))
noncomputable def fX12_worth_b36 (o0 : Nat) (x1 : Int32) (l2 : Int64) (x4 : Int32) (h : z_T) : Option (Int64 × z_T) := y_lp (fun q : Int64 × Int32 => fX12_worth_b36_i o0 x1 h q.1 q.2) (l2, x4)
noncomputable def fX12_worth_b23 (o0 : Nat) (x1 : Int32) (s0 : Nat) (s1 : Int32) (h : z_T) : Option (Int64 × z_T) :=
  y_gd (z_ok h s0 11) <|
  y_bi (fX12_throwsIf s0 s1 h) fun ⟨r32, h36⟩ =>
  y_br (r32 = 0)
    (fX12_worth_b36 o0 x1 (0 : Int64) (0 : Int32) h36)
    (some ((0 : Int64), h36))
noncomputable def fX12_worth_b18 (o0 : Nat) (x1 : Int32) (s0 : Nat) (h : z_T) : Option (Int64 × z_T) :=
  fX12_worth_b23 o0 x1 s0 (1 : Int32) h
noncomputable def fX12_worth (o0 : Nat) (x1 : Int32) (h : z_T) : Option (Int64 × z_T) :=
  y_gd (z_ok h o0 11) <|
  y_bi (z_R h o0 6) fun o40 =>
  y_gd (z_ok h o40 13) <|
  y_gd (z_ix (49 : Int32) (z_N h o40)) <|
  y_br ((z_I h o40 (49 : Int32).toNatClampNeg) = 0)
    (fX12_worth_b18 o0 x1 o0 h)
    (y_bi (fX12_isPart x1) fun r45 =>
    y_br (r45 = 0)
      (fX12_worth_b18 o0 x1 o0 h)
      (fX12_worth_b23 o0 x1 o0 (0 : Int32) h))
set_option maxHeartbeats 4000000 in
set_option maxRecDepth 100000 in
theorem mm_X12_worth {G : z_Gt} {S : State → Prop} (hSK : z_SK S) (l : Launch) (ad : Nat → Nat) (o0 : Nat) (x1 : Int32) (h : z_T) {r0 : Int64} {h9 : z_T} (hv : fX12_worth o0 x1 h = some (r0, h9)) : z_Ml G S l yX12_worth cX12_worth 5 (.long) rm_X12_worth 0 0 [.ref (ad o0), .int x1] ad h h9 r0 := by
  refine z_ofW hSK (by decide) (Nat.le_of_ble_eq_true rfl) ?_
  intro p e s m args below meth c ls hc hr hnm hB hl
  have hx := hc.1.1
  have hb := hc.1.2.1
  have hown := hc.1.2.2.2.1
  have hts := hc.1.2.2.2.2
  replace hc : z_C G S ad (z_n h) p m c cX12_worth 5 s args RX12 meth := hc
  replace hown : s.vm.findClass RX12 = some m.cls := hown
  replace hl : lv_has ls 5 [(0, .ref (ad o0)), (1, .int x1)] := hl
  show W p l e rm_X12_worth s m args below meth c s.heap [] 0 0 (MQ below (z_Ql G ad h9 (z_n h) s.heap.size r0) args s 0 0 (z_A ad (z_n h) s.heap.size)) (F0 m 0 ls [])
  obtain ⟨rs, kt⟩ : ∃ rs : Int64 × z_T, rs = (r0, h9) := ⟨_, rfl⟩
  generalize hn0 : z_n h = n0 at hc hB ⊢
  have L36 : ∀ (h : z_T) (nn36 : Nat) (l2 : Int64) (x4 : Int32) (H : Heap) (locs : List Loc) (ls : Array Slot), z_B G ad n0 s h H locs → lv_has ls 5 [(0, .ref (ad o0)), (1, .int x1), (2, .long l2), (4, .int x4)] → ∀ vv36, y_lpN (fun q : Int64 × Int32 => fX12_worth_b36_i o0 x1 h q.1 q.2) nn36 (l2, x4) = some vv36 → vv36 = (r0, h9) → W p l e rm_X12_worth s m args below meth c H locs 0 0 (MQ below (z_Ql G ad h9 n0 s.heap.size r0) args s 0 0 (z_A ad n0 s.heap.size)) (F0 m 36 ls []) := by
    intro h nn36
    induction nn36 with
    | zero => intro l2 x4 H locs ls hB hl vv36 hv kv36; exact absurd hv (fun q => y_lpN_0 q)
    | succ nn36 ih36 =>
      intro l2 x4 H locs ls hB hl vv36 hv kv36
      obtain ⟨w, hq, kw36⟩ := y_lpN_e hv
      clear hv
      have hv : fX12_worth_b36_i o0 x1 h l2 x4 = some w := hq
      clear hq
      have b74 : ∀ (x4 : Int32) (s0 : Int64) (s1 : Int64) (H : Heap) (locs : List Loc) (ls : Array Slot), z_B G ad n0 s h H locs → lv_has ls 5 [(0, .ref (ad o0)), (1, .int x1), (4, .int x4)] → ∀ w, fX12_worth_b74 o0 x1 x4 s0 s1 h = some w → y_lq (fun q : Int64 × Int32 => fX12_worth_b36_i o0 x1 h q.1 q.2) nn36 vv36 w → W p l e rm_X12_worth s m args below meth c H locs 0 0 (MQ below (z_Ql G ad h9 n0 s.heap.size r0) args s 0 0 (z_A ad n0 s.heap.size)) (F0 m 74 ls [.long s1, .long s0]) := by
        intro x4 s0 s1 H locs ls hB hl w hv kw36
        refine lv_ladd hx hb dX12_worth_74 ?_
        obtain ⟨v1, ev1, hv⟩ := y_nm_e hv
        rw [← ev1]
        refine lv_lstore_n (lv' := [(2, .long v1), (0, .ref (ad o0)), (1, .int x1), (4, .int x4)]) hx hb dX12_worth_75 rfl hl (by decide) rfl (fun ls hl => ?_)
        obtain ⟨v2, ev2, hv⟩ := y_nm_e hv
        refine lv_iinc (v := v2) (lv' := [(4, .int v2), (2, .long v1), (0, .ref (ad o0)), (1, .int x1)]) hx hb dX12_worth_76 hl (k := 3) rfl (by rw [ev2]; rfl) (by decide) rfl (fun ls hl => ?_)
        refine lv_goto (tgt := 36) hx hb dX12_worth_79 (by decide) ?_
        replace hv := Option.some.inj hv
        subst hv
        exact ih36 v1 v2 _ _ _ hB (lv_sub hl [2, 3, 1, 0] rfl) _ kw36 kv36
      refine lv_iload hx hb dX12_worth_36 (lv_at hl 3 rfl) ?_
      refine lv_aload_n hx hb dX12_worth_38 rfl (lv_at hl 0 rfl) ?_
      obtain ⟨g3, hv⟩ := y_gd_e hv
      obtain ⟨o4, eo4, hv⟩ := y_bi_e hv
      refine z_getR hc hB 11 6 g3 eo4 (by decide) (by decide) rfl (z_l1 hc qfX12_33) dX12_worth_39 ?_
      refine lv_bipush (v := (49 : Int32)) hx hb dX12_worth_42 (by decide) ?_
      obtain ⟨g5, hv⟩ := y_gd_e hv
      obtain ⟨i6, hv⟩ := y_gd_e hv
      refine z_iald hc hB g5 i6 dX12_worth_44 ?_
      refine lv_icmp_ge (tgt := 82) hx hb dX12_worth_45 (by decide) (fun c7 => ?_) (fun c7 => ?_)
      · replace hv := y_br_t hv c7
        obtain ⟨t8, hq, ew⟩ := y_mp_e hv
        clear hv; subst ew
        replace kw36 : t8 = _ := kw36
        subst kw36
        have hv := hq
        clear hq
        refine lv_lload_n hx hb dX12_worth_82 rfl (lv_at hl 2 rfl) ?_
        refine lv_aload_n hx hb dX12_worth_83 rfl (lv_at hl 0 rfl) ?_
        obtain ⟨r10, c9, hv⟩ := y_bi_e hv
        refine z_thI hc hB (z_runV hc hB 11 (mm_X12_allWeights hSK l ad o0 h c9) md_X12_allWeights qmX12_304 g3 (by decide) rfl rfl rfl ⟨Nat.le_of_ble_eq_true rfl, Nat.le_of_ble_eq_true rfl⟩ rfl hl.1 rfl (Nat.le_of_ble_eq_true rfl) dX12_worth_84 ⟨Nat.le_of_ble_eq_true rfl, Nat.le_of_ble_eq_true rfl⟩) (fun H locs hB => ?_)
        refine lv_i2l hx hb dX12_worth_87 rfl ?_
        refine lv_aload_n hx hb dX12_worth_88 rfl (lv_at hl 0 rfl) ?_
        refine lv_bipush (v := (9 : Int32)) hx hb dX12_worth_89 (by decide) ?_
        refine lv_iconst (v := (4 : Int32)) hx hb dX12_worth_91 (by decide) ?_
        obtain ⟨r16, c14, hv⟩ := y_bi_e hv
        refine z_thL hc hB (z_runV hc hB 11 (mm_X12_power hSK l ad o0 (9 : Int32) (4 : Int32) h c14) md_X12_power qmX12_307 g3 (by decide) rfl rfl rfl ⟨Nat.le_of_ble_eq_true rfl, Nat.le_of_ble_eq_true rfl⟩ rfl hl.1 rfl (Nat.le_of_ble_eq_true rfl) dX12_worth_92 ⟨Nat.le_of_ble_eq_true rfl, Nat.le_of_ble_eq_true rfl⟩) (fun H locs hB => ?_)
        refine lv_lmul hx hb dX12_worth_95 ?_
        refine lv_iload_n hx hb dX12_worth_96 rfl (lv_at hl 1 rfl) ?_
        obtain ⟨r21, c19, hv⟩ := y_bi_e hv
        refine z_thL hc hB (z_runS hc hB (mm_X12_part hSK l ad l2 ((r10).toInt64 * r16) x1 h c19) md_X12_part qmX12_282 rfl rfl ⟨Nat.le_of_ble_eq_true rfl, Nat.le_of_ble_eq_true rfl⟩ rfl hl.1 rfl (Nat.le_of_ble_eq_true rfl) dX12_worth_97 ⟨Nat.le_of_ble_eq_true rfl, Nat.le_of_ble_eq_true rfl⟩) (fun H locs hB => ?_)
        replace hv := Option.some.inj hv
        subst hv
        obtain ⟨e1, e2⟩ := y_pr kv36
        rw [← e1, ← e2]
        exact z_lret hc hB hr dX12_worth_100
      · replace hv := y_br_f hv c7
        refine lv_lload_n hx hb dX12_worth_48 rfl (lv_at hl 2 rfl) ?_
        refine lv_aload_n hx hb dX12_worth_49 rfl (lv_at hl 0 rfl) ?_
        refine z_getR hc hB 11 6 g3 eo4 (by decide) (by decide) rfl (z_l1 hc qfX12_33) dX12_worth_50 ?_
        refine lv_bipush (v := (52 : Int32)) hx hb dX12_worth_53 (by decide) ?_
        refine lv_iconst (v := (4 : Int32)) hx hb dX12_worth_55 (by decide) ?_
        refine lv_iload hx hb dX12_worth_56 (lv_at hl 3 rfl) ?_
        refine lv_imul hx hb dX12_worth_58 ?_
        refine lv_iadd hx hb dX12_worth_59 ?_
        obtain ⟨i24, hv⟩ := y_gd_e hv
        refine z_iald hc hB g5 i24 dX12_worth_60 ?_
        refine lv_if_ge (tgt := 73) hx hb dX12_worth_61 (by decide) (fun c25 => ?_) (fun c25 => ?_)
        · replace hv := y_br_t hv c25
          refine lv_lconst (v := (0 : Int64)) hx hb dX12_worth_73 (by decide) ?_
          exact b74 x4 l2 (0 : Int64) _ _ _ hB (lv_sub hl [0, 1, 3] rfl) _ hv kw36
        · replace hv := y_br_f hv c25
          refine lv_aload_n hx hb dX12_worth_64 rfl (lv_at hl 0 rfl) ?_
          refine lv_iload hx hb dX12_worth_65 (lv_at hl 3 rfl) ?_
          obtain ⟨r28, c26, hv⟩ := y_bi_e hv
          refine z_thL hc hB (z_runV hc hB 11 (mm_X12_endCost hSK l ad o0 x4 h c26) md_X12_endCost qmX12_365 g3 (by decide) rfl rfl rfl ⟨Nat.le_of_ble_eq_true rfl, Nat.le_of_ble_eq_true rfl⟩ rfl hl.1 rfl (Nat.le_of_ble_eq_true rfl) dX12_worth_67 ⟨Nat.le_of_ble_eq_true rfl, Nat.le_of_ble_eq_true rfl⟩) (fun H locs hB => ?_)
          refine lv_goto (tgt := 74) hx hb dX12_worth_70 (by decide) ?_
          exact b74 x4 l2 r28 _ _ _ hB (lv_sub hl [0, 1, 3] rfl) _ hv kw36
  have b23 : ∀ (s0 : Nat) (s1 : Int32) (h : z_T) (H : Heap) (locs : List Loc) (ls : Array Slot), z_B G ad n0 s h H locs → lv_has ls 5 [(0, .ref (ad o0)), (1, .int x1)] → ∀ w, fX12_worth_b23 o0 x1 s0 s1 h = some w → w = (r0, h9) → W p l e rm_X12_worth s m args below meth c H locs 0 0 (MQ below (z_Ql G ad h9 n0 s.heap.size r0) args s 0 0 (z_A ad n0 s.heap.size)) (F0 m 23 ls [.int s1, .ref (ad s0)]) := by
    intro s0 s1 h H locs ls hB hl w hv kb
    obtain ⟨g37, hv⟩ := y_gd_e hv
    obtain ⟨⟨r32, h36⟩, c31, hv⟩ := y_bi_e hv
    refine z_thI hc hB (z_runV hc hB 11 (mm_X12_throwsIf hSK l ad s0 s1 h c31) md_X12_throwsIf qmX12_278 g37 (by decide) rfl rfl rfl ⟨Nat.le_of_ble_eq_true rfl, Nat.le_of_ble_eq_true rfl⟩ rfl hl.1 rfl (Nat.le_of_ble_eq_true rfl) dX12_worth_23 ⟨Nat.le_of_ble_eq_true rfl, Nat.le_of_ble_eq_true rfl⟩) (fun H locs hB => ?_)
    refine lv_if_eq (tgt := 31) hx hb dX12_worth_26 (by decide) (fun c38 => ?_) (fun c38 => ?_)
    · replace hv := y_br_t hv c38
      refine lv_lconst (v := (0 : Int64)) hx hb dX12_worth_31 (by decide) ?_
      refine lv_lstore_n (lv' := [(2, .long (0 : Int64)), (0, .ref (ad o0)), (1, .int x1)]) hx hb dX12_worth_32 rfl hl (by decide) rfl (fun ls hl => ?_)
      refine lv_iconst (v := (0 : Int32)) hx hb dX12_worth_33 (by decide) ?_
      refine lv_istore (lv' := [(4, .int (0 : Int32)), (2, .long (0 : Int64)), (0, .ref (ad o0)), (1, .int x1)]) hx hb dX12_worth_34 hl (by decide) rfl (fun ls hl => ?_)
      obtain ⟨n, hv⟩ := y_lp_e hv
      exact L36 h36 n (0 : Int64) (0 : Int32) _ _ _ hB (lv_sub hl [2, 3, 1, 0] rfl) _ hv kb
    · replace hv := y_br_f hv c38
      refine lv_lconst (v := (0 : Int64)) hx hb dX12_worth_29 (by decide) ?_
      replace hv := Option.some.inj hv
      subst hv
      obtain ⟨e1, e2⟩ := y_pr kb
      rw [← e1, ← e2]
      exact z_lret hc hB hr dX12_worth_30
  have b18 : ∀ (s0 : Nat) (h : z_T) (H : Heap) (locs : List Loc) (ls : Array Slot), z_B G ad n0 s h H locs → lv_has ls 5 [(0, .ref (ad o0)), (1, .int x1)] → ∀ w, fX12_worth_b18 o0 x1 s0 h = some w → w = (r0, h9) → W p l e rm_X12_worth s m args below meth c H locs 0 0 (MQ below (z_Ql G ad h9 n0 s.heap.size r0) args s 0 0 (z_A ad n0 s.heap.size)) (F0 m 18 ls [.ref (ad s0)]) := by
    intro s0 h H locs ls hB hl w hv kb
    refine lv_iconst (v := (1 : Int32)) hx hb dX12_worth_18 (by decide) ?_
    refine lv_goto (tgt := 23) hx hb dX12_worth_19 (by decide) ?_
    exact b23 s0 (1 : Int32) h _ _ _ hB (lv_sub hl [0, 1] rfl) _ hv kb
  rw [← kt] at hv
  refine lv_aload_n hx hb dX12_worth_0 rfl (lv_at hl 0 rfl) ?_
  refine lv_aload_n hx hb dX12_worth_1 rfl (lv_at hl 0 rfl) ?_
  obtain ⟨g39, hv⟩ := y_gd_e hv
  obtain ⟨o40, eo40, hv⟩ := y_bi_e hv
  refine z_getR hc hB 11 6 g39 eo40 (by decide) (by decide) rfl (z_l1 hc qfX12_33) dX12_worth_2 ?_
  refine lv_bipush (v := (49 : Int32)) hx hb dX12_worth_5 (by decide) ?_
  obtain ⟨g41, hv⟩ := y_gd_e hv
  obtain ⟨i42, hv⟩ := y_gd_e hv
  refine z_iald hc hB g41 i42 dX12_worth_7 ?_
  refine lv_if_eq (tgt := 18) hx hb dX12_worth_8 (by decide) (fun c43 => ?_) (fun c43 => ?_)
  · replace hv := y_br_t hv c43
    exact b18 o0 h _ _ _ hB (lv_sub hl [0, 1] rfl) _ hv kt
  · replace hv := y_br_f hv c43
    refine lv_iload_n hx hb dX12_worth_11 rfl (lv_at hl 1 rfl) ?_
    obtain ⟨r45, c44, hv⟩ := y_bi_e hv
    refine z_thI hc hB (z_runS hc hB (mm_X12_isPart hSK l ad x1 h c44) md_X12_isPart qmX12_275 rfl rfl ⟨Nat.le_of_ble_eq_true rfl, Nat.le_of_ble_eq_true rfl⟩ rfl hl.1 rfl (Nat.le_of_ble_eq_true rfl) dX12_worth_12 ⟨Nat.le_of_ble_eq_true rfl, Nat.le_of_ble_eq_true rfl⟩) (fun H locs hB => ?_)
    refine lv_if_ne (tgt := 22) hx hb dX12_worth_15 (by decide) (fun c49 => ?_) (fun c49 => ?_)
    · replace hv := y_br_f hv c49
      refine lv_iconst (v := (0 : Int32)) hx hb dX12_worth_22 (by decide) ?_
      exact b23 o0 (0 : Int32) h _ _ _ hB (lv_sub hl [0, 1] rfl) _ hv kt
    · replace hv := y_br_t hv c49
      exact b18 o0 h _ _ _ hB (lv_sub hl [0, 1] rfl) _ hv kt
theorem dX12_leads_0 : decode cX12_leads 0 = .ok (.aload_n 0, 1) := by decide +kernel
theorem dX12_leads_1 : decode cX12_leads 1 = .ok (.iconst 0, 1) := by decide +kernel
theorem dX12_leads_2 : decode cX12_leads 2 = .ok (.putfield 1, 3) := by decide +kernel
theorem dX12_leads_5 : decode cX12_leads 5 = .ok (.aload_n 0, 1) := by decide +kernel
theorem dX12_leads_6 : decode cX12_leads 6 = .ok (.getfield 33, 3) := by decide +kernel
theorem dX12_leads_9 : decode cX12_leads 9 = .ok (.bipush 49, 2) := by decide +kernel
theorem dX12_leads_11 : decode cX12_leads 11 = .ok (.iaload, 1) := by decide +kernel
theorem dX12_leads_12 : decode cX12_leads 12 = .ok (.ifCond .ne 5, 3) := by decide +kernel
theorem dX12_leads_15 : decode cX12_leads 15 = .ok (.iconst (-1), 1) := by decide +kernel
theorem dX12_leads_16 : decode cX12_leads 16 = .ok (.ireturn, 1) := by decide +kernel
theorem dX12_leads_17 : decode cX12_leads 17 = .ok (.iconst 0, 1) := by decide +kernel
theorem dX12_leads_18 : decode cX12_leads 18 = .ok (.istore_n 1, 1) := by decide +kernel
theorem dX12_leads_19 : decode cX12_leads 19 = .ok (.iconst 0, 1) := by decide +kernel
theorem dX12_leads_20 : decode cX12_leads 20 = .ok (.istore_n 2, 1) := by decide +kernel
theorem dX12_leads_21 : decode cX12_leads 21 = .ok (.iload_n 2, 1) := by decide +kernel
theorem dX12_leads_22 : decode cX12_leads 22 = .ok (.aload_n 0, 1) := by decide +kernel
theorem dX12_leads_23 : decode cX12_leads 23 = .ok (.getfield 33, 3) := by decide +kernel
theorem dX12_leads_26 : decode cX12_leads 26 = .ok (.bipush 36, 2) := by decide +kernel
theorem dX12_leads_28 : decode cX12_leads 28 = .ok (.iaload, 1) := by decide +kernel
theorem dX12_leads_29 : decode cX12_leads 29 = .ok (.if_icmp .ge 70, 3) := by decide +kernel
theorem dX12_leads_32 : decode cX12_leads 32 = .ok (.aload_n 0, 1) := by decide +kernel
theorem dX12_leads_33 : decode cX12_leads 33 = .ok (.getfield 33, 3) := by decide +kernel
theorem dX12_leads_36 : decode cX12_leads 36 = .ok (.bipush 52, 2) := by decide +kernel
theorem dX12_leads_38 : decode cX12_leads 38 = .ok (.iconst 4, 1) := by decide +kernel
theorem dX12_leads_39 : decode cX12_leads 39 = .ok (.iload_n 1, 1) := by decide +kernel
theorem dX12_leads_40 : decode cX12_leads 40 = .ok (.imul, 1) := by decide +kernel
theorem dX12_leads_41 : decode cX12_leads 41 = .ok (.iadd, 1) := by decide +kernel
theorem dX12_leads_42 : decode cX12_leads 42 = .ok (.iaload, 1) := by decide +kernel
theorem dX12_leads_43 : decode cX12_leads 43 = .ok (.aload_n 0, 1) := by decide +kernel
theorem dX12_leads_44 : decode cX12_leads 44 = .ok (.getfield 33, 3) := by decide +kernel
theorem dX12_leads_47 : decode cX12_leads 47 = .ok (.bipush 37, 2) := by decide +kernel
theorem dX12_leads_49 : decode cX12_leads 49 = .ok (.iload_n 2, 1) := by decide +kernel
theorem dX12_leads_50 : decode cX12_leads 50 = .ok (.iadd, 1) := by decide +kernel
theorem dX12_leads_51 : decode cX12_leads 51 = .ok (.iaload, 1) := by decide +kernel
theorem dX12_leads_52 : decode cX12_leads 52 = .ok (.iconst 2, 1) := by decide +kernel
theorem dX12_leads_53 : decode cX12_leads 53 = .ok (.idiv, 1) := by decide +kernel
theorem dX12_leads_54 : decode cX12_leads 54 = .ok (.if_icmp .eq 6, 3) := by decide +kernel
theorem dX12_leads_57 : decode cX12_leads 57 = .ok (.bipush (-2), 2) := by decide +kernel
theorem dX12_leads_59 : decode cX12_leads 59 = .ok (.ireturn, 1) := by decide +kernel
theorem dX12_leads_60 : decode cX12_leads 60 = .ok (.aload_n 0, 1) := by decide +kernel
theorem dX12_leads_61 : decode cX12_leads 61 = .ok (.getfield 33, 3) := by decide +kernel
theorem dX12_leads_64 : decode cX12_leads 64 = .ok (.bipush 52, 2) := by decide +kernel
theorem dX12_leads_66 : decode cX12_leads 66 = .ok (.iconst 4, 1) := by decide +kernel
theorem dX12_leads_67 : decode cX12_leads 67 = .ok (.iload_n 1, 1) := by decide +kernel
theorem dX12_leads_68 : decode cX12_leads 68 = .ok (.imul, 1) := by decide +kernel
theorem dX12_leads_69 : decode cX12_leads 69 = .ok (.iadd, 1) := by decide +kernel
theorem dX12_leads_70 : decode cX12_leads 70 = .ok (.aload_n 0, 1) := by decide +kernel
theorem dX12_leads_71 : decode cX12_leads 71 = .ok (.getfield 33, 3) := by decide +kernel
theorem dX12_leads_74 : decode cX12_leads 74 = .ok (.bipush 37, 2) := by decide +kernel
theorem dX12_leads_76 : decode cX12_leads 76 = .ok (.iload_n 2, 1) := by decide +kernel
theorem dX12_leads_77 : decode cX12_leads 77 = .ok (.iadd, 1) := by decide +kernel
theorem dX12_leads_78 : decode cX12_leads 78 = .ok (.iaload, 1) := by decide +kernel
theorem dX12_leads_79 : decode cX12_leads 79 = .ok (.iconst 2, 1) := by decide +kernel
theorem dX12_leads_80 : decode cX12_leads 80 = .ok (.irem, 1) := by decide +kernel
theorem dX12_leads_81 : decode cX12_leads 81 = .ok (.iconst 1, 1) := by decide +kernel
theorem dX12_leads_82 : decode cX12_leads 82 = .ok (.if_icmp .ne 7, 3) := by decide +kernel
theorem dX12_leads_85 : decode cX12_leads 85 = .ok (.iconst 1, 1) := by decide +kernel
theorem dX12_leads_86 : decode cX12_leads 86 = .ok (.goto 4, 3) := by decide +kernel
theorem dX12_leads_89 : decode cX12_leads 89 = .ok (.iconst 2, 1) := by decide +kernel
theorem dX12_leads_90 : decode cX12_leads 90 = .ok (.iadd, 1) := by decide +kernel
theorem dX12_leads_91 : decode cX12_leads 91 = .ok (.iaload, 1) := by decide +kernel
theorem dX12_leads_92 : decode cX12_leads 92 = .ok (.istore_n 1, 1) := by decide +kernel
theorem dX12_leads_93 : decode cX12_leads 93 = .ok (.iinc 2 1, 3) := by decide +kernel
theorem dX12_leads_96 : decode cX12_leads 96 = .ok (.goto (-75), 3) := by decide +kernel
theorem dX12_leads_99 : decode cX12_leads 99 = .ok (.aload_n 0, 1) := by decide +kernel
theorem dX12_leads_100 : decode cX12_leads 100 = .ok (.getfield 33, 3) := by decide +kernel
theorem dX12_leads_103 : decode cX12_leads 103 = .ok (.bipush 52, 2) := by decide +kernel
theorem dX12_leads_105 : decode cX12_leads 105 = .ok (.iconst 4, 1) := by decide +kernel
theorem dX12_leads_106 : decode cX12_leads 106 = .ok (.iload_n 1, 1) := by decide +kernel
theorem dX12_leads_107 : decode cX12_leads 107 = .ok (.imul, 1) := by decide +kernel
theorem dX12_leads_108 : decode cX12_leads 108 = .ok (.iadd, 1) := by decide +kernel
theorem dX12_leads_109 : decode cX12_leads 109 = .ok (.iaload, 1) := by decide +kernel
theorem dX12_leads_110 : decode cX12_leads 110 = .ok (.istore_n 2, 1) := by decide +kernel
theorem dX12_leads_111 : decode cX12_leads 111 = .ok (.iload_n 2, 1) := by decide +kernel
theorem dX12_leads_112 : decode cX12_leads 112 = .ok (.iconst (-1), 1) := by decide +kernel
theorem dX12_leads_113 : decode cX12_leads 113 = .ok (.if_icmp .ne 7, 3) := by decide +kernel
theorem dX12_leads_116 : decode cX12_leads 116 = .ok (.iconst 1, 1) := by decide +kernel
theorem dX12_leads_117 : decode cX12_leads 117 = .ok (.goto 17, 3) := by decide +kernel
theorem dX12_leads_120 : decode cX12_leads 120 = .ok (.iload_n 2, 1) := by decide +kernel
theorem dX12_leads_121 : decode cX12_leads 121 = .ok (.bipush (-2), 2) := by decide +kernel
theorem dX12_leads_123 : decode cX12_leads 123 = .ok (.if_icmp .ne 7, 3) := by decide +kernel
theorem dX12_leads_126 : decode cX12_leads 126 = .ok (.iconst 0, 1) := by decide +kernel
theorem dX12_leads_127 : decode cX12_leads 127 = .ok (.goto 7, 3) := by decide +kernel
theorem dX12_leads_130 : decode cX12_leads 130 = .ok (.bipush 10, 2) := by decide +kernel
theorem dX12_leads_132 : decode cX12_leads 132 = .ok (.iload_n 2, 1) := by decide +kernel
theorem dX12_leads_133 : decode cX12_leads 133 = .ok (.iadd, 1) := by decide +kernel
theorem dX12_leads_134 : decode cX12_leads 134 = .ok (.ireturn, 1) := by decide +kernel
abbrev rm_X12_leads : Room := { frames := 0, cells := 0, slots := 0, locals := 0 }
noncomputable def fX12_leads_b90 (o0 : Nat) (x2 : Int32) (s0 : Nat) (s1 : Int32) (s2 : Int32) (h : z_T) : Option ((Int32 × Int32) ⊕ (Int32 × z_T)) :=
  y_gd (z_ok h s0 13) <|
  y_gd (z_ix (s1 + s2) (z_N h s0)) <|
  y_nm ((z_I h s0 (s1 + s2).toNatClampNeg)) fun v3 =>
  y_nm (x2 + 1) fun v4 =>
  some (.inl (v3, v4))
noncomputable def fX12_leads_b21_i (o0 : Nat) (h : z_T) (x1 : Int32) (x2 : Int32) : Option ((Int32 × Int32) ⊕ (Int32 × z_T)) :=
  y_gd (z_ok h o0 11) <|
  y_bi (z_R h o0 6) fun o6 =>
  y_gd (z_ok h o6 13) <|
  y_gd (z_ix (36 : Int32) (z_N h o6)) <|
  y_br ((z_I h o6 (36 : Int32).toNatClampNeg) ≤ x2)
    (y_mp <|
    y_gd (z_ix ((52 : Int32) + ((4 : Int32) * x1)) (z_N h o6)) <|
    y_nm ((z_I h o6 ((52 : Int32) + ((4 : Int32) * x1)).toNatClampNeg)) fun v12 =>
    y_br (v12 = (-1 : Int32))
      (some ((1 : Int32), h))
      (y_br (v12 = (-2 : Int32))
        (some ((0 : Int32), h))
        (some (((10 : Int32) + v12), h))))
    (y_gd (z_ix ((52 : Int32) + ((4 : Int32) * x1)) (z_N h o6)) <|
    y_gd (z_ix ((37 : Int32) + x2) (z_N h o6)) <|
    y_gd (!decide ((2 : Int32) = 0)) <|
    y_br ((z_I h o6 ((52 : Int32) + ((4 : Int32) * x1)).toNatClampNeg) = ((z_I h o6 ((37 : Int32) + x2).toNatClampNeg) / (2 : Int32)))
      (y_gd (z_ix ((37 : Int32) + x2) (z_N h o6)) <|
      y_gd (!decide ((2 : Int32) = 0)) <|
      y_br (((z_I h o6 ((37 : Int32) + x2).toNatClampNeg) - (z_I h o6 ((37 : Int32) + x2).toNatClampNeg) / (2 : Int32) * (2 : Int32)) = (1 : Int32))
        (fX12_leads_b90 o0 x2 o6 ((52 : Int32) + ((4 : Int32) * x1)) (1 : Int32) h)
        (fX12_leads_b90 o0 x2 o6 ((52 : Int32) + ((4 : Int32) * x1)) (2 : Int32) h))
      (y_mp <|
      some ((-2 : Int32), h)))
noncomputable def fX12_leads_b21 (o0 : Nat) (x1 : Int32) (x2 : Int32) (h : z_T) : Option (Int32 × z_T) := y_lp (fun q : Int32 × Int32 => fX12_leads_b21_i o0 h q.1 q.2) (x1, x2)
noncomputable def fX12_leads (o0 : Nat) (h : z_T) : Option (Int32 × z_T) :=
  y_gd (z_ok h o0 11) <|
  y_nm (z_sI h o0 0 (0 : Int32)) fun h24 =>
  y_bi (z_R h24 o0 6) fun o25 =>
  y_gd (z_ok h24 o25 13) <|
  y_gd (z_ix (49 : Int32) (z_N h24 o25)) <|
  y_br ((z_I h24 o25 (49 : Int32).toNatClampNeg) = 0)
    (some ((-1 : Int32), h24))
    (fX12_leads_b21 o0 (0 : Int32) (0 : Int32) h24)
set_option maxHeartbeats 4000000 in
set_option maxRecDepth 100000 in
theorem mm_X12_leads {G : z_Gt} {S : State → Prop} (hSK : z_SK S) (l : Launch) (ad : Nat → Nat) (o0 : Nat) (h : z_T) {r0 : Int32} {h9 : z_T} (hv : fX12_leads o0 h = some (r0, h9)) : z_Mi G S l yX12_leads cX12_leads 3 (.int) rm_X12_leads 0 0 [.ref (ad o0)] ad h h9 r0 := by
  refine z_ofW hSK (by decide) (Nat.le_of_ble_eq_true rfl) ?_
  intro p e s m args below meth c ls hc hr hnm hB hl
  have hx := hc.1.1
  have hb := hc.1.2.1
  have hown := hc.1.2.2.2.1
  have hts := hc.1.2.2.2.2
  replace hc : z_C G S ad (z_n h) p m c cX12_leads 3 s args RX12 meth := hc
  replace hown : s.vm.findClass RX12 = some m.cls := hown
  replace hl : lv_has ls 3 [(0, .ref (ad o0))] := hl
  show W p l e rm_X12_leads s m args below meth c s.heap [] 0 0 (MQ below (z_Qi G ad h9 (z_n h) s.heap.size r0) args s 0 0 (z_A ad (z_n h) s.heap.size)) (F0 m 0 ls [])
  obtain ⟨rs, kt⟩ : ∃ rs : Int32 × z_T, rs = (r0, h9) := ⟨_, rfl⟩
  generalize hn0 : z_n h = n0 at hc hB ⊢
  have L21 : ∀ (h : z_T) (nn21 : Nat) (x1 : Int32) (x2 : Int32) (H : Heap) (locs : List Loc) (ls : Array Slot), z_B G ad n0 s h H locs → lv_has ls 3 [(0, .ref (ad o0)), (1, .int x1), (2, .int x2)] → ∀ vv21, y_lpN (fun q : Int32 × Int32 => fX12_leads_b21_i o0 h q.1 q.2) nn21 (x1, x2) = some vv21 → vv21 = (r0, h9) → W p l e rm_X12_leads s m args below meth c H locs 0 0 (MQ below (z_Qi G ad h9 n0 s.heap.size r0) args s 0 0 (z_A ad n0 s.heap.size)) (F0 m 21 ls []) := by
    intro h nn21
    induction nn21 with
    | zero => intro x1 x2 H locs ls hB hl vv21 hv kv21; exact absurd hv (fun q => y_lpN_0 q)
    | succ nn21 ih21 =>
      intro x1 x2 H locs ls hB hl vv21 hv kv21
      obtain ⟨w, hq, kw21⟩ := y_lpN_e hv
      clear hv
      have hv : fX12_leads_b21_i o0 h x1 x2 = some w := hq
      clear hq
      have b90 : ∀ (x2 : Int32) (s0 : Nat) (s1 : Int32) (s2 : Int32) (H : Heap) (locs : List Loc) (ls : Array Slot), z_B G ad n0 s h H locs → lv_has ls 3 [(0, .ref (ad o0)), (2, .int x2)] → ∀ w, fX12_leads_b90 o0 x2 s0 s1 s2 h = some w → y_lq (fun q : Int32 × Int32 => fX12_leads_b21_i o0 h q.1 q.2) nn21 vv21 w → W p l e rm_X12_leads s m args below meth c H locs 0 0 (MQ below (z_Qi G ad h9 n0 s.heap.size r0) args s 0 0 (z_A ad n0 s.heap.size)) (F0 m 90 ls [.int s2, .int s1, .ref (ad s0)]) := by
        intro x2 s0 s1 s2 H locs ls hB hl w hv kw21
        refine lv_iadd hx hb dX12_leads_90 ?_
        obtain ⟨g1, hv⟩ := y_gd_e hv
        obtain ⟨i2, hv⟩ := y_gd_e hv
        refine z_iald hc hB g1 i2 dX12_leads_91 ?_
        obtain ⟨v3, ev3, hv⟩ := y_nm_e hv
        rw [← ev3]
        refine lv_istore_n (lv' := [(1, .int v3), (0, .ref (ad o0)), (2, .int x2)]) hx hb dX12_leads_92 rfl hl (by decide) rfl (fun ls hl => ?_)
        obtain ⟨v4, ev4, hv⟩ := y_nm_e hv
        refine lv_iinc (v := v4) (lv' := [(2, .int v4), (1, .int v3), (0, .ref (ad o0))]) hx hb dX12_leads_93 hl (k := 2) rfl (by rw [ev4]; rfl) (by decide) rfl (fun ls hl => ?_)
        refine lv_goto (tgt := 21) hx hb dX12_leads_96 (by decide) ?_
        replace hv := Option.some.inj hv
        subst hv
        exact ih21 v3 v4 _ _ _ hB (lv_sub hl [2, 1, 0] rfl) _ kw21 kv21
      refine lv_iload_n hx hb dX12_leads_21 rfl (lv_at hl 2 rfl) ?_
      refine lv_aload_n hx hb dX12_leads_22 rfl (lv_at hl 0 rfl) ?_
      obtain ⟨g5, hv⟩ := y_gd_e hv
      obtain ⟨o6, eo6, hv⟩ := y_bi_e hv
      refine z_getR hc hB 11 6 g5 eo6 (by decide) (by decide) rfl (z_l1 hc qfX12_33) dX12_leads_23 ?_
      refine lv_bipush (v := (36 : Int32)) hx hb dX12_leads_26 (by decide) ?_
      obtain ⟨g7, hv⟩ := y_gd_e hv
      obtain ⟨i8, hv⟩ := y_gd_e hv
      refine z_iald hc hB g7 i8 dX12_leads_28 ?_
      refine lv_icmp_ge (tgt := 99) hx hb dX12_leads_29 (by decide) (fun c9 => ?_) (fun c9 => ?_)
      · replace hv := y_br_t hv c9
        obtain ⟨t10, hq, ew⟩ := y_mp_e hv
        clear hv; subst ew
        replace kw21 : t10 = _ := kw21
        subst kw21
        have hv := hq
        clear hq
        refine lv_aload_n hx hb dX12_leads_99 rfl (lv_at hl 0 rfl) ?_
        refine z_getR hc hB 11 6 g5 eo6 (by decide) (by decide) rfl (z_l1 hc qfX12_33) dX12_leads_100 ?_
        refine lv_bipush (v := (52 : Int32)) hx hb dX12_leads_103 (by decide) ?_
        refine lv_iconst (v := (4 : Int32)) hx hb dX12_leads_105 (by decide) ?_
        refine lv_iload_n hx hb dX12_leads_106 rfl (lv_at hl 1 rfl) ?_
        refine lv_imul hx hb dX12_leads_107 ?_
        refine lv_iadd hx hb dX12_leads_108 ?_
        obtain ⟨i11, hv⟩ := y_gd_e hv
        refine z_iald hc hB g7 i11 dX12_leads_109 ?_
        obtain ⟨v12, ev12, hv⟩ := y_nm_e hv
        rw [← ev12]
        refine lv_istore_n (lv' := [(2, .int v12), (0, .ref (ad o0)), (1, .int x1)]) hx hb dX12_leads_110 rfl hl (by decide) rfl (fun ls hl => ?_)
        refine lv_iload_n hx hb dX12_leads_111 rfl (lv_at hl 0 rfl) ?_
        refine lv_iconst (v := (-1 : Int32)) hx hb dX12_leads_112 (by decide) ?_
        refine lv_icmp_ne (tgt := 120) hx hb dX12_leads_113 (by decide) (fun c13 => ?_) (fun c13 => ?_)
        · replace hv := y_br_f hv c13
          refine lv_iload_n hx hb dX12_leads_120 rfl (lv_at hl 0 rfl) ?_
          refine lv_bipush (v := (-2 : Int32)) hx hb dX12_leads_121 (by decide) ?_
          refine lv_icmp_ne (tgt := 130) hx hb dX12_leads_123 (by decide) (fun c14 => ?_) (fun c14 => ?_)
          · replace hv := y_br_f hv c14
            refine lv_bipush (v := (10 : Int32)) hx hb dX12_leads_130 (by decide) ?_
            refine lv_iload_n hx hb dX12_leads_132 rfl (lv_at hl 0 rfl) ?_
            refine lv_iadd hx hb dX12_leads_133 ?_
            replace hv := Option.some.inj hv
            subst hv
            obtain ⟨e1, e2⟩ := y_pr kv21
            rw [← e1, ← e2]
            exact z_iret hc hB hr dX12_leads_134
          · replace hv := y_br_t hv c14
            refine lv_iconst (v := (0 : Int32)) hx hb dX12_leads_126 (by decide) ?_
            refine lv_goto (tgt := 134) hx hb dX12_leads_127 (by decide) ?_
            replace hv := Option.some.inj hv
            subst hv
            obtain ⟨e1, e2⟩ := y_pr kv21
            rw [← e1, ← e2]
            exact z_iret hc hB hr dX12_leads_134
        · replace hv := y_br_t hv c13
          refine lv_iconst (v := (1 : Int32)) hx hb dX12_leads_116 (by decide) ?_
          refine lv_goto (tgt := 134) hx hb dX12_leads_117 (by decide) ?_
          replace hv := Option.some.inj hv
          subst hv
          obtain ⟨e1, e2⟩ := y_pr kv21
          rw [← e1, ← e2]
          exact z_iret hc hB hr dX12_leads_134
      · replace hv := y_br_f hv c9
        refine lv_aload_n hx hb dX12_leads_32 rfl (lv_at hl 0 rfl) ?_
        refine z_getR hc hB 11 6 g5 eo6 (by decide) (by decide) rfl (z_l1 hc qfX12_33) dX12_leads_33 ?_
        refine lv_bipush (v := (52 : Int32)) hx hb dX12_leads_36 (by decide) ?_
        refine lv_iconst (v := (4 : Int32)) hx hb dX12_leads_38 (by decide) ?_
        refine lv_iload_n hx hb dX12_leads_39 rfl (lv_at hl 1 rfl) ?_
        refine lv_imul hx hb dX12_leads_40 ?_
        refine lv_iadd hx hb dX12_leads_41 ?_
        obtain ⟨i15, hv⟩ := y_gd_e hv
        refine z_iald hc hB g7 i15 dX12_leads_42 ?_
        refine lv_aload_n hx hb dX12_leads_43 rfl (lv_at hl 0 rfl) ?_
        refine z_getR hc hB 11 6 g5 eo6 (by decide) (by decide) rfl (z_l1 hc qfX12_33) dX12_leads_44 ?_
        refine lv_bipush (v := (37 : Int32)) hx hb dX12_leads_47 (by decide) ?_
        refine lv_iload_n hx hb dX12_leads_49 rfl (lv_at hl 2 rfl) ?_
        refine lv_iadd hx hb dX12_leads_50 ?_
        obtain ⟨i16, hv⟩ := y_gd_e hv
        refine z_iald hc hB g7 i16 dX12_leads_51 ?_
        refine lv_iconst (v := (2 : Int32)) hx hb dX12_leads_52 (by decide) ?_
        obtain ⟨z17, hv⟩ := y_gd_e hv
        refine lv_idiv hx hb dX12_leads_53 (y_ne z17) ?_
        refine lv_icmp_eq (tgt := 60) hx hb dX12_leads_54 (by decide) (fun c18 => ?_) (fun c18 => ?_)
        · replace hv := y_br_t hv c18
          refine lv_aload_n hx hb dX12_leads_60 rfl (lv_at hl 0 rfl) ?_
          refine z_getR hc hB 11 6 g5 eo6 (by decide) (by decide) rfl (z_l1 hc qfX12_33) dX12_leads_61 ?_
          refine lv_bipush (v := (52 : Int32)) hx hb dX12_leads_64 (by decide) ?_
          refine lv_iconst (v := (4 : Int32)) hx hb dX12_leads_66 (by decide) ?_
          refine lv_iload_n hx hb dX12_leads_67 rfl (lv_at hl 1 rfl) ?_
          refine lv_imul hx hb dX12_leads_68 ?_
          refine lv_iadd hx hb dX12_leads_69 ?_
          refine lv_aload_n hx hb dX12_leads_70 rfl (lv_at hl 0 rfl) ?_
          refine z_getR hc hB 11 6 g5 eo6 (by decide) (by decide) rfl (z_l1 hc qfX12_33) dX12_leads_71 ?_
          refine lv_bipush (v := (37 : Int32)) hx hb dX12_leads_74 (by decide) ?_
          refine lv_iload_n hx hb dX12_leads_76 rfl (lv_at hl 2 rfl) ?_
          refine lv_iadd hx hb dX12_leads_77 ?_
          obtain ⟨i19, hv⟩ := y_gd_e hv
          refine z_iald hc hB g7 i19 dX12_leads_78 ?_
          refine lv_iconst (v := (2 : Int32)) hx hb dX12_leads_79 (by decide) ?_
          obtain ⟨z20, hv⟩ := y_gd_e hv
          refine lv_irem hx hb dX12_leads_80 (y_ne z20) ?_
          refine lv_iconst (v := (1 : Int32)) hx hb dX12_leads_81 (by decide) ?_
          refine lv_icmp_ne (tgt := 89) hx hb dX12_leads_82 (by decide) (fun c21 => ?_) (fun c21 => ?_)
          · replace hv := y_br_f hv c21
            refine lv_iconst (v := (2 : Int32)) hx hb dX12_leads_89 (by decide) ?_
            exact b90 x2 o6 ((52 : Int32) + ((4 : Int32) * x1)) (2 : Int32) _ _ _ hB (lv_sub hl [0, 2] rfl) _ hv kw21
          · replace hv := y_br_t hv c21
            refine lv_iconst (v := (1 : Int32)) hx hb dX12_leads_85 (by decide) ?_
            refine lv_goto (tgt := 90) hx hb dX12_leads_86 (by decide) ?_
            exact b90 x2 o6 ((52 : Int32) + ((4 : Int32) * x1)) (1 : Int32) _ _ _ hB (lv_sub hl [0, 2] rfl) _ hv kw21
        · replace hv := y_br_f hv c18
          obtain ⟨t22, hq, ew⟩ := y_mp_e hv
          clear hv; subst ew
          replace kw21 : t22 = _ := kw21
          subst kw21
          have hv := hq
          clear hq
          refine lv_bipush (v := (-2 : Int32)) hx hb dX12_leads_57 (by decide) ?_
          replace hv := Option.some.inj hv
          subst hv
          obtain ⟨e1, e2⟩ := y_pr kv21
          rw [← e1, ← e2]
          exact z_iret hc hB hr dX12_leads_59
  rw [← kt] at hv
  refine lv_aload_n hx hb dX12_leads_0 rfl (lv_at hl 0 rfl) ?_
  refine lv_iconst (v := (0 : Int32)) hx hb dX12_leads_1 (by decide) ?_
  obtain ⟨g23, hv⟩ := y_gd_e hv
  obtain ⟨h24, eh24, hv⟩ := y_nm_e hv
  refine y_putI hc hB 11 0 eh24 g23 (z_l1 hc qfX12_1) dX12_leads_2 (by decide) (by decide) rfl rfl rfl rfl (fun H locs hB => ?_)
  refine lv_aload_n hx hb dX12_leads_5 rfl (lv_at hl 0 rfl) ?_
  obtain ⟨o25, eo25, hv⟩ := y_bi_e hv
  refine z_getR hc hB 11 6 (by rw [eh24]; exact g23) eo25 (by decide) (by decide) rfl (z_l1 hc qfX12_33) dX12_leads_6 ?_
  refine lv_bipush (v := (49 : Int32)) hx hb dX12_leads_9 (by decide) ?_
  obtain ⟨g26, hv⟩ := y_gd_e hv
  obtain ⟨i27, hv⟩ := y_gd_e hv
  refine z_iald hc hB g26 i27 dX12_leads_11 ?_
  refine lv_if_ne (tgt := 17) hx hb dX12_leads_12 (by decide) (fun c28 => ?_) (fun c28 => ?_)
  · replace hv := y_br_f hv c28
    refine lv_iconst (v := (0 : Int32)) hx hb dX12_leads_17 (by decide) ?_
    refine lv_istore_n (lv' := [(1, .int (0 : Int32)), (0, .ref (ad o0))]) hx hb dX12_leads_18 rfl hl (by decide) rfl (fun ls hl => ?_)
    refine lv_iconst (v := (0 : Int32)) hx hb dX12_leads_19 (by decide) ?_
    refine lv_istore_n (lv' := [(2, .int (0 : Int32)), (1, .int (0 : Int32)), (0, .ref (ad o0))]) hx hb dX12_leads_20 rfl hl (by decide) rfl (fun ls hl => ?_)
    obtain ⟨n, hv⟩ := y_lp_e hv
    exact L21 h24 n (0 : Int32) (0 : Int32) _ _ _ hB (lv_sub hl [2, 1, 0] rfl) _ hv kt
  · replace hv := y_br_t hv c28
    refine lv_iconst (v := (-1 : Int32)) hx hb dX12_leads_15 (by decide) ?_
    replace hv := Option.some.inj hv
    subst hv
    obtain ⟨e1, e2⟩ := y_pr kt
    rw [← e1, ← e2]
    exact z_iret hc hB hr dX12_leads_16
theorem qfX12_368 : Cond.fieldLink RX12 368 "DreamTestsModel" "lotSet" "I" ∈ z_ws := List.mem_filter.mpr ⟨List.mem_append_right _ (List.mem_of_getElem? (i := 1340) (by decide +kernel)), rfl⟩
theorem qfX12_371 : Cond.fieldLink RX12 371 "DreamTestsModel" "lotUp" "J" ∈ z_ws := List.mem_filter.mpr ⟨List.mem_append_right _ (List.mem_of_getElem? (i := 1338) (by decide +kernel)), rfl⟩
theorem qkX12_379 : Cond.constantLong RX12 379 (9 : Int64) ∈ z_ws := List.mem_filter.mpr ⟨List.mem_append_right _ (List.mem_of_getElem? (i := 1781) (by decide +kernel)), rfl⟩
theorem qfX12_374 : Cond.fieldLink RX12 374 "DreamTestsModel" "lotBelow" "J" ∈ z_ws := List.mem_filter.mpr ⟨List.mem_append_right _ (List.mem_of_getElem? (i := 1339) (by decide +kernel)), rfl⟩
theorem qkX12_377 : Cond.constantLong RX12 377 (2520 : Int64) ∈ z_ws := List.mem_filter.mpr ⟨List.mem_append_right _ (List.mem_of_getElem? (i := 1780) (by decide +kernel)), rfl⟩
theorem dX12_hasLot_0 : decode cX12_hasLot 0 = .ok (.aload_n 0, 1) := by decide +kernel
theorem dX12_hasLot_1 : decode cX12_hasLot 1 = .ok (.iconst 0, 1) := by decide +kernel
theorem dX12_hasLot_2 : decode cX12_hasLot 2 = .ok (.putfield 368, 3) := by decide +kernel
theorem dX12_hasLot_5 : decode cX12_hasLot 5 = .ok (.aload_n 0, 1) := by decide +kernel
theorem dX12_hasLot_6 : decode cX12_hasLot 6 = .ok (.lconst 0, 1) := by decide +kernel
theorem dX12_hasLot_7 : decode cX12_hasLot 7 = .ok (.putfield 371, 3) := by decide +kernel
theorem dX12_hasLot_10 : decode cX12_hasLot 10 = .ok (.aload_n 0, 1) := by decide +kernel
theorem dX12_hasLot_11 : decode cX12_hasLot 11 = .ok (.lconst 1, 1) := by decide +kernel
theorem dX12_hasLot_12 : decode cX12_hasLot 12 = .ok (.putfield 374, 3) := by decide +kernel
theorem dX12_hasLot_15 : decode cX12_hasLot 15 = .ok (.iconst 0, 1) := by decide +kernel
theorem dX12_hasLot_16 : decode cX12_hasLot 16 = .ok (.istore_n 1, 1) := by decide +kernel
theorem dX12_hasLot_17 : decode cX12_hasLot 17 = .ok (.iload_n 1, 1) := by decide +kernel
theorem dX12_hasLot_18 : decode cX12_hasLot 18 = .ok (.iconst 1, 1) := by decide +kernel
theorem dX12_hasLot_19 : decode cX12_hasLot 19 = .ok (.aload_n 0, 1) := by decide +kernel
theorem dX12_hasLot_20 : decode cX12_hasLot 20 = .ok (.getfield 33, 3) := by decide +kernel
theorem dX12_hasLot_23 : decode cX12_hasLot 23 = .ok (.iconst 0, 1) := by decide +kernel
theorem dX12_hasLot_24 : decode cX12_hasLot 24 = .ok (.iaload, 1) := by decide +kernel
theorem dX12_hasLot_25 : decode cX12_hasLot 25 = .ok (.ishl, 1) := by decide +kernel
theorem dX12_hasLot_26 : decode cX12_hasLot 26 = .ok (.if_icmp .ge 199, 3) := by decide +kernel
theorem dX12_hasLot_29 : decode cX12_hasLot 29 = .ok (.iload_n 1, 1) := by decide +kernel
theorem dX12_hasLot_30 : decode cX12_hasLot 30 = .ok (.invokestatic 292, 3) := by decide +kernel
theorem dX12_hasLot_33 : decode cX12_hasLot 33 = .ok (.istore_n 2, 1) := by decide +kernel
theorem dX12_hasLot_34 : decode cX12_hasLot 34 = .ok (.lconst 0, 1) := by decide +kernel
theorem dX12_hasLot_35 : decode cX12_hasLot 35 = .ok (.lstore_n 3, 1) := by decide +kernel
theorem dX12_hasLot_36 : decode cX12_hasLot 36 = .ok (.iload_n 2, 1) := by decide +kernel
theorem dX12_hasLot_37 : decode cX12_hasLot 37 = .ok (.iconst 1, 1) := by decide +kernel
theorem dX12_hasLot_38 : decode cX12_hasLot 38 = .ok (.if_icmp .le 7, 3) := by decide +kernel
theorem dX12_hasLot_41 : decode cX12_hasLot 41 = .ok (.iconst 1, 1) := by decide +kernel
theorem dX12_hasLot_42 : decode cX12_hasLot 42 = .ok (.goto 4, 3) := by decide +kernel
theorem dX12_hasLot_45 : decode cX12_hasLot 45 = .ok (.iconst 0, 1) := by decide +kernel
theorem dX12_hasLot_46 : decode cX12_hasLot 46 = .ok (.istore 5, 2) := by decide +kernel
theorem dX12_hasLot_48 : decode cX12_hasLot 48 = .ok (.iconst 0, 1) := by decide +kernel
theorem dX12_hasLot_49 : decode cX12_hasLot 49 = .ok (.istore 6, 2) := by decide +kernel
theorem dX12_hasLot_51 : decode cX12_hasLot 51 = .ok (.iload 6, 2) := by decide +kernel
theorem dX12_hasLot_53 : decode cX12_hasLot 53 = .ok (.aload_n 0, 1) := by decide +kernel
theorem dX12_hasLot_54 : decode cX12_hasLot 54 = .ok (.getfield 33, 3) := by decide +kernel
theorem dX12_hasLot_57 : decode cX12_hasLot 57 = .ok (.iconst 0, 1) := by decide +kernel
theorem dX12_hasLot_58 : decode cX12_hasLot 58 = .ok (.iaload, 1) := by decide +kernel
theorem dX12_hasLot_59 : decode cX12_hasLot 59 = .ok (.if_icmp .ge 74, 3) := by decide +kernel
theorem dX12_hasLot_62 : decode cX12_hasLot 62 = .ok (.iload 5, 2) := by decide +kernel
theorem dX12_hasLot_64 : decode cX12_hasLot 64 = .ok (.ifCond .eq 69, 3) := by decide +kernel
theorem dX12_hasLot_67 : decode cX12_hasLot 67 = .ok (.iload_n 1, 1) := by decide +kernel
theorem dX12_hasLot_68 : decode cX12_hasLot 68 = .ok (.iload 6, 2) := by decide +kernel
theorem dX12_hasLot_70 : decode cX12_hasLot 70 = .ok (.invokestatic 210, 3) := by decide +kernel
theorem dX12_hasLot_73 : decode cX12_hasLot 73 = .ok (.ifCond .ne 6, 3) := by decide +kernel
theorem dX12_hasLot_76 : decode cX12_hasLot 76 = .ok (.goto 51, 3) := by decide +kernel
theorem dX12_hasLot_79 : decode cX12_hasLot 79 = .ok (.aload_n 0, 1) := by decide +kernel
theorem dX12_hasLot_80 : decode cX12_hasLot 80 = .ok (.getfield 33, 3) := by decide +kernel
theorem dX12_hasLot_83 : decode cX12_hasLot 83 = .ok (.bipush 16, 2) := by decide +kernel
theorem dX12_hasLot_85 : decode cX12_hasLot 85 = .ok (.iload 6, 2) := by decide +kernel
theorem dX12_hasLot_87 : decode cX12_hasLot 87 = .ok (.iadd, 1) := by decide +kernel
theorem dX12_hasLot_88 : decode cX12_hasLot 88 = .ok (.iaload, 1) := by decide +kernel
theorem dX12_hasLot_89 : decode cX12_hasLot 89 = .ok (.bipush 9, 2) := by decide +kernel
theorem dX12_hasLot_91 : decode cX12_hasLot 91 = .ok (.if_icmp .ge 7, 3) := by decide +kernel
theorem dX12_hasLot_94 : decode cX12_hasLot 94 = .ok (.iconst 1, 1) := by decide +kernel
theorem dX12_hasLot_95 : decode cX12_hasLot 95 = .ok (.goto 4, 3) := by decide +kernel
theorem dX12_hasLot_98 : decode cX12_hasLot 98 = .ok (.iconst 0, 1) := by decide +kernel
theorem dX12_hasLot_99 : decode cX12_hasLot 99 = .ok (.istore 5, 2) := by decide +kernel
theorem dX12_hasLot_101 : decode cX12_hasLot 101 = .ok (.iload 5, 2) := by decide +kernel
theorem dX12_hasLot_103 : decode cX12_hasLot 103 = .ok (.ifCond .eq 24, 3) := by decide +kernel
theorem dX12_hasLot_106 : decode cX12_hasLot 106 = .ok (.lload_n 3, 1) := by decide +kernel
theorem dX12_hasLot_107 : decode cX12_hasLot 107 = .ok (.sipush 2520, 3) := by decide +kernel
theorem dX12_hasLot_110 : decode cX12_hasLot 110 = .ok (.bipush 9, 2) := by decide +kernel
theorem dX12_hasLot_112 : decode cX12_hasLot 112 = .ok (.aload_n 0, 1) := by decide +kernel
theorem dX12_hasLot_113 : decode cX12_hasLot 113 = .ok (.getfield 33, 3) := by decide +kernel
theorem dX12_hasLot_116 : decode cX12_hasLot 116 = .ok (.bipush 16, 2) := by decide +kernel
theorem dX12_hasLot_118 : decode cX12_hasLot 118 = .ok (.iload 6, 2) := by decide +kernel
theorem dX12_hasLot_120 : decode cX12_hasLot 120 = .ok (.iadd, 1) := by decide +kernel
theorem dX12_hasLot_121 : decode cX12_hasLot 121 = .ok (.iaload, 1) := by decide +kernel
theorem dX12_hasLot_122 : decode cX12_hasLot 122 = .ok (.isub, 1) := by decide +kernel
theorem dX12_hasLot_123 : decode cX12_hasLot 123 = .ok (.idiv, 1) := by decide +kernel
theorem dX12_hasLot_124 : decode cX12_hasLot 124 = .ok (.i2l, 1) := by decide +kernel
theorem dX12_hasLot_125 : decode cX12_hasLot 125 = .ok (.ladd, 1) := by decide +kernel
theorem dX12_hasLot_126 : decode cX12_hasLot 126 = .ok (.lstore_n 3, 1) := by decide +kernel
theorem dX12_hasLot_127 : decode cX12_hasLot 127 = .ok (.iinc 6 1, 3) := by decide +kernel
theorem dX12_hasLot_130 : decode cX12_hasLot 130 = .ok (.goto (-79), 3) := by decide +kernel
theorem dX12_hasLot_133 : decode cX12_hasLot 133 = .ok (.iload 5, 2) := by decide +kernel
theorem dX12_hasLot_135 : decode cX12_hasLot 135 = .ok (.ifCond .ne 6, 3) := by decide +kernel
theorem dX12_hasLot_138 : decode cX12_hasLot 138 = .ok (.goto 81, 3) := by decide +kernel
theorem dX12_hasLot_141 : decode cX12_hasLot 141 = .ok (.iload_n 2, 1) := by decide +kernel
theorem dX12_hasLot_142 : decode cX12_hasLot 142 = .ok (.iconst 1, 1) := by decide +kernel
theorem dX12_hasLot_143 : decode cX12_hasLot 143 = .ok (.isub, 1) := by decide +kernel
theorem dX12_hasLot_144 : decode cX12_hasLot 144 = .ok (.i2l, 1) := by decide +kernel
theorem dX12_hasLot_145 : decode cX12_hasLot 145 = .ok (.ldc2_w 377, 3) := by decide +kernel
theorem dX12_hasLot_148 : decode cX12_hasLot 148 = .ok (.lmul, 1) := by decide +kernel
theorem dX12_hasLot_149 : decode cX12_hasLot 149 = .ok (.lstore 6, 2) := by decide +kernel
theorem dX12_hasLot_151 : decode cX12_hasLot 151 = .ok (.lload 6, 2) := by decide +kernel
theorem dX12_hasLot_153 : decode cX12_hasLot 153 = .ok (.aload_n 0, 1) := by decide +kernel
theorem dX12_hasLot_154 : decode cX12_hasLot 154 = .ok (.getfield 374, 3) := by decide +kernel
theorem dX12_hasLot_157 : decode cX12_hasLot 157 = .ok (.lmul, 1) := by decide +kernel
theorem dX12_hasLot_158 : decode cX12_hasLot 158 = .ok (.aload_n 0, 1) := by decide +kernel
theorem dX12_hasLot_159 : decode cX12_hasLot 159 = .ok (.getfield 371, 3) := by decide +kernel
theorem dX12_hasLot_162 : decode cX12_hasLot 162 = .ok (.ldc2_w 379, 3) := by decide +kernel
theorem dX12_hasLot_165 : decode cX12_hasLot 165 = .ok (.lmul, 1) := by decide +kernel
theorem dX12_hasLot_166 : decode cX12_hasLot 166 = .ok (.lload_n 3, 1) := by decide +kernel
theorem dX12_hasLot_167 : decode cX12_hasLot 167 = .ok (.lmul, 1) := by decide +kernel
theorem dX12_hasLot_168 : decode cX12_hasLot 168 = .ok (.lsub, 1) := by decide +kernel
theorem dX12_hasLot_169 : decode cX12_hasLot 169 = .ok (.lstore 8, 2) := by decide +kernel
theorem dX12_hasLot_171 : decode cX12_hasLot 171 = .ok (.lload 8, 2) := by decide +kernel
theorem dX12_hasLot_173 : decode cX12_hasLot 173 = .ok (.lconst 0, 1) := by decide +kernel
theorem dX12_hasLot_174 : decode cX12_hasLot 174 = .ok (.lcmp, 1) := by decide +kernel
theorem dX12_hasLot_175 : decode cX12_hasLot 175 = .ok (.ifCond .lt 44, 3) := by decide +kernel
theorem dX12_hasLot_178 : decode cX12_hasLot 178 = .ok (.lload 8, 2) := by decide +kernel
theorem dX12_hasLot_180 : decode cX12_hasLot 180 = .ok (.lconst 0, 1) := by decide +kernel
theorem dX12_hasLot_181 : decode cX12_hasLot 181 = .ok (.lcmp, 1) := by decide +kernel
theorem dX12_hasLot_182 : decode cX12_hasLot 182 = .ok (.ifCond .ne 17, 3) := by decide +kernel
theorem dX12_hasLot_185 : decode cX12_hasLot 185 = .ok (.iload_n 2, 1) := by decide +kernel
theorem dX12_hasLot_186 : decode cX12_hasLot 186 = .ok (.aload_n 0, 1) := by decide +kernel
theorem dX12_hasLot_187 : decode cX12_hasLot 187 = .ok (.getfield 368, 3) := by decide +kernel
theorem dX12_hasLot_190 : decode cX12_hasLot 190 = .ok (.invokestatic 292, 3) := by decide +kernel
theorem dX12_hasLot_193 : decode cX12_hasLot 193 = .ok (.if_icmp .gt 6, 3) := by decide +kernel
theorem dX12_hasLot_196 : decode cX12_hasLot 196 = .ok (.goto 23, 3) := by decide +kernel
theorem dX12_hasLot_199 : decode cX12_hasLot 199 = .ok (.aload_n 0, 1) := by decide +kernel
theorem dX12_hasLot_200 : decode cX12_hasLot 200 = .ok (.iload_n 1, 1) := by decide +kernel
theorem dX12_hasLot_201 : decode cX12_hasLot 201 = .ok (.putfield 368, 3) := by decide +kernel
theorem dX12_hasLot_204 : decode cX12_hasLot 204 = .ok (.aload_n 0, 1) := by decide +kernel
theorem dX12_hasLot_205 : decode cX12_hasLot 205 = .ok (.lload 6, 2) := by decide +kernel
theorem dX12_hasLot_207 : decode cX12_hasLot 207 = .ok (.putfield 371, 3) := by decide +kernel
theorem dX12_hasLot_210 : decode cX12_hasLot 210 = .ok (.aload_n 0, 1) := by decide +kernel
theorem dX12_hasLot_211 : decode cX12_hasLot 211 = .ok (.ldc2_w 379, 3) := by decide +kernel
theorem dX12_hasLot_214 : decode cX12_hasLot 214 = .ok (.lload_n 3, 1) := by decide +kernel
theorem dX12_hasLot_215 : decode cX12_hasLot 215 = .ok (.lmul, 1) := by decide +kernel
theorem dX12_hasLot_216 : decode cX12_hasLot 216 = .ok (.putfield 374, 3) := by decide +kernel
theorem dX12_hasLot_219 : decode cX12_hasLot 219 = .ok (.iinc 1 1, 3) := by decide +kernel
theorem dX12_hasLot_222 : decode cX12_hasLot 222 = .ok (.goto (-205), 3) := by decide +kernel
theorem dX12_hasLot_225 : decode cX12_hasLot 225 = .ok (.aload_n 0, 1) := by decide +kernel
theorem dX12_hasLot_226 : decode cX12_hasLot 226 = .ok (.getfield 368, 3) := by decide +kernel
theorem dX12_hasLot_229 : decode cX12_hasLot 229 = .ok (.ifCond .le 7, 3) := by decide +kernel
theorem dX12_hasLot_232 : decode cX12_hasLot 232 = .ok (.iconst 1, 1) := by decide +kernel
theorem dX12_hasLot_233 : decode cX12_hasLot 233 = .ok (.goto 4, 3) := by decide +kernel
theorem dX12_hasLot_236 : decode cX12_hasLot 236 = .ok (.iconst 0, 1) := by decide +kernel
theorem dX12_hasLot_237 : decode cX12_hasLot 237 = .ok (.ireturn, 1) := by decide +kernel
abbrev rm_X12_hasLot : Room := { frames := 1, cells := 0, slots := 0, locals := 22 }
noncomputable def fX12_hasLot_b219 (o0 : Nat) (x1 : Int32) (h : z_T) : Option ((Int32 × z_T) ⊕ (Int32 × z_T)) :=
  y_nm (x1 + 1) fun v1 =>
  some (.inl (v1, h))
noncomputable def fX12_hasLot_b199 (o0 : Nat) (x1 : Int32) (l3 : Int64) (l6 : Int64) (h : z_T) : Option ((Int32 × z_T) ⊕ (Int32 × z_T)) :=
  y_gd (z_ok h o0 11) <|
  y_nm (z_sI h o0 40 x1) fun h3 =>
  y_nm (z_sL h3 o0 38 l6) fun h4 =>
  y_nm (z_sL h4 o0 39 ((9 : Int64) * l3)) fun h5 =>
  fX12_hasLot_b219 o0 x1 h5
noncomputable def fX12_hasLot_b133 (o0 : Nat) (x1 : Int32) (x2 : Int32) (l3 : Int64) (x5 : Int32) (h : z_T) : Option ((Int32 × z_T) ⊕ (Int32 × z_T)) :=
  y_br (x5 = 0)
    (fX12_hasLot_b219 o0 x1 h)
    (y_nm ((((x2 - (1 : Int32))).toInt64 * (2520 : Int64))) fun v7 =>
    y_gd (z_ok h o0 11) <|
    y_nm (((v7 * (z_L h o0 39)) - (((z_L h o0 38) * (9 : Int64)) * l3))) fun v9 =>
    y_br ((lg_cmp v9 (0 : Int64)) < 0)
      (fX12_hasLot_b219 o0 x1 h)
      (y_br ((lg_cmp v9 (0 : Int64)) = 0)
        (y_bi (fX12_bits (z_I h o0 40)) fun r13 =>
        y_br (r13 < x2)
          (fX12_hasLot_b199 o0 x1 l3 v7 h)
          (fX12_hasLot_b219 o0 x1 h))
        (fX12_hasLot_b199 o0 x1 l3 v7 h)))
noncomputable def fX12_hasLot_b127 (o0 : Nat) (x1 : Int32) (x2 : Int32) (l3 : Int64) (x5 : Int32) (x6 : Int32) (h : z_T) : Option ((Int64 × Int32 × Int32) ⊕ ((Int32 × z_T) ⊕ (Int32 × z_T))) :=
  y_nm (x6 + 1) fun v18 =>
  some (.inl (l3, x5, v18))
noncomputable def fX12_hasLot_b99 (o0 : Nat) (x1 : Int32) (x2 : Int32) (l3 : Int64) (x6 : Int32) (s0 : Int32) (h : z_T) : Option ((Int64 × Int32 × Int32) ⊕ ((Int32 × z_T) ⊕ (Int32 × z_T))) :=
  y_br (s0 = 0)
    (fX12_hasLot_b127 o0 x1 x2 l3 s0 x6 h)
    (y_gd (z_ok h o0 11) <|
    y_bi (z_R h o0 6) fun o21 =>
    y_gd (z_ok h o21 13) <|
    y_gd (z_ix ((16 : Int32) + x6) (z_N h o21)) <|
    y_gd (!decide (((9 : Int32) - (z_I h o21 ((16 : Int32) + x6).toNatClampNeg)) = 0)) <|
    y_nm ((l3 + (((2520 : Int32) / ((9 : Int32) - (z_I h o21 ((16 : Int32) + x6).toNatClampNeg)))).toInt64)) fun v25 =>
    fX12_hasLot_b127 o0 x1 x2 v25 s0 x6 h)
noncomputable def fX12_hasLot_b51_i (o0 : Nat) (x1 : Int32) (x2 : Int32) (h : z_T) (l3 : Int64) (x5 : Int32) (x6 : Int32) : Option ((Int64 × Int32 × Int32) ⊕ ((Int32 × z_T) ⊕ (Int32 × z_T))) :=
  y_gd (z_ok h o0 11) <|
  y_bi (z_R h o0 6) fun o27 =>
  y_gd (z_ok h o27 13) <|
  y_gd (z_ix (0 : Int32) (z_N h o27)) <|
  y_br ((z_I h o27 (0 : Int32).toNatClampNeg) ≤ x6)
    (y_mp <|
    fX12_hasLot_b133 o0 x1 x2 l3 x5 h)
    (y_br (x5 = 0)
      (y_mp <|
      fX12_hasLot_b133 o0 x1 x2 l3 x5 h)
      (y_bi (fX12_bitOf x1 x6) fun r35 =>
      y_br (r35 = 0)
        (fX12_hasLot_b127 o0 x1 x2 l3 x5 x6 h)
        (y_gd (z_ix ((16 : Int32) + x6) (z_N h o27)) <|
        y_br ((9 : Int32) ≤ (z_I h o27 ((16 : Int32) + x6).toNatClampNeg))
          (fX12_hasLot_b99 o0 x1 x2 l3 x6 (0 : Int32) h)
          (fX12_hasLot_b99 o0 x1 x2 l3 x6 (1 : Int32) h))))
noncomputable def fX12_hasLot_b51 (o0 : Nat) (x1 : Int32) (x2 : Int32) (l3 : Int64) (x5 : Int32) (x6 : Int32) (h : z_T) : Option ((Int32 × z_T) ⊕ (Int32 × z_T)) := y_lp (fun q : Int64 × Int32 × Int32 => fX12_hasLot_b51_i o0 x1 x2 h q.1 q.2.1 q.2.2) (l3, x5, x6)
noncomputable def fX12_hasLot_b46 (o0 : Nat) (x1 : Int32) (x2 : Int32) (l3 : Int64) (s0 : Int32) (h : z_T) : Option ((Int32 × z_T) ⊕ (Int32 × z_T)) :=
  fX12_hasLot_b51 o0 x1 x2 l3 s0 (0 : Int32) h
noncomputable def fX12_hasLot_b17_i (o0 : Nat) (x1 : Int32) (h : z_T) : Option ((Int32 × z_T) ⊕ (Int32 × z_T)) :=
  y_gd (z_ok h o0 11) <|
  y_bi (z_R h o0 6) fun o43 =>
  y_gd (z_ok h o43 13) <|
  y_gd (z_ix (0 : Int32) (z_N h o43)) <|
  y_br (((1 : Int32) <<< ((z_I h o43 (0 : Int32).toNatClampNeg) &&& 31)) ≤ x1)
    (y_mp <|
    y_br ((z_I h o0 40) ≤ 0)
      (some ((0 : Int32), h))
      (some ((1 : Int32), h)))
    (y_bi (fX12_bits x1) fun r50 =>
    y_br (r50 ≤ (1 : Int32))
      (fX12_hasLot_b46 o0 x1 r50 (0 : Int64) (0 : Int32) h)
      (fX12_hasLot_b46 o0 x1 r50 (0 : Int64) (1 : Int32) h))
noncomputable def fX12_hasLot_b17 (o0 : Nat) (x1 : Int32) (h : z_T) : Option (Int32 × z_T) := y_lp (fun q : Int32 × z_T => fX12_hasLot_b17_i o0 q.1 q.2) (x1, h)
noncomputable def fX12_hasLot (o0 : Nat) (h : z_T) : Option (Int32 × z_T) :=
  y_gd (z_ok h o0 11) <|
  y_nm (z_sI h o0 40 (0 : Int32)) fun h56 =>
  y_nm (z_sL h56 o0 38 (0 : Int64)) fun h57 =>
  y_nm (z_sL h57 o0 39 (1 : Int64)) fun h58 =>
  fX12_hasLot_b17 o0 (0 : Int32) h58
set_option maxHeartbeats 4000000 in
set_option maxRecDepth 100000 in
theorem mm_X12_hasLot {G : z_Gt} {S : State → Prop} (hSK : z_SK S) (l : Launch) (ad : Nat → Nat) (o0 : Nat) (h : z_T) {r0 : Int32} {h9 : z_T} (hv : fX12_hasLot o0 h = some (r0, h9)) : z_Mi G S l yX12_hasLot cX12_hasLot 10 (.boolean) rm_X12_hasLot 0 0 [.ref (ad o0)] ad h h9 r0 := by
  refine z_ofW hSK (by decide) (Nat.le_of_ble_eq_true rfl) ?_
  intro p e s m args below meth c ls hc hr hnm hB hl
  have hx := hc.1.1
  have hb := hc.1.2.1
  have hown := hc.1.2.2.2.1
  have hts := hc.1.2.2.2.2
  replace hc : z_C G S ad (z_n h) p m c cX12_hasLot 10 s args RX12 meth := hc
  replace hown : s.vm.findClass RX12 = some m.cls := hown
  replace hl : lv_has ls 10 [(0, .ref (ad o0))] := hl
  show W p l e rm_X12_hasLot s m args below meth c s.heap [] 0 0 (MQ below (z_Qi G ad h9 (z_n h) s.heap.size r0) args s 0 0 (z_A ad (z_n h) s.heap.size)) (F0 m 0 ls [])
  obtain ⟨rs, kt⟩ : ∃ rs : Int32 × z_T, rs = (r0, h9) := ⟨_, rfl⟩
  generalize hn0 : z_n h = n0 at hc hB ⊢
  have L17 : ∀ (nn17 : Nat) (x1 : Int32) (h : z_T) (H : Heap) (locs : List Loc) (ls : Array Slot), z_B G ad n0 s h H locs → lv_has ls 10 [(0, .ref (ad o0)), (1, .int x1)] → ∀ vv17, y_lpN (fun q : Int32 × z_T => fX12_hasLot_b17_i o0 q.1 q.2) nn17 (x1, h) = some vv17 → vv17 = (r0, h9) → W p l e rm_X12_hasLot s m args below meth c H locs 0 0 (MQ below (z_Qi G ad h9 n0 s.heap.size r0) args s 0 0 (z_A ad n0 s.heap.size)) (F0 m 17 ls []) := by
    intro nn17
    induction nn17 with
    | zero => intro x1 h H locs ls hB hl vv17 hv kv17; exact absurd hv (fun q => y_lpN_0 q)
    | succ nn17 ih17 =>
      intro x1 h H locs ls hB hl vv17 hv kv17
      obtain ⟨w, hq, kw17⟩ := y_lpN_e hv
      clear hv
      have hv : fX12_hasLot_b17_i o0 x1 h = some w := hq
      clear hq
      have b219 : ∀ (x1 : Int32) (h : z_T) (H : Heap) (locs : List Loc) (ls : Array Slot), z_B G ad n0 s h H locs → lv_has ls 10 [(0, .ref (ad o0)), (1, .int x1)] → ∀ w, fX12_hasLot_b219 o0 x1 h = some w → y_lq (fun q : Int32 × z_T => fX12_hasLot_b17_i o0 q.1 q.2) nn17 vv17 w → W p l e rm_X12_hasLot s m args below meth c H locs 0 0 (MQ below (z_Qi G ad h9 n0 s.heap.size r0) args s 0 0 (z_A ad n0 s.heap.size)) (F0 m 219 ls []) := by
        intro x1 h H locs ls hB hl w hv kw17
        obtain ⟨v1, ev1, hv⟩ := y_nm_e hv
        refine lv_iinc (v := v1) (lv' := [(1, .int v1), (0, .ref (ad o0))]) hx hb dX12_hasLot_219 hl (k := 1) rfl (by rw [ev1]; rfl) (by decide) rfl (fun ls hl => ?_)
        refine lv_goto (tgt := 17) hx hb dX12_hasLot_222 (by decide) ?_
        replace hv := Option.some.inj hv
        subst hv
        exact ih17 v1 h _ _ _ hB (lv_sub hl [1, 0] rfl) _ kw17 kv17
      have b199 : ∀ (x1 : Int32) (l3 : Int64) (l6 : Int64) (h : z_T) (H : Heap) (locs : List Loc) (ls : Array Slot), z_B G ad n0 s h H locs → lv_has ls 10 [(0, .ref (ad o0)), (1, .int x1), (3, .long l3), (6, .long l6)] → ∀ w, fX12_hasLot_b199 o0 x1 l3 l6 h = some w → y_lq (fun q : Int32 × z_T => fX12_hasLot_b17_i o0 q.1 q.2) nn17 vv17 w → W p l e rm_X12_hasLot s m args below meth c H locs 0 0 (MQ below (z_Qi G ad h9 n0 s.heap.size r0) args s 0 0 (z_A ad n0 s.heap.size)) (F0 m 199 ls []) := by
        intro x1 l3 l6 h H locs ls hB hl w hv kw17
        refine lv_aload_n hx hb dX12_hasLot_199 rfl (lv_at hl 0 rfl) ?_
        refine lv_iload_n hx hb dX12_hasLot_200 rfl (lv_at hl 1 rfl) ?_
        obtain ⟨g2, hv⟩ := y_gd_e hv
        obtain ⟨h3, eh3, hv⟩ := y_nm_e hv
        refine y_putI hc hB 11 40 eh3 g2 (z_l1 hc qfX12_368) dX12_hasLot_201 (by decide) (by decide) rfl rfl rfl rfl (fun H locs hB => ?_)
        refine lv_aload_n hx hb dX12_hasLot_204 rfl (lv_at hl 0 rfl) ?_
        refine lv_lload hx hb dX12_hasLot_205 (lv_at hl 3 rfl) ?_
        obtain ⟨h4, eh4, hv⟩ := y_nm_e hv
        refine y_putL hc hB 11 38 eh4 (by rw [eh3]; exact g2) (z_l1 hc qfX12_371) dX12_hasLot_207 (by decide) (by decide) rfl rfl rfl rfl (fun H locs hB => ?_)
        refine lv_aload_n hx hb dX12_hasLot_210 rfl (lv_at hl 0 rfl) ?_
        refine lv_ldc2 (v := (9 : Int64)) hx hb hown (hts _ qkX12_379) dX12_hasLot_211 ?_
        refine lv_lload_n hx hb dX12_hasLot_214 rfl (lv_at hl 2 rfl) ?_
        refine lv_lmul hx hb dX12_hasLot_215 ?_
        obtain ⟨h5, eh5, hv⟩ := y_nm_e hv
        refine y_putL hc hB 11 39 eh5 (by rw [eh4, eh3]; exact g2) (z_l1 hc qfX12_374) dX12_hasLot_216 (by decide) (by decide) rfl rfl rfl rfl (fun H locs hB => ?_)
        exact b219 x1 h5 _ _ _ hB (lv_sub hl [0, 1] rfl) _ hv kw17
      have b133 : ∀ (x1 : Int32) (x2 : Int32) (l3 : Int64) (x5 : Int32) (h : z_T) (H : Heap) (locs : List Loc) (ls : Array Slot), z_B G ad n0 s h H locs → lv_has ls 10 [(0, .ref (ad o0)), (1, .int x1), (2, .int x2), (3, .long l3), (5, .int x5)] → ∀ w, fX12_hasLot_b133 o0 x1 x2 l3 x5 h = some w → y_lq (fun q : Int32 × z_T => fX12_hasLot_b17_i o0 q.1 q.2) nn17 vv17 w → W p l e rm_X12_hasLot s m args below meth c H locs 0 0 (MQ below (z_Qi G ad h9 n0 s.heap.size r0) args s 0 0 (z_A ad n0 s.heap.size)) (F0 m 133 ls []) := by
        intro x1 x2 l3 x5 h H locs ls hB hl w hv kw17
        refine lv_iload hx hb dX12_hasLot_133 (lv_at hl 4 rfl) ?_
        refine lv_if_ne (tgt := 141) hx hb dX12_hasLot_135 (by decide) (fun c6 => ?_) (fun c6 => ?_)
        · replace hv := y_br_f hv c6
          refine lv_iload_n hx hb dX12_hasLot_141 rfl (lv_at hl 2 rfl) ?_
          refine lv_iconst (v := (1 : Int32)) hx hb dX12_hasLot_142 (by decide) ?_
          refine lv_isub hx hb dX12_hasLot_143 ?_
          refine lv_i2l hx hb dX12_hasLot_144 rfl ?_
          refine lv_ldc2 (v := (2520 : Int64)) hx hb hown (hts _ qkX12_377) dX12_hasLot_145 ?_
          refine lv_lmul hx hb dX12_hasLot_148 ?_
          obtain ⟨v7, ev7, hv⟩ := y_nm_e hv
          rw [← ev7]
          refine lv_lstore (lv' := [(6, .long v7), (0, .ref (ad o0)), (1, .int x1), (2, .int x2), (3, .long l3), (5, .int x5)]) hx hb dX12_hasLot_149 hl (by decide) rfl (fun ls hl => ?_)
          refine lv_lload hx hb dX12_hasLot_151 (lv_at hl 0 rfl) ?_
          refine lv_aload_n hx hb dX12_hasLot_153 rfl (lv_at hl 1 rfl) ?_
          obtain ⟨g8, hv⟩ := y_gd_e hv
          refine z_getL hc hB 11 39 g8 (by decide) (by decide) rfl (z_l1 hc qfX12_374) dX12_hasLot_154 ?_
          refine lv_lmul hx hb dX12_hasLot_157 ?_
          refine lv_aload_n hx hb dX12_hasLot_158 rfl (lv_at hl 1 rfl) ?_
          refine z_getL hc hB 11 38 g8 (by decide) (by decide) rfl (z_l1 hc qfX12_371) dX12_hasLot_159 ?_
          refine lv_ldc2 (v := (9 : Int64)) hx hb hown (hts _ qkX12_379) dX12_hasLot_162 ?_
          refine lv_lmul hx hb dX12_hasLot_165 ?_
          refine lv_lload_n hx hb dX12_hasLot_166 rfl (lv_at hl 4 rfl) ?_
          refine lv_lmul hx hb dX12_hasLot_167 ?_
          refine lv_lsub hx hb dX12_hasLot_168 ?_
          obtain ⟨v9, ev9, hv⟩ := y_nm_e hv
          rw [← ev9]
          refine lv_lstore (lv' := [(8, .long v9), (6, .long v7), (0, .ref (ad o0)), (1, .int x1), (2, .int x2), (3, .long l3), (5, .int x5)]) hx hb dX12_hasLot_169 hl (by decide) rfl (fun ls hl => ?_)
          refine lv_lload hx hb dX12_hasLot_171 (lv_at hl 0 rfl) ?_
          refine lv_lconst (v := (0 : Int64)) hx hb dX12_hasLot_173 (by decide) ?_
          refine W.lcmp hx hb dX12_hasLot_174 ?_
          refine lv_if_lt (tgt := 219) hx hb dX12_hasLot_175 (by decide) (fun c10 => ?_) (fun c10 => ?_)
          · replace hv := y_br_t hv c10
            exact b219 x1 h _ _ _ hB (lv_sub hl [2, 3] rfl) _ hv kw17
          · replace hv := y_br_f hv c10
            refine lv_lload hx hb dX12_hasLot_178 (lv_at hl 0 rfl) ?_
            refine lv_lconst (v := (0 : Int64)) hx hb dX12_hasLot_180 (by decide) ?_
            refine W.lcmp hx hb dX12_hasLot_181 ?_
            refine lv_if_ne (tgt := 199) hx hb dX12_hasLot_182 (by decide) (fun c11 => ?_) (fun c11 => ?_)
            · replace hv := y_br_f hv c11
              exact b199 x1 l3 v7 h _ _ _ hB (lv_sub hl [2, 3, 5, 1] rfl) _ hv kw17
            · replace hv := y_br_t hv c11
              refine lv_iload_n hx hb dX12_hasLot_185 rfl (lv_at hl 4 rfl) ?_
              refine lv_aload_n hx hb dX12_hasLot_186 rfl (lv_at hl 2 rfl) ?_
              refine z_getI hc hB 11 40 g8 (by decide) (by decide) rfl (z_l1 hc qfX12_368) dX12_hasLot_187 ?_
              obtain ⟨r13, c12, hv⟩ := y_bi_e hv
              refine z_thI hc hB (z_runS hc hB (mm_X12_bits hSK l ad (z_I h o0 40) h c12) md_X12_bits qmX12_292 rfl rfl ⟨Nat.le_of_ble_eq_true rfl, Nat.le_of_ble_eq_true rfl⟩ rfl hl.1 rfl (Nat.le_of_ble_eq_true rfl) dX12_hasLot_190 ⟨Nat.le_of_ble_eq_true rfl, Nat.le_of_ble_eq_true rfl⟩) (fun H locs hB => ?_)
              refine lv_icmp_gt (tgt := 199) hx hb dX12_hasLot_193 (by decide) (fun c17 => ?_) (fun c17 => ?_)
              · replace hv := y_br_t hv c17
                exact b199 x1 l3 v7 h _ _ _ hB (lv_sub hl [2, 3, 5, 1] rfl) _ hv kw17
              · replace hv := y_br_f hv c17
                refine lv_goto (tgt := 219) hx hb dX12_hasLot_196 (by decide) ?_
                exact b219 x1 h _ _ _ hB (lv_sub hl [2, 3] rfl) _ hv kw17
        · replace hv := y_br_t hv c6
          refine lv_goto (tgt := 219) hx hb dX12_hasLot_138 (by decide) ?_
          exact b219 x1 h _ _ _ hB (lv_sub hl [0, 1] rfl) _ hv kw17
      have L51 : ∀ (x1 : Int32) (x2 : Int32) (h : z_T) (nn51 : Nat) (l3 : Int64) (x5 : Int32) (x6 : Int32) (H : Heap) (locs : List Loc) (ls : Array Slot), z_B G ad n0 s h H locs → lv_has ls 10 [(0, .ref (ad o0)), (1, .int x1), (2, .int x2), (3, .long l3), (5, .int x5), (6, .int x6)] → ∀ vv51, y_lpN (fun q : Int64 × Int32 × Int32 => fX12_hasLot_b51_i o0 x1 x2 h q.1 q.2.1 q.2.2) nn51 (l3, x5, x6) = some vv51 → y_lq (fun q : Int32 × z_T => fX12_hasLot_b17_i o0 q.1 q.2) nn17 vv17 vv51 → W p l e rm_X12_hasLot s m args below meth c H locs 0 0 (MQ below (z_Qi G ad h9 n0 s.heap.size r0) args s 0 0 (z_A ad n0 s.heap.size)) (F0 m 51 ls []) := by
        intro x1 x2 h nn51
        induction nn51 with
        | zero => intro l3 x5 x6 H locs ls hB hl vv51 hv kv51; exact absurd hv (fun q => y_lpN_0 q)
        | succ nn51 ih51 =>
          intro l3 x5 x6 H locs ls hB hl vv51 hv kv51
          obtain ⟨w, hq, kw51⟩ := y_lpN_e hv
          clear hv
          have hv : fX12_hasLot_b51_i o0 x1 x2 h l3 x5 x6 = some w := hq
          clear hq
          have b127 : ∀ (l3 : Int64) (x5 : Int32) (x6 : Int32) (H : Heap) (locs : List Loc) (ls : Array Slot), z_B G ad n0 s h H locs → lv_has ls 10 [(0, .ref (ad o0)), (1, .int x1), (2, .int x2), (3, .long l3), (5, .int x5), (6, .int x6)] → ∀ w, fX12_hasLot_b127 o0 x1 x2 l3 x5 x6 h = some w → y_lq (fun q : Int64 × Int32 × Int32 => fX12_hasLot_b51_i o0 x1 x2 h q.1 q.2.1 q.2.2) nn51 vv51 w → W p l e rm_X12_hasLot s m args below meth c H locs 0 0 (MQ below (z_Qi G ad h9 n0 s.heap.size r0) args s 0 0 (z_A ad n0 s.heap.size)) (F0 m 127 ls []) := by
            intro l3 x5 x6 H locs ls hB hl w hv kw51
            obtain ⟨v18, ev18, hv⟩ := y_nm_e hv
            refine lv_iinc (v := v18) (lv' := [(6, .int v18), (0, .ref (ad o0)), (1, .int x1), (2, .int x2), (3, .long l3), (5, .int x5)]) hx hb dX12_hasLot_127 hl (k := 5) rfl (by rw [ev18]; rfl) (by decide) rfl (fun ls hl => ?_)
            refine lv_goto (tgt := 51) hx hb dX12_hasLot_130 (by decide) ?_
            replace hv := Option.some.inj hv
            subst hv
            exact ih51 l3 x5 v18 _ _ _ hB (lv_sub hl [1, 2, 3, 4, 5, 0] rfl) _ kw51 kv51
          have b99 : ∀ (l3 : Int64) (x6 : Int32) (s0 : Int32) (H : Heap) (locs : List Loc) (ls : Array Slot), z_B G ad n0 s h H locs → lv_has ls 10 [(0, .ref (ad o0)), (1, .int x1), (2, .int x2), (3, .long l3), (6, .int x6)] → ∀ w, fX12_hasLot_b99 o0 x1 x2 l3 x6 s0 h = some w → y_lq (fun q : Int64 × Int32 × Int32 => fX12_hasLot_b51_i o0 x1 x2 h q.1 q.2.1 q.2.2) nn51 vv51 w → W p l e rm_X12_hasLot s m args below meth c H locs 0 0 (MQ below (z_Qi G ad h9 n0 s.heap.size r0) args s 0 0 (z_A ad n0 s.heap.size)) (F0 m 99 ls [.int s0]) := by
            intro l3 x6 s0 H locs ls hB hl w hv kw51
            refine lv_istore (lv' := [(5, .int s0), (0, .ref (ad o0)), (1, .int x1), (2, .int x2), (3, .long l3), (6, .int x6)]) hx hb dX12_hasLot_99 hl (by decide) rfl (fun ls hl => ?_)
            refine lv_iload hx hb dX12_hasLot_101 (lv_at hl 0 rfl) ?_
            refine lv_if_eq (tgt := 127) hx hb dX12_hasLot_103 (by decide) (fun c19 => ?_) (fun c19 => ?_)
            · replace hv := y_br_t hv c19
              exact b127 l3 s0 x6 _ _ _ hB (lv_sub hl [1, 2, 3, 4, 0, 5] rfl) _ hv kw51
            · replace hv := y_br_f hv c19
              refine lv_lload_n hx hb dX12_hasLot_106 rfl (lv_at hl 4 rfl) ?_
              refine lv_sipush (v := (2520 : Int32)) hx hb dX12_hasLot_107 (by decide) ?_
              refine lv_bipush (v := (9 : Int32)) hx hb dX12_hasLot_110 (by decide) ?_
              refine lv_aload_n hx hb dX12_hasLot_112 rfl (lv_at hl 1 rfl) ?_
              obtain ⟨g20, hv⟩ := y_gd_e hv
              obtain ⟨o21, eo21, hv⟩ := y_bi_e hv
              refine z_getR hc hB 11 6 g20 eo21 (by decide) (by decide) rfl (z_l1 hc qfX12_33) dX12_hasLot_113 ?_
              refine lv_bipush (v := (16 : Int32)) hx hb dX12_hasLot_116 (by decide) ?_
              refine lv_iload hx hb dX12_hasLot_118 (lv_at hl 5 rfl) ?_
              refine lv_iadd hx hb dX12_hasLot_120 ?_
              obtain ⟨g22, hv⟩ := y_gd_e hv
              obtain ⟨i23, hv⟩ := y_gd_e hv
              refine z_iald hc hB g22 i23 dX12_hasLot_121 ?_
              refine lv_isub hx hb dX12_hasLot_122 ?_
              obtain ⟨z24, hv⟩ := y_gd_e hv
              refine lv_idiv hx hb dX12_hasLot_123 (y_ne z24) ?_
              refine lv_i2l hx hb dX12_hasLot_124 rfl ?_
              refine lv_ladd hx hb dX12_hasLot_125 ?_
              obtain ⟨v25, ev25, hv⟩ := y_nm_e hv
              rw [← ev25]
              refine lv_lstore_n (lv' := [(3, .long v25), (5, .int s0), (0, .ref (ad o0)), (1, .int x1), (2, .int x2), (6, .int x6)]) hx hb dX12_hasLot_126 rfl hl (by decide) rfl (fun ls hl => ?_)
              exact b127 v25 s0 x6 _ _ _ hB (lv_sub hl [2, 3, 4, 0, 1, 5] rfl) _ hv kw51
          refine lv_iload hx hb dX12_hasLot_51 (lv_at hl 5 rfl) ?_
          refine lv_aload_n hx hb dX12_hasLot_53 rfl (lv_at hl 0 rfl) ?_
          obtain ⟨g26, hv⟩ := y_gd_e hv
          obtain ⟨o27, eo27, hv⟩ := y_bi_e hv
          refine z_getR hc hB 11 6 g26 eo27 (by decide) (by decide) rfl (z_l1 hc qfX12_33) dX12_hasLot_54 ?_
          refine lv_iconst (v := (0 : Int32)) hx hb dX12_hasLot_57 (by decide) ?_
          obtain ⟨g28, hv⟩ := y_gd_e hv
          obtain ⟨i29, hv⟩ := y_gd_e hv
          refine z_iald hc hB g28 i29 dX12_hasLot_58 ?_
          refine lv_icmp_ge (tgt := 133) hx hb dX12_hasLot_59 (by decide) (fun c30 => ?_) (fun c30 => ?_)
          · replace hv := y_br_t hv c30
            obtain ⟨t31, hq, ew⟩ := y_mp_e hv
            clear hv; subst ew
            replace kw51 : t31 = _ := kw51
            subst kw51
            have hv := hq
            clear hq
            exact b133 x1 x2 l3 x5 h _ _ _ hB (lv_sub hl [0, 1, 2, 3, 4] rfl) _ hv kv51
          · replace hv := y_br_f hv c30
            refine lv_iload hx hb dX12_hasLot_62 (lv_at hl 4 rfl) ?_
            refine lv_if_eq (tgt := 133) hx hb dX12_hasLot_64 (by decide) (fun c32 => ?_) (fun c32 => ?_)
            · replace hv := y_br_t hv c32
              obtain ⟨t33, hq, ew⟩ := y_mp_e hv
              clear hv; subst ew
              replace kw51 : t33 = _ := kw51
              subst kw51
              have hv := hq
              clear hq
              exact b133 x1 x2 l3 x5 h _ _ _ hB (lv_sub hl [0, 1, 2, 3, 4] rfl) _ hv kv51
            · replace hv := y_br_f hv c32
              refine lv_iload_n hx hb dX12_hasLot_67 rfl (lv_at hl 1 rfl) ?_
              refine lv_iload hx hb dX12_hasLot_68 (lv_at hl 5 rfl) ?_
              obtain ⟨r35, c34, hv⟩ := y_bi_e hv
              refine z_thI hc hB (z_runS hc hB (mm_X12_bitOf hSK l ad x1 x6 h c34) md_X12_bitOf qmX12_210 rfl rfl ⟨Nat.le_of_ble_eq_true rfl, Nat.le_of_ble_eq_true rfl⟩ rfl hl.1 rfl (Nat.le_of_ble_eq_true rfl) dX12_hasLot_70 ⟨Nat.le_of_ble_eq_true rfl, Nat.le_of_ble_eq_true rfl⟩) (fun H locs hB => ?_)
              refine lv_if_ne (tgt := 79) hx hb dX12_hasLot_73 (by decide) (fun c39 => ?_) (fun c39 => ?_)
              · replace hv := y_br_f hv c39
                refine lv_aload_n hx hb dX12_hasLot_79 rfl (lv_at hl 0 rfl) ?_
                refine z_getR hc hB 11 6 g26 eo27 (by decide) (by decide) rfl (z_l1 hc qfX12_33) dX12_hasLot_80 ?_
                refine lv_bipush (v := (16 : Int32)) hx hb dX12_hasLot_83 (by decide) ?_
                refine lv_iload hx hb dX12_hasLot_85 (lv_at hl 5 rfl) ?_
                refine lv_iadd hx hb dX12_hasLot_87 ?_
                obtain ⟨i40, hv⟩ := y_gd_e hv
                refine z_iald hc hB g28 i40 dX12_hasLot_88 ?_
                refine lv_bipush (v := (9 : Int32)) hx hb dX12_hasLot_89 (by decide) ?_
                refine lv_icmp_ge (tgt := 98) hx hb dX12_hasLot_91 (by decide) (fun c41 => ?_) (fun c41 => ?_)
                · replace hv := y_br_t hv c41
                  refine lv_iconst (v := (0 : Int32)) hx hb dX12_hasLot_98 (by decide) ?_
                  exact b99 l3 x6 (0 : Int32) _ _ _ hB (lv_sub hl [0, 1, 2, 3, 5] rfl) _ hv kw51
                · replace hv := y_br_f hv c41
                  refine lv_iconst (v := (1 : Int32)) hx hb dX12_hasLot_94 (by decide) ?_
                  refine lv_goto (tgt := 99) hx hb dX12_hasLot_95 (by decide) ?_
                  exact b99 l3 x6 (1 : Int32) _ _ _ hB (lv_sub hl [0, 1, 2, 3, 5] rfl) _ hv kw51
              · replace hv := y_br_t hv c39
                refine lv_goto (tgt := 127) hx hb dX12_hasLot_76 (by decide) ?_
                exact b127 l3 x5 x6 _ _ _ hB (lv_sub hl [0, 1, 2, 3, 4, 5] rfl) _ hv kw51
      have b46 : ∀ (x1 : Int32) (x2 : Int32) (l3 : Int64) (s0 : Int32) (h : z_T) (H : Heap) (locs : List Loc) (ls : Array Slot), z_B G ad n0 s h H locs → lv_has ls 10 [(0, .ref (ad o0)), (1, .int x1), (2, .int x2), (3, .long l3)] → ∀ w, fX12_hasLot_b46 o0 x1 x2 l3 s0 h = some w → y_lq (fun q : Int32 × z_T => fX12_hasLot_b17_i o0 q.1 q.2) nn17 vv17 w → W p l e rm_X12_hasLot s m args below meth c H locs 0 0 (MQ below (z_Qi G ad h9 n0 s.heap.size r0) args s 0 0 (z_A ad n0 s.heap.size)) (F0 m 46 ls [.int s0]) := by
        intro x1 x2 l3 s0 h H locs ls hB hl w hv kw17
        refine lv_istore (lv' := [(5, .int s0), (0, .ref (ad o0)), (1, .int x1), (2, .int x2), (3, .long l3)]) hx hb dX12_hasLot_46 hl (by decide) rfl (fun ls hl => ?_)
        refine lv_iconst (v := (0 : Int32)) hx hb dX12_hasLot_48 (by decide) ?_
        refine lv_istore (lv' := [(6, .int (0 : Int32)), (5, .int s0), (0, .ref (ad o0)), (1, .int x1), (2, .int x2), (3, .long l3)]) hx hb dX12_hasLot_49 hl (by decide) rfl (fun ls hl => ?_)
        obtain ⟨n, hv⟩ := y_lp_e hv
        exact L51 x1 x2 h n l3 s0 (0 : Int32) _ _ _ hB (lv_sub hl [2, 3, 4, 5, 1, 0] rfl) _ hv kw17
      refine lv_iload_n hx hb dX12_hasLot_17 rfl (lv_at hl 1 rfl) ?_
      refine lv_iconst (v := (1 : Int32)) hx hb dX12_hasLot_18 (by decide) ?_
      refine lv_aload_n hx hb dX12_hasLot_19 rfl (lv_at hl 0 rfl) ?_
      obtain ⟨g42, hv⟩ := y_gd_e hv
      obtain ⟨o43, eo43, hv⟩ := y_bi_e hv
      refine z_getR hc hB 11 6 g42 eo43 (by decide) (by decide) rfl (z_l1 hc qfX12_33) dX12_hasLot_20 ?_
      refine lv_iconst (v := (0 : Int32)) hx hb dX12_hasLot_23 (by decide) ?_
      obtain ⟨g44, hv⟩ := y_gd_e hv
      obtain ⟨i45, hv⟩ := y_gd_e hv
      refine z_iald hc hB g44 i45 dX12_hasLot_24 ?_
      refine lv_ishl hx hb dX12_hasLot_25 ?_
      refine lv_icmp_ge (tgt := 225) hx hb dX12_hasLot_26 (by decide) (fun c46 => ?_) (fun c46 => ?_)
      · replace hv := y_br_t hv c46
        obtain ⟨t47, hq, ew⟩ := y_mp_e hv
        clear hv; subst ew
        replace kw17 : t47 = _ := kw17
        subst kw17
        have hv := hq
        clear hq
        refine lv_aload_n hx hb dX12_hasLot_225 rfl (lv_at hl 0 rfl) ?_
        refine z_getI hc hB 11 40 g42 (by decide) (by decide) rfl (z_l1 hc qfX12_368) dX12_hasLot_226 ?_
        refine lv_if_le (tgt := 236) hx hb dX12_hasLot_229 (by decide) (fun c48 => ?_) (fun c48 => ?_)
        · replace hv := y_br_t hv c48
          refine lv_iconst (v := (0 : Int32)) hx hb dX12_hasLot_236 (by decide) ?_
          replace hv := Option.some.inj hv
          subst hv
          obtain ⟨e1, e2⟩ := y_pr kv17
          rw [← e1, ← e2]
          exact z_zret hc hB hr rfl dX12_hasLot_237
        · replace hv := y_br_f hv c48
          refine lv_iconst (v := (1 : Int32)) hx hb dX12_hasLot_232 (by decide) ?_
          refine lv_goto (tgt := 237) hx hb dX12_hasLot_233 (by decide) ?_
          replace hv := Option.some.inj hv
          subst hv
          obtain ⟨e1, e2⟩ := y_pr kv17
          rw [← e1, ← e2]
          exact z_zret hc hB hr rfl dX12_hasLot_237
      · replace hv := y_br_f hv c46
        refine lv_iload_n hx hb dX12_hasLot_29 rfl (lv_at hl 1 rfl) ?_
        obtain ⟨r50, c49, hv⟩ := y_bi_e hv
        refine z_thI hc hB (z_runS hc hB (mm_X12_bits hSK l ad x1 h c49) md_X12_bits qmX12_292 rfl rfl ⟨Nat.le_of_ble_eq_true rfl, Nat.le_of_ble_eq_true rfl⟩ rfl hl.1 rfl (Nat.le_of_ble_eq_true rfl) dX12_hasLot_30 ⟨Nat.le_of_ble_eq_true rfl, Nat.le_of_ble_eq_true rfl⟩) (fun H locs hB => ?_)
        refine lv_istore_n (lv' := [(2, .int r50), (0, .ref (ad o0)), (1, .int x1)]) hx hb dX12_hasLot_33 rfl hl (by decide) rfl (fun ls hl => ?_)
        refine lv_lconst (v := (0 : Int64)) hx hb dX12_hasLot_34 (by decide) ?_
        refine lv_lstore_n (lv' := [(3, .long (0 : Int64)), (2, .int r50), (0, .ref (ad o0)), (1, .int x1)]) hx hb dX12_hasLot_35 rfl hl (by decide) rfl (fun ls hl => ?_)
        refine lv_iload_n hx hb dX12_hasLot_36 rfl (lv_at hl 1 rfl) ?_
        refine lv_iconst (v := (1 : Int32)) hx hb dX12_hasLot_37 (by decide) ?_
        refine lv_icmp_le (tgt := 45) hx hb dX12_hasLot_38 (by decide) (fun c54 => ?_) (fun c54 => ?_)
        · replace hv := y_br_t hv c54
          refine lv_iconst (v := (0 : Int32)) hx hb dX12_hasLot_45 (by decide) ?_
          exact b46 x1 r50 (0 : Int64) (0 : Int32) h _ _ _ hB (lv_sub hl [2, 3, 1, 0] rfl) _ hv kw17
        · replace hv := y_br_f hv c54
          refine lv_iconst (v := (1 : Int32)) hx hb dX12_hasLot_41 (by decide) ?_
          refine lv_goto (tgt := 46) hx hb dX12_hasLot_42 (by decide) ?_
          exact b46 x1 r50 (0 : Int64) (1 : Int32) h _ _ _ hB (lv_sub hl [2, 3, 1, 0] rfl) _ hv kw17
  rw [← kt] at hv
  refine lv_aload_n hx hb dX12_hasLot_0 rfl (lv_at hl 0 rfl) ?_
  refine lv_iconst (v := (0 : Int32)) hx hb dX12_hasLot_1 (by decide) ?_
  obtain ⟨g55, hv⟩ := y_gd_e hv
  obtain ⟨h56, eh56, hv⟩ := y_nm_e hv
  refine y_putI hc hB 11 40 eh56 g55 (z_l1 hc qfX12_368) dX12_hasLot_2 (by decide) (by decide) rfl rfl rfl rfl (fun H locs hB => ?_)
  refine lv_aload_n hx hb dX12_hasLot_5 rfl (lv_at hl 0 rfl) ?_
  refine lv_lconst (v := (0 : Int64)) hx hb dX12_hasLot_6 (by decide) ?_
  obtain ⟨h57, eh57, hv⟩ := y_nm_e hv
  refine y_putL hc hB 11 38 eh57 (by rw [eh56]; exact g55) (z_l1 hc qfX12_371) dX12_hasLot_7 (by decide) (by decide) rfl rfl rfl rfl (fun H locs hB => ?_)
  refine lv_aload_n hx hb dX12_hasLot_10 rfl (lv_at hl 0 rfl) ?_
  refine lv_lconst (v := (1 : Int64)) hx hb dX12_hasLot_11 (by decide) ?_
  obtain ⟨h58, eh58, hv⟩ := y_nm_e hv
  refine y_putL hc hB 11 39 eh58 (by rw [eh57, eh56]; exact g55) (z_l1 hc qfX12_374) dX12_hasLot_12 (by decide) (by decide) rfl rfl rfl rfl (fun H locs hB => ?_)
  refine lv_iconst (v := (0 : Int32)) hx hb dX12_hasLot_15 (by decide) ?_
  refine lv_istore_n (lv' := [(1, .int (0 : Int32)), (0, .ref (ad o0))]) hx hb dX12_hasLot_16 rfl hl (by decide) rfl (fun ls hl => ?_)
  obtain ⟨n, hv⟩ := y_lp_e hv
  exact L17 n (0 : Int32) h58 _ _ _ hB (lv_sub hl [1, 0] rfl) _ hv kt
theorem qmX12_381 : Cond.methodLink RX12 381 yX12_hasLot ∈ z_ws := List.mem_filter.mpr ⟨List.mem_append_right _ (List.mem_of_getElem? (i := 1776) (by decide +kernel)), rfl⟩
theorem qc_X12_hasLot : Cond.code yX12_hasLot cX12_hasLot 10 (some .boolean) ∈ z_ws := List.mem_filter.mpr ⟨List.mem_append_right _ (List.mem_of_getElem? (i := 1779) (by decide +kernel)), rfl⟩
theorem qi_X12_hasLot : Cond.instanceMethod yX12_hasLot ∈ z_ws := List.mem_filter.mpr ⟨List.mem_append_right _ (List.mem_of_getElem? (i := 1778) (by decide +kernel)), rfl⟩
theorem qs_X12_hasLot : Cond.selects RX12 yX12_hasLot yX12_hasLot ∈ z_ws := List.mem_filter.mpr ⟨List.mem_append_left _ (List.mem_of_getElem? (i := 76) (by decide +kernel)), rfl⟩
theorem md_X12_hasLot : z_mdV yX12_hasLot cX12_hasLot 10 (some .boolean) 0 := ⟨⟨qn_RX12, qc_X12_hasLot, ⟨by decide +kernel, by decide +kernel, by decide +kernel⟩⟩, qi_X12_hasLot, qs_X12_hasLot⟩
theorem dX12_lot_0 : decode cX12_lot 0 = .ok (.aload_n 0, 1) := by decide +kernel
theorem dX12_lot_1 : decode cX12_lot 1 = .ok (.iload_n 1, 1) := by decide +kernel
theorem dX12_lot_2 : decode cX12_lot 2 = .ok (.invokestatic 275, 3) := by decide +kernel
theorem dX12_lot_5 : decode cX12_lot 5 = .ok (.ifCond .eq 10, 3) := by decide +kernel
theorem dX12_lot_8 : decode cX12_lot 8 = .ok (.aload_n 0, 1) := by decide +kernel
theorem dX12_lot_9 : decode cX12_lot 9 = .ok (.invokevirtual 381, 3) := by decide +kernel
theorem dX12_lot_12 : decode cX12_lot 12 = .ok (.ifCond .ne 7, 3) := by decide +kernel
theorem dX12_lot_15 : decode cX12_lot 15 = .ok (.iconst 1, 1) := by decide +kernel
theorem dX12_lot_16 : decode cX12_lot 16 = .ok (.goto 4, 3) := by decide +kernel
theorem dX12_lot_19 : decode cX12_lot 19 = .ok (.iconst 0, 1) := by decide +kernel
theorem dX12_lot_20 : decode cX12_lot 20 = .ok (.invokevirtual 278, 3) := by decide +kernel
theorem dX12_lot_23 : decode cX12_lot 23 = .ok (.ifCond .eq 5, 3) := by decide +kernel
theorem dX12_lot_26 : decode cX12_lot 26 = .ok (.lconst 0, 1) := by decide +kernel
theorem dX12_lot_27 : decode cX12_lot 27 = .ok (.lreturn, 1) := by decide +kernel
theorem dX12_lot_28 : decode cX12_lot 28 = .ok (.aload_n 0, 1) := by decide +kernel
theorem dX12_lot_29 : decode cX12_lot 29 = .ok (.getfield 371, 3) := by decide +kernel
theorem dX12_lot_32 : decode cX12_lot 32 = .ok (.aload_n 0, 1) := by decide +kernel
theorem dX12_lot_33 : decode cX12_lot 33 = .ok (.getfield 374, 3) := by decide +kernel
theorem dX12_lot_36 : decode cX12_lot 36 = .ok (.iload_n 1, 1) := by decide +kernel
theorem dX12_lot_37 : decode cX12_lot 37 = .ok (.invokestatic 282, 3) := by decide +kernel
theorem dX12_lot_40 : decode cX12_lot 40 = .ok (.lreturn, 1) := by decide +kernel
abbrev rm_X12_lot : Room := { frames := 2, cells := 0, slots := 0, locals := 53 }
noncomputable def fX12_lot_b20 (o0 : Nat) (x1 : Int32) (s0 : Nat) (s1 : Int32) (h : z_T) : Option (Int64 × z_T) :=
  y_gd (z_ok h s0 11) <|
  y_bi (fX12_throwsIf s0 s1 h) fun ⟨r2, h6⟩ =>
  y_br (r2 = 0)
    (y_gd (z_ok h6 o0 11) <|
    y_bi (fX12_part (z_L h6 o0 38) (z_L h6 o0 39) x1) fun r12 =>
    some (r12, h6))
    (some ((0 : Int64), h6))
noncomputable def fX12_lot_b15 (o0 : Nat) (x1 : Int32) (s0 : Nat) (h : z_T) : Option (Int64 × z_T) :=
  fX12_lot_b20 o0 x1 s0 (1 : Int32) h
noncomputable def fX12_lot (o0 : Nat) (x1 : Int32) (h : z_T) : Option (Int64 × z_T) :=
  y_bi (fX12_isPart x1) fun r16 =>
  y_br (r16 = 0)
    (fX12_lot_b15 o0 x1 o0 h)
    (y_gd (z_ok h o0 11) <|
    y_bi (fX12_hasLot o0 h) fun ⟨r22, h26⟩ =>
    y_br (r22 = 0)
      (fX12_lot_b15 o0 x1 o0 h26)
      (fX12_lot_b20 o0 x1 o0 (0 : Int32) h26))
set_option maxHeartbeats 4000000 in
set_option maxRecDepth 100000 in
theorem mm_X12_lot {G : z_Gt} {S : State → Prop} (hSK : z_SK S) (l : Launch) (ad : Nat → Nat) (o0 : Nat) (x1 : Int32) (h : z_T) {r0 : Int64} {h9 : z_T} (hv : fX12_lot o0 x1 h = some (r0, h9)) : z_Ml G S l yX12_lot cX12_lot 2 (.long) rm_X12_lot 0 0 [.ref (ad o0), .int x1] ad h h9 r0 := by
  refine z_ofW hSK (by decide) (Nat.le_of_ble_eq_true rfl) ?_
  intro p e s m args below meth c ls hc hr hnm hB hl
  have hx := hc.1.1
  have hb := hc.1.2.1
  have hown := hc.1.2.2.2.1
  have hts := hc.1.2.2.2.2
  replace hc : z_C G S ad (z_n h) p m c cX12_lot 2 s args RX12 meth := hc
  replace hown : s.vm.findClass RX12 = some m.cls := hown
  replace hl : lv_has ls 2 [(0, .ref (ad o0)), (1, .int x1)] := hl
  show W p l e rm_X12_lot s m args below meth c s.heap [] 0 0 (MQ below (z_Ql G ad h9 (z_n h) s.heap.size r0) args s 0 0 (z_A ad (z_n h) s.heap.size)) (F0 m 0 ls [])
  obtain ⟨rs, kt⟩ : ∃ rs : Int64 × z_T, rs = (r0, h9) := ⟨_, rfl⟩
  generalize hn0 : z_n h = n0 at hc hB ⊢
  have b20 : ∀ (s0 : Nat) (s1 : Int32) (h : z_T) (H : Heap) (locs : List Loc) (ls : Array Slot), z_B G ad n0 s h H locs → lv_has ls 2 [(0, .ref (ad o0)), (1, .int x1)] → ∀ w, fX12_lot_b20 o0 x1 s0 s1 h = some w → w = (r0, h9) → W p l e rm_X12_lot s m args below meth c H locs 0 0 (MQ below (z_Ql G ad h9 n0 s.heap.size r0) args s 0 0 (z_A ad n0 s.heap.size)) (F0 m 20 ls [.int s1, .ref (ad s0)]) := by
    intro s0 s1 h H locs ls hB hl w hv kb
    obtain ⟨g7, hv⟩ := y_gd_e hv
    obtain ⟨⟨r2, h6⟩, c1, hv⟩ := y_bi_e hv
    refine z_thI hc hB (z_runV hc hB 11 (mm_X12_throwsIf hSK l ad s0 s1 h c1) md_X12_throwsIf qmX12_278 g7 (by decide) rfl rfl rfl ⟨Nat.le_of_ble_eq_true rfl, Nat.le_of_ble_eq_true rfl⟩ rfl hl.1 rfl (Nat.le_of_ble_eq_true rfl) dX12_lot_20 ⟨Nat.le_of_ble_eq_true rfl, Nat.le_of_ble_eq_true rfl⟩) (fun H locs hB => ?_)
    refine lv_if_eq (tgt := 28) hx hb dX12_lot_23 (by decide) (fun c8 => ?_) (fun c8 => ?_)
    · replace hv := y_br_t hv c8
      refine lv_aload_n hx hb dX12_lot_28 rfl (lv_at hl 0 rfl) ?_
      obtain ⟨g9, hv⟩ := y_gd_e hv
      refine z_getL hc hB 11 38 g9 (by decide) (by decide) rfl (z_l1 hc qfX12_371) dX12_lot_29 ?_
      refine lv_aload_n hx hb dX12_lot_32 rfl (lv_at hl 0 rfl) ?_
      refine z_getL hc hB 11 39 g9 (by decide) (by decide) rfl (z_l1 hc qfX12_374) dX12_lot_33 ?_
      refine lv_iload_n hx hb dX12_lot_36 rfl (lv_at hl 1 rfl) ?_
      obtain ⟨r12, c10, hv⟩ := y_bi_e hv
      refine z_thL hc hB (z_runS hc hB (mm_X12_part hSK l ad (z_L h6 o0 38) (z_L h6 o0 39) x1 h6 c10) md_X12_part qmX12_282 rfl rfl ⟨Nat.le_of_ble_eq_true rfl, Nat.le_of_ble_eq_true rfl⟩ rfl hl.1 rfl (Nat.le_of_ble_eq_true rfl) dX12_lot_37 ⟨Nat.le_of_ble_eq_true rfl, Nat.le_of_ble_eq_true rfl⟩) (fun H locs hB => ?_)
      replace hv := Option.some.inj hv
      subst hv
      obtain ⟨e1, e2⟩ := y_pr kb
      rw [← e1, ← e2]
      exact z_lret hc hB hr dX12_lot_40
    · replace hv := y_br_f hv c8
      refine lv_lconst (v := (0 : Int64)) hx hb dX12_lot_26 (by decide) ?_
      replace hv := Option.some.inj hv
      subst hv
      obtain ⟨e1, e2⟩ := y_pr kb
      rw [← e1, ← e2]
      exact z_lret hc hB hr dX12_lot_27
  have b15 : ∀ (s0 : Nat) (h : z_T) (H : Heap) (locs : List Loc) (ls : Array Slot), z_B G ad n0 s h H locs → lv_has ls 2 [(0, .ref (ad o0)), (1, .int x1)] → ∀ w, fX12_lot_b15 o0 x1 s0 h = some w → w = (r0, h9) → W p l e rm_X12_lot s m args below meth c H locs 0 0 (MQ below (z_Ql G ad h9 n0 s.heap.size r0) args s 0 0 (z_A ad n0 s.heap.size)) (F0 m 15 ls [.ref (ad s0)]) := by
    intro s0 h H locs ls hB hl w hv kb
    refine lv_iconst (v := (1 : Int32)) hx hb dX12_lot_15 (by decide) ?_
    refine lv_goto (tgt := 20) hx hb dX12_lot_16 (by decide) ?_
    exact b20 s0 (1 : Int32) h _ _ _ hB (lv_sub hl [0, 1] rfl) _ hv kb
  rw [← kt] at hv
  refine lv_aload_n hx hb dX12_lot_0 rfl (lv_at hl 0 rfl) ?_
  refine lv_iload_n hx hb dX12_lot_1 rfl (lv_at hl 1 rfl) ?_
  obtain ⟨r16, c15, hv⟩ := y_bi_e hv
  refine z_thI hc hB (z_runS hc hB (mm_X12_isPart hSK l ad x1 h c15) md_X12_isPart qmX12_275 rfl rfl ⟨Nat.le_of_ble_eq_true rfl, Nat.le_of_ble_eq_true rfl⟩ rfl hl.1 rfl (Nat.le_of_ble_eq_true rfl) dX12_lot_2 ⟨Nat.le_of_ble_eq_true rfl, Nat.le_of_ble_eq_true rfl⟩) (fun H locs hB => ?_)
  refine lv_if_eq (tgt := 15) hx hb dX12_lot_5 (by decide) (fun c20 => ?_) (fun c20 => ?_)
  · replace hv := y_br_t hv c20
    exact b15 o0 h _ _ _ hB (lv_sub hl [0, 1] rfl) _ hv kt
  · replace hv := y_br_f hv c20
    refine lv_aload_n hx hb dX12_lot_8 rfl (lv_at hl 0 rfl) ?_
    obtain ⟨g27, hv⟩ := y_gd_e hv
    obtain ⟨⟨r22, h26⟩, c21, hv⟩ := y_bi_e hv
    refine z_thI hc hB (z_runV hc hB 11 (mm_X12_hasLot hSK l ad o0 h c21) md_X12_hasLot qmX12_381 g27 (by decide) rfl rfl rfl ⟨Nat.le_of_ble_eq_true rfl, Nat.le_of_ble_eq_true rfl⟩ rfl hl.1 rfl (Nat.le_of_ble_eq_true rfl) dX12_lot_9 ⟨Nat.le_of_ble_eq_true rfl, Nat.le_of_ble_eq_true rfl⟩) (fun H locs hB => ?_)
    refine lv_if_ne (tgt := 19) hx hb dX12_lot_12 (by decide) (fun c28 => ?_) (fun c28 => ?_)
    · replace hv := y_br_f hv c28
      refine lv_iconst (v := (0 : Int32)) hx hb dX12_lot_19 (by decide) ?_
      exact b20 o0 (0 : Int32) h26 _ _ _ hB (lv_sub hl [0, 1] rfl) _ hv kt
    · replace hv := y_br_t hv c28
      exact b15 o0 h26 _ _ _ hB (lv_sub hl [0, 1] rfl) _ hv kt
