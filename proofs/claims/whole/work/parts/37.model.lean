/-! the methods of the reference: the rows that decode, a function each, the walk (by gen3.py) -/
theorem qmX12_456 : Cond.methodLink RX12 456 yX12_operand ∈ z_ws := List.mem_filter.mpr ⟨List.mem_append_right _ (List.mem_of_getElem? (i := 1875) (by decide +kernel)), rfl⟩
theorem qc_X12_operand : Cond.code yX12_operand cX12_operand 5 (some .boolean) ∈ z_ws := List.mem_filter.mpr ⟨List.mem_append_right _ (List.mem_of_getElem? (i := 1878) (by decide +kernel)), rfl⟩
theorem qi_X12_operand : Cond.instanceMethod yX12_operand ∈ z_ws := List.mem_filter.mpr ⟨List.mem_append_right _ (List.mem_of_getElem? (i := 1877) (by decide +kernel)), rfl⟩
theorem qs_X12_operand : Cond.selects RX12 yX12_operand yX12_operand ∈ z_ws := List.mem_filter.mpr ⟨List.mem_append_left _ (List.mem_of_getElem? (i := 89) (by decide +kernel)), rfl⟩
theorem md_X12_operand : z_mdV yX12_operand cX12_operand 5 (some .boolean) 0 := ⟨⟨qn_RX12, qc_X12_operand, ⟨by decide +kernel, by decide +kernel, by decide +kernel⟩⟩, qi_X12_operand, qs_X12_operand⟩
theorem qmX12_453 : Cond.methodLink RX12 453 yX12_behind ∈ z_ws := List.mem_filter.mpr ⟨List.mem_append_right _ (List.mem_of_getElem? (i := 1871) (by decide +kernel)), rfl⟩
theorem qc_X12_behind : Cond.code yX12_behind cX12_behind 1 (some .boolean) ∈ z_ws := List.mem_filter.mpr ⟨List.mem_append_right _ (List.mem_of_getElem? (i := 1874) (by decide +kernel)), rfl⟩
theorem qi_X12_behind : Cond.instanceMethod yX12_behind ∈ z_ws := List.mem_filter.mpr ⟨List.mem_append_right _ (List.mem_of_getElem? (i := 1873) (by decide +kernel)), rfl⟩
theorem qs_X12_behind : Cond.selects RX12 yX12_behind yX12_behind ∈ z_ws := List.mem_filter.mpr ⟨List.mem_append_left _ (List.mem_of_getElem? (i := 88) (by decide +kernel)), rfl⟩
theorem md_X12_behind : z_mdV yX12_behind cX12_behind 1 (some .boolean) 0 := ⟨⟨qn_RX12, qc_X12_behind, ⟨by decide +kernel, by decide +kernel, by decide +kernel⟩⟩, qi_X12_behind, qs_X12_behind⟩
theorem dX12_sentence_0 : decode cX12_sentence 0 = .ok (.aload_n 0, 1) := by decide +kernel
theorem dX12_sentence_1 : decode cX12_sentence 1 = .ok (.iconst 0, 1) := by decide +kernel
theorem dX12_sentence_2 : decode cX12_sentence 2 = .ok (.putfield 1, 3) := by decide +kernel
theorem dX12_sentence_5 : decode cX12_sentence 5 = .ok (.aload_n 0, 1) := by decide +kernel
theorem dX12_sentence_6 : decode cX12_sentence 6 = .ok (.sipush 200, 3) := by decide +kernel
theorem dX12_sentence_9 : decode cX12_sentence 9 = .ok (.invokevirtual 226, 3) := by decide +kernel
theorem dX12_sentence_12 : decode cX12_sentence 12 = .ok (.aload_n 0, 1) := by decide +kernel
theorem dX12_sentence_13 : decode cX12_sentence 13 = .ok (.iconst 0, 1) := by decide +kernel
theorem dX12_sentence_14 : decode cX12_sentence 14 = .ok (.putfield 173, 3) := by decide +kernel
theorem dX12_sentence_17 : decode cX12_sentence 17 = .ok (.aload_n 0, 1) := by decide +kernel
theorem dX12_sentence_18 : decode cX12_sentence 18 = .ok (.iconst 0, 1) := by decide +kernel
theorem dX12_sentence_19 : decode cX12_sentence 19 = .ok (.putfield 425, 3) := by decide +kernel
theorem dX12_sentence_22 : decode cX12_sentence 22 = .ok (.aload_n 0, 1) := by decide +kernel
theorem dX12_sentence_23 : decode cX12_sentence 23 = .ok (.iconst 0, 1) := by decide +kernel
theorem dX12_sentence_24 : decode cX12_sentence 24 = .ok (.putfield 441, 3) := by decide +kernel
theorem dX12_sentence_27 : decode cX12_sentence 27 = .ok (.aload_n 0, 1) := by decide +kernel
theorem dX12_sentence_28 : decode cX12_sentence 28 = .ok (.iconst 0, 1) := by decide +kernel
theorem dX12_sentence_29 : decode cX12_sentence 29 = .ok (.putfield 428, 3) := by decide +kernel
theorem dX12_sentence_32 : decode cX12_sentence 32 = .ok (.aload_n 0, 1) := by decide +kernel
theorem dX12_sentence_33 : decode cX12_sentence 33 = .ok (.iconst 1, 1) := by decide +kernel
theorem dX12_sentence_34 : decode cX12_sentence 34 = .ok (.putfield 435, 3) := by decide +kernel
theorem dX12_sentence_37 : decode cX12_sentence 37 = .ok (.aload_n 0, 1) := by decide +kernel
theorem dX12_sentence_38 : decode cX12_sentence 38 = .ok (.iconst 0, 1) := by decide +kernel
theorem dX12_sentence_39 : decode cX12_sentence 39 = .ok (.putfield 444, 3) := by decide +kernel
theorem dX12_sentence_42 : decode cX12_sentence 42 = .ok (.aload_n 0, 1) := by decide +kernel
theorem dX12_sentence_43 : decode cX12_sentence 43 = .ok (.invokevirtual 185, 3) := by decide +kernel
theorem dX12_sentence_46 : decode cX12_sentence 46 = .ok (.iconst 1, 1) := by decide +kernel
theorem dX12_sentence_47 : decode cX12_sentence 47 = .ok (.istore_n 1, 1) := by decide +kernel
theorem dX12_sentence_48 : decode cX12_sentence 48 = .ok (.iload_n 1, 1) := by decide +kernel
theorem dX12_sentence_49 : decode cX12_sentence 49 = .ok (.ifCond .eq 83, 3) := by decide +kernel
theorem dX12_sentence_52 : decode cX12_sentence 52 = .ok (.aload_n 0, 1) := by decide +kernel
theorem dX12_sentence_53 : decode cX12_sentence 53 = .ok (.getfield 444, 3) := by decide +kernel
theorem dX12_sentence_56 : decode cX12_sentence 56 = .ok (.ifCond .eq 45, 3) := by decide +kernel
theorem dX12_sentence_59 : decode cX12_sentence 59 = .ok (.aload_n 0, 1) := by decide +kernel
theorem dX12_sentence_60 : decode cX12_sentence 60 = .ok (.getfield 156, 3) := by decide +kernel
theorem dX12_sentence_63 : decode cX12_sentence 63 = .ok (.ifCond .ne 38, 3) := by decide +kernel
theorem dX12_sentence_66 : decode cX12_sentence 66 = .ok (.aload_n 0, 1) := by decide +kernel
theorem dX12_sentence_67 : decode cX12_sentence 67 = .ok (.invokevirtual 447, 3) := by decide +kernel
theorem dX12_sentence_70 : decode cX12_sentence 70 = .ok (.aload_n 0, 1) := by decide +kernel
theorem dX12_sentence_71 : decode cX12_sentence 71 = .ok (.bipush 22, 2) := by decide +kernel
theorem dX12_sentence_73 : decode cX12_sentence 73 = .ok (.invokevirtual 450, 3) := by decide +kernel
theorem dX12_sentence_76 : decode cX12_sentence 76 = .ok (.aload_n 0, 1) := by decide +kernel
theorem dX12_sentence_77 : decode cX12_sentence 77 = .ok (.getfield 428, 3) := by decide +kernel
theorem dX12_sentence_80 : decode cX12_sentence 80 = .ok (.ifCond .le 16, 3) := by decide +kernel
theorem dX12_sentence_83 : decode cX12_sentence 83 = .ok (.aload_n 0, 1) := by decide +kernel
theorem dX12_sentence_84 : decode cX12_sentence 84 = .ok (.iconst 1, 1) := by decide +kernel
theorem dX12_sentence_85 : decode cX12_sentence 85 = .ok (.invokevirtual 182, 3) := by decide +kernel
theorem dX12_sentence_88 : decode cX12_sentence 88 = .ok (.pop, 1) := by decide +kernel
theorem dX12_sentence_89 : decode cX12_sentence 89 = .ok (.iconst (-1), 1) := by decide +kernel
theorem dX12_sentence_90 : decode cX12_sentence 90 = .ok (.aload_n 0, 1) := by decide +kernel
theorem dX12_sentence_91 : decode cX12_sentence 91 = .ok (.getfield 176, 3) := by decide +kernel
theorem dX12_sentence_94 : decode cX12_sentence 94 = .ok (.isub, 1) := by decide +kernel
theorem dX12_sentence_95 : decode cX12_sentence 95 = .ok (.ireturn, 1) := by decide +kernel
theorem dX12_sentence_96 : decode cX12_sentence 96 = .ok (.iconst 0, 1) := by decide +kernel
theorem dX12_sentence_97 : decode cX12_sentence 97 = .ok (.istore_n 1, 1) := by decide +kernel
theorem dX12_sentence_98 : decode cX12_sentence 98 = .ok (.goto (-50), 3) := by decide +kernel
theorem dX12_sentence_101 : decode cX12_sentence 101 = .ok (.aload_n 0, 1) := by decide +kernel
theorem dX12_sentence_102 : decode cX12_sentence 102 = .ok (.getfield 444, 3) := by decide +kernel
theorem dX12_sentence_105 : decode cX12_sentence 105 = .ok (.ifCond .eq 13, 3) := by decide +kernel
theorem dX12_sentence_108 : decode cX12_sentence 108 = .ok (.aload_n 0, 1) := by decide +kernel
theorem dX12_sentence_109 : decode cX12_sentence 109 = .ok (.invokevirtual 453, 3) := by decide +kernel
theorem dX12_sentence_112 : decode cX12_sentence 112 = .ok (.ifCond .ne (-64), 3) := by decide +kernel
theorem dX12_sentence_115 : decode cX12_sentence 115 = .ok (.goto 10, 3) := by decide +kernel
theorem dX12_sentence_118 : decode cX12_sentence 118 = .ok (.aload_n 0, 1) := by decide +kernel
theorem dX12_sentence_119 : decode cX12_sentence 119 = .ok (.invokevirtual 456, 3) := by decide +kernel
theorem dX12_sentence_122 : decode cX12_sentence 122 = .ok (.ifCond .ne (-74), 3) := by decide +kernel
theorem dX12_sentence_125 : decode cX12_sentence 125 = .ok (.iconst (-1), 1) := by decide +kernel
theorem dX12_sentence_126 : decode cX12_sentence 126 = .ok (.aload_n 0, 1) := by decide +kernel
theorem dX12_sentence_127 : decode cX12_sentence 127 = .ok (.getfield 176, 3) := by decide +kernel
theorem dX12_sentence_130 : decode cX12_sentence 130 = .ok (.isub, 1) := by decide +kernel
theorem dX12_sentence_131 : decode cX12_sentence 131 = .ok (.ireturn, 1) := by decide +kernel
theorem dX12_sentence_132 : decode cX12_sentence 132 = .ok (.aload_n 0, 1) := by decide +kernel
theorem dX12_sentence_133 : decode cX12_sentence 133 = .ok (.getfield 33, 3) := by decide +kernel
theorem dX12_sentence_136 : decode cX12_sentence 136 = .ok (.sipush 176, 3) := by decide +kernel
theorem dX12_sentence_139 : decode cX12_sentence 139 = .ok (.aload_n 0, 1) := by decide +kernel
theorem dX12_sentence_140 : decode cX12_sentence 140 = .ok (.getfield 425, 3) := by decide +kernel
theorem dX12_sentence_143 : decode cX12_sentence 143 = .ok (.iastore, 1) := by decide +kernel
theorem dX12_sentence_144 : decode cX12_sentence 144 = .ok (.iconst 0, 1) := by decide +kernel
theorem dX12_sentence_145 : decode cX12_sentence 145 = .ok (.istore_n 2, 1) := by decide +kernel
theorem dX12_sentence_146 : decode cX12_sentence 146 = .ok (.iload_n 2, 1) := by decide +kernel
theorem dX12_sentence_147 : decode cX12_sentence 147 = .ok (.iconst 3, 1) := by decide +kernel
theorem dX12_sentence_148 : decode cX12_sentence 148 = .ok (.aload_n 0, 1) := by decide +kernel
theorem dX12_sentence_149 : decode cX12_sentence 149 = .ok (.getfield 425, 3) := by decide +kernel
theorem dX12_sentence_152 : decode cX12_sentence 152 = .ok (.imul, 1) := by decide +kernel
theorem dX12_sentence_153 : decode cX12_sentence 153 = .ok (.if_icmp .ge 25, 3) := by decide +kernel
theorem dX12_sentence_156 : decode cX12_sentence 156 = .ok (.aload_n 0, 1) := by decide +kernel
theorem dX12_sentence_157 : decode cX12_sentence 157 = .ok (.getfield 33, 3) := by decide +kernel
theorem dX12_sentence_160 : decode cX12_sentence 160 = .ok (.sipush 177, 3) := by decide +kernel
theorem dX12_sentence_163 : decode cX12_sentence 163 = .ok (.iload_n 2, 1) := by decide +kernel
theorem dX12_sentence_164 : decode cX12_sentence 164 = .ok (.iadd, 1) := by decide +kernel
theorem dX12_sentence_165 : decode cX12_sentence 165 = .ok (.aload_n 0, 1) := by decide +kernel
theorem dX12_sentence_166 : decode cX12_sentence 166 = .ok (.getfield 40, 3) := by decide +kernel
theorem dX12_sentence_169 : decode cX12_sentence 169 = .ok (.iload_n 2, 1) := by decide +kernel
theorem dX12_sentence_170 : decode cX12_sentence 170 = .ok (.iaload, 1) := by decide +kernel
theorem dX12_sentence_171 : decode cX12_sentence 171 = .ok (.iastore, 1) := by decide +kernel
theorem dX12_sentence_172 : decode cX12_sentence 172 = .ok (.iinc 2 1, 3) := by decide +kernel
theorem dX12_sentence_175 : decode cX12_sentence 175 = .ok (.goto (-29), 3) := by decide +kernel
theorem dX12_sentence_178 : decode cX12_sentence 178 = .ok (.aload_n 0, 1) := by decide +kernel
theorem dX12_sentence_179 : decode cX12_sentence 179 = .ok (.getfield 441, 3) := by decide +kernel
theorem dX12_sentence_182 : decode cX12_sentence 182 = .ok (.ireturn, 1) := by decide +kernel
abbrev rm_X12_sentence : Room := { frames := 3, cells := 0, slots := 0, locals := 67 }
noncomputable def fX12_sentence_b125 (o0 : Nat) (h : z_T) : Option (Int32 × z_T) :=
  y_gd (z_ok h o0 11) <|
  some (((-1 : Int32) - (z_I h o0 16)), h)
noncomputable def fX12_sentence_b146_i (o0 : Nat) (x2 : Int32) (h : z_T) : Option ((Int32 × z_T) ⊕ (Int32 × z_T)) :=
  y_gd (z_ok h o0 11) <|
  y_br (((3 : Int32) * (z_I h o0 48)) ≤ x2)
    (y_mp <|
    some ((z_I h o0 49), h))
    (y_bi (z_R h o0 6) fun o5 =>
    y_bi (z_R h o0 8) fun o6 =>
    y_gd (z_ok h o6 13) <|
    y_gd (z_ix x2 (z_N h o6)) <|
    y_gd (z_ok h o5 13) <|
    y_gd (z_ix ((177 : Int32) + x2) (z_N h o5)) <|
    y_nm (z_sI h o5 ((177 : Int32) + x2).toNatClampNeg (z_I h o6 x2.toNatClampNeg)) fun h11 =>
    y_nm (x2 + 1) fun v12 =>
    some (.inl (v12, h11)))
noncomputable def fX12_sentence_b146 (o0 : Nat) (x2 : Int32) (h : z_T) : Option (Int32 × z_T) := y_lp (fun q : Int32 × z_T => fX12_sentence_b146_i o0 q.1 q.2) (x2, h)
noncomputable def fX12_sentence_b101 (o0 : Nat) (x1 : Int32) (h : z_T) : Option ((Int32 × z_T) ⊕ (Int32 × z_T)) :=
  y_gd (z_ok h o0 11) <|
  y_br ((z_I h o0 52) = 0)
    (y_bi (fX12_operand o0 h) fun ⟨r16, h20⟩ =>
    y_br (r16 = 0)
      (y_mp <|
      fX12_sentence_b125 o0 h20)
      (some (.inl (x1, h20))))
    (y_bi (fX12_behind o0 h) fun ⟨r24, h28⟩ =>
    y_br (r24 = 0)
      (y_mp <|
      fX12_sentence_b125 o0 h28)
      (some (.inl (x1, h28))))
noncomputable def fX12_sentence_b48_i (o0 : Nat) (x1 : Int32) (h : z_T) : Option ((Int32 × z_T) ⊕ (Int32 × z_T)) :=
  y_br (x1 = 0)
    (y_mp <|
    y_gd (z_ok h o0 11) <|
    y_bi (z_R h o0 6) fun o34 =>
    y_gd (z_ok h o34 13) <|
    y_gd (z_ix (176 : Int32) (z_N h o34)) <|
    y_nm (z_sI h o34 (176 : Int32).toNatClampNeg (z_I h o0 48)) fun h37 =>
    fX12_sentence_b146 o0 (0 : Int32) h37)
    (y_gd (z_ok h o0 11) <|
    y_br ((z_I h o0 52) = 0)
      (fX12_sentence_b101 o0 x1 h)
      (y_br ((z_I h o0 11) = 0)
        (y_bi (fX12_nots o0 h) fun h42 =>
        y_gd (z_ok h42 o0 11) <|
        y_bi (fX12_joins o0 (22 : Int32) h42) fun h44 =>
        y_gd (z_ok h44 o0 11) <|
        y_br ((z_I h44 o0 50) ≤ 0)
          (some (.inl ((0 : Int32), h44)))
          (y_mp <|
          y_bi (fX12_bad o0 (1 : Int32) h44) fun ⟨r50, h54⟩ =>
          y_gd (z_ok h54 o0 11) <|
          some (((-1 : Int32) - (z_I h54 o0 16)), h54)))
        (fX12_sentence_b101 o0 x1 h)))
noncomputable def fX12_sentence_b48 (o0 : Nat) (x1 : Int32) (h : z_T) : Option (Int32 × z_T) := y_lp (fun q : Int32 × z_T => fX12_sentence_b48_i o0 q.1 q.2) (x1, h)
noncomputable def fX12_sentence (o0 : Nat) (h : z_T) : Option (Int32 × z_T) :=
  y_gd (z_ok h o0 11) <|
  y_nm (z_sI h o0 0 (0 : Int32)) fun h57 =>
  y_bi (fX12_taken o0 (200 : Int32) h57) fun h59 =>
  y_gd (z_ok h59 o0 11) <|
  y_nm (z_sI h59 o0 15 (0 : Int32)) fun h61 =>
  y_nm (z_sI h61 o0 48 (0 : Int32)) fun h62 =>
  y_nm (z_sI h62 o0 49 (0 : Int32)) fun h63 =>
  y_nm (z_sI h63 o0 50 (0 : Int32)) fun h64 =>
  y_nm (z_sI h64 o0 51 (1 : Int32)) fun h65 =>
  y_nm (z_sI h65 o0 52 (0 : Int32)) fun h66 =>
  y_bi (fX12_go o0 h66) fun h68 =>
  fX12_sentence_b48 o0 (1 : Int32) h68
set_option maxHeartbeats 4000000 in
set_option maxRecDepth 100000 in
theorem mm_X12_sentence {G : z_Gt} {S : State → Prop} (hSK : z_SK S) (l : Launch) (ad : Nat → Nat) (o0 : Nat) (h : z_T) {r0 : Int32} {h9 : z_T} (hv : fX12_sentence o0 h = some (r0, h9)) : z_Mi G S l yX12_sentence cX12_sentence 3 (.int) rm_X12_sentence 0 0 [.ref (ad o0)] ad h h9 r0 := by
  refine z_ofW hSK (by decide) (Nat.le_of_ble_eq_true rfl) ?_
  intro p e s m args below meth c ls hc hr hnm hB hl
  have hx := hc.1.1
  have hb := hc.1.2.1
  have hown := hc.1.2.2.2.1
  have hts := hc.1.2.2.2.2
  replace hc : z_C G S ad (z_n h) p m c cX12_sentence 3 s args RX12 meth := hc
  replace hown : s.vm.findClass RX12 = some m.cls := hown
  replace hl : lv_has ls 3 [(0, .ref (ad o0))] := hl
  show W p l e rm_X12_sentence s m args below meth c s.heap [] 0 0 (MQ below (z_Qi G ad h9 (z_n h) s.heap.size r0) args s 0 0 (z_A ad (z_n h) s.heap.size)) (F0 m 0 ls [])
  obtain ⟨rs, kt⟩ : ∃ rs : Int32 × z_T, rs = (r0, h9) := ⟨_, rfl⟩
  generalize hn0 : z_n h = n0 at hc hB ⊢
  have b125 : ∀ (h : z_T) (H : Heap) (locs : List Loc) (ls : Array Slot), z_B G ad n0 s h H locs → lv_has ls 3 [(0, .ref (ad o0))] → ∀ w, fX12_sentence_b125 o0 h = some w → w = (r0, h9) → W p l e rm_X12_sentence s m args below meth c H locs 0 0 (MQ below (z_Qi G ad h9 n0 s.heap.size r0) args s 0 0 (z_A ad n0 s.heap.size)) (F0 m 125 ls []) := by
    intro h H locs ls hB hl w hv kb
    refine lv_iconst (v := (-1 : Int32)) hx hb dX12_sentence_125 (by decide) ?_
    refine lv_aload_n hx hb dX12_sentence_126 rfl (lv_at hl 0 rfl) ?_
    obtain ⟨g1, hv⟩ := y_gd_e hv
    refine z_getI hc hB 11 16 g1 (by decide) (by decide) rfl (z_l1 hc qfX12_176) dX12_sentence_127 ?_
    refine lv_isub hx hb dX12_sentence_130 ?_
    replace hv := Option.some.inj hv
    subst hv
    obtain ⟨e1, e2⟩ := y_pr kb
    rw [← e1, ← e2]
    exact z_iret hc hB hr dX12_sentence_131
  have L146 : ∀ (nn146 : Nat) (x2 : Int32) (h : z_T) (H : Heap) (locs : List Loc) (ls : Array Slot), z_B G ad n0 s h H locs → lv_has ls 3 [(0, .ref (ad o0)), (2, .int x2)] → ∀ vv146, y_lpN (fun q : Int32 × z_T => fX12_sentence_b146_i o0 q.1 q.2) nn146 (x2, h) = some vv146 → vv146 = (r0, h9) → W p l e rm_X12_sentence s m args below meth c H locs 0 0 (MQ below (z_Qi G ad h9 n0 s.heap.size r0) args s 0 0 (z_A ad n0 s.heap.size)) (F0 m 146 ls []) := by
    intro nn146
    induction nn146 with
    | zero => intro x2 h H locs ls hB hl vv146 hv kv146; exact absurd hv (fun q => y_lpN_0 q)
    | succ nn146 ih146 =>
      intro x2 h H locs ls hB hl vv146 hv kv146
      obtain ⟨w, hq, kw146⟩ := y_lpN_e hv
      clear hv
      have hv : fX12_sentence_b146_i o0 x2 h = some w := hq
      clear hq
      refine lv_iload_n hx hb dX12_sentence_146 rfl (lv_at hl 1 rfl) ?_
      refine lv_iconst (v := (3 : Int32)) hx hb dX12_sentence_147 (by decide) ?_
      refine lv_aload_n hx hb dX12_sentence_148 rfl (lv_at hl 0 rfl) ?_
      obtain ⟨g2, hv⟩ := y_gd_e hv
      refine z_getI hc hB 11 48 g2 (by decide) (by decide) rfl (z_l1 hc qfX12_425) dX12_sentence_149 ?_
      refine lv_imul hx hb dX12_sentence_152 ?_
      refine lv_icmp_ge (tgt := 178) hx hb dX12_sentence_153 (by decide) (fun c3 => ?_) (fun c3 => ?_)
      · replace hv := y_br_t hv c3
        obtain ⟨t4, hq, ew⟩ := y_mp_e hv
        clear hv; subst ew
        replace kw146 : t4 = _ := kw146
        subst kw146
        have hv := hq
        clear hq
        refine lv_aload_n hx hb dX12_sentence_178 rfl (lv_at hl 0 rfl) ?_
        refine z_getI hc hB 11 49 g2 (by decide) (by decide) rfl (z_l1 hc qfX12_441) dX12_sentence_179 ?_
        replace hv := Option.some.inj hv
        subst hv
        obtain ⟨e1, e2⟩ := y_pr kv146
        rw [← e1, ← e2]
        exact z_iret hc hB hr dX12_sentence_182
      · replace hv := y_br_f hv c3
        refine lv_aload_n hx hb dX12_sentence_156 rfl (lv_at hl 0 rfl) ?_
        obtain ⟨o5, eo5, hv⟩ := y_bi_e hv
        refine z_getR hc hB 11 6 g2 eo5 (by decide) (by decide) rfl (z_l1 hc qfX12_33) dX12_sentence_157 ?_
        refine lv_sipush (v := (177 : Int32)) hx hb dX12_sentence_160 (by decide) ?_
        refine lv_iload_n hx hb dX12_sentence_163 rfl (lv_at hl 1 rfl) ?_
        refine lv_iadd hx hb dX12_sentence_164 ?_
        refine lv_aload_n hx hb dX12_sentence_165 rfl (lv_at hl 0 rfl) ?_
        obtain ⟨o6, eo6, hv⟩ := y_bi_e hv
        refine z_getR hc hB 11 8 g2 eo6 (by decide) (by decide) rfl (z_l1 hc qfX12_40) dX12_sentence_166 ?_
        refine lv_iload_n hx hb dX12_sentence_169 rfl (lv_at hl 1 rfl) ?_
        obtain ⟨g7, hv⟩ := y_gd_e hv
        obtain ⟨i8, hv⟩ := y_gd_e hv
        refine z_iald hc hB g7 i8 dX12_sentence_170 ?_
        obtain ⟨g9, hv⟩ := y_gd_e hv
        obtain ⟨i10, hv⟩ := y_gd_e hv
        obtain ⟨h11, eh11, hv⟩ := y_nm_e hv
        refine y_iast hc hB eh11 g9 i10 dX12_sentence_171 (fun H locs hB => ?_)
        obtain ⟨v12, ev12, hv⟩ := y_nm_e hv
        refine lv_iinc (v := v12) (lv' := [(2, .int v12), (0, .ref (ad o0))]) hx hb dX12_sentence_172 hl (k := 1) rfl (by rw [ev12]; rfl) (by decide) rfl (fun ls hl => ?_)
        refine lv_goto (tgt := 146) hx hb dX12_sentence_175 (by decide) ?_
        replace hv := Option.some.inj hv
        subst hv
        exact ih146 v12 h11 _ _ _ hB (lv_sub hl [1, 0] rfl) _ kw146 kv146
  have L48 : ∀ (nn48 : Nat) (x1 : Int32) (h : z_T) (H : Heap) (locs : List Loc) (ls : Array Slot), z_B G ad n0 s h H locs → lv_has ls 3 [(0, .ref (ad o0)), (1, .int x1)] → ∀ vv48, y_lpN (fun q : Int32 × z_T => fX12_sentence_b48_i o0 q.1 q.2) nn48 (x1, h) = some vv48 → vv48 = (r0, h9) → W p l e rm_X12_sentence s m args below meth c H locs 0 0 (MQ below (z_Qi G ad h9 n0 s.heap.size r0) args s 0 0 (z_A ad n0 s.heap.size)) (F0 m 48 ls []) := by
    intro nn48
    induction nn48 with
    | zero => intro x1 h H locs ls hB hl vv48 hv kv48; exact absurd hv (fun q => y_lpN_0 q)
    | succ nn48 ih48 =>
      intro x1 h H locs ls hB hl vv48 hv kv48
      obtain ⟨w, hq, kw48⟩ := y_lpN_e hv
      clear hv
      have hv : fX12_sentence_b48_i o0 x1 h = some w := hq
      clear hq
      have b101 : ∀ (x1 : Int32) (h : z_T) (H : Heap) (locs : List Loc) (ls : Array Slot), z_B G ad n0 s h H locs → lv_has ls 3 [(0, .ref (ad o0)), (1, .int x1)] → ∀ w, fX12_sentence_b101 o0 x1 h = some w → y_lq (fun q : Int32 × z_T => fX12_sentence_b48_i o0 q.1 q.2) nn48 vv48 w → W p l e rm_X12_sentence s m args below meth c H locs 0 0 (MQ below (z_Qi G ad h9 n0 s.heap.size r0) args s 0 0 (z_A ad n0 s.heap.size)) (F0 m 101 ls []) := by
        intro x1 h H locs ls hB hl w hv kw48
        refine lv_aload_n hx hb dX12_sentence_101 rfl (lv_at hl 0 rfl) ?_
        obtain ⟨g13, hv⟩ := y_gd_e hv
        refine z_getI hc hB 11 52 g13 (by decide) (by decide) rfl (z_l1 hc qfX12_444) dX12_sentence_102 ?_
        refine lv_if_eq (tgt := 118) hx hb dX12_sentence_105 (by decide) (fun c14 => ?_) (fun c14 => ?_)
        · replace hv := y_br_t hv c14
          refine lv_aload_n hx hb dX12_sentence_118 rfl (lv_at hl 0 rfl) ?_
          obtain ⟨⟨r16, h20⟩, c15, hv⟩ := y_bi_e hv
          refine z_thI hc hB (z_runV hc hB 11 (mm_X12_operand hSK l ad o0 h c15) md_X12_operand qmX12_456 g13 (by decide) rfl rfl rfl ⟨Nat.le_of_ble_eq_true rfl, Nat.le_of_ble_eq_true rfl⟩ rfl hl.1 rfl (Nat.le_of_ble_eq_true rfl) dX12_sentence_119 ⟨Nat.le_of_ble_eq_true rfl, Nat.le_of_ble_eq_true rfl⟩) (fun H locs hB => ?_)
          refine lv_if_ne (tgt := 48) hx hb dX12_sentence_122 (by decide) (fun c21 => ?_) (fun c21 => ?_)
          · replace hv := y_br_f hv c21
            replace hv := Option.some.inj hv
            subst hv
            exact ih48 x1 h20 _ _ _ hB (lv_sub hl [0, 1] rfl) _ kw48 kv48
          · replace hv := y_br_t hv c21
            obtain ⟨t22, hq, ew⟩ := y_mp_e hv
            clear hv; subst ew
            replace kw48 : t22 = _ := kw48
            subst kw48
            have hv := hq
            clear hq
            exact b125 h20 _ _ _ hB (lv_sub hl [0] rfl) _ hv kv48
        · replace hv := y_br_f hv c14
          refine lv_aload_n hx hb dX12_sentence_108 rfl (lv_at hl 0 rfl) ?_
          obtain ⟨⟨r24, h28⟩, c23, hv⟩ := y_bi_e hv
          refine z_thI hc hB (z_runV hc hB 11 (mm_X12_behind hSK l ad o0 h c23) md_X12_behind qmX12_453 g13 (by decide) rfl rfl rfl ⟨Nat.le_of_ble_eq_true rfl, Nat.le_of_ble_eq_true rfl⟩ rfl hl.1 rfl (Nat.le_of_ble_eq_true rfl) dX12_sentence_109 ⟨Nat.le_of_ble_eq_true rfl, Nat.le_of_ble_eq_true rfl⟩) (fun H locs hB => ?_)
          refine lv_if_ne (tgt := 48) hx hb dX12_sentence_112 (by decide) (fun c29 => ?_) (fun c29 => ?_)
          · replace hv := y_br_f hv c29
            replace hv := Option.some.inj hv
            subst hv
            exact ih48 x1 h28 _ _ _ hB (lv_sub hl [0, 1] rfl) _ kw48 kv48
          · replace hv := y_br_t hv c29
            obtain ⟨t30, hq, ew⟩ := y_mp_e hv
            clear hv; subst ew
            replace kw48 : t30 = _ := kw48
            subst kw48
            have hv := hq
            clear hq
            refine lv_goto (tgt := 125) hx hb dX12_sentence_115 (by decide) ?_
            exact b125 h28 _ _ _ hB (lv_sub hl [0] rfl) _ hv kv48
      refine lv_iload_n hx hb dX12_sentence_48 rfl (lv_at hl 1 rfl) ?_
      refine lv_if_eq (tgt := 132) hx hb dX12_sentence_49 (by decide) (fun c31 => ?_) (fun c31 => ?_)
      · replace hv := y_br_t hv c31
        obtain ⟨t32, hq, ew⟩ := y_mp_e hv
        clear hv; subst ew
        replace kw48 : t32 = _ := kw48
        subst kw48
        have hv := hq
        clear hq
        refine lv_aload_n hx hb dX12_sentence_132 rfl (lv_at hl 0 rfl) ?_
        obtain ⟨g33, hv⟩ := y_gd_e hv
        obtain ⟨o34, eo34, hv⟩ := y_bi_e hv
        refine z_getR hc hB 11 6 g33 eo34 (by decide) (by decide) rfl (z_l1 hc qfX12_33) dX12_sentence_133 ?_
        refine lv_sipush (v := (176 : Int32)) hx hb dX12_sentence_136 (by decide) ?_
        refine lv_aload_n hx hb dX12_sentence_139 rfl (lv_at hl 0 rfl) ?_
        refine z_getI hc hB 11 48 g33 (by decide) (by decide) rfl (z_l1 hc qfX12_425) dX12_sentence_140 ?_
        obtain ⟨g35, hv⟩ := y_gd_e hv
        obtain ⟨i36, hv⟩ := y_gd_e hv
        obtain ⟨h37, eh37, hv⟩ := y_nm_e hv
        refine y_iast hc hB eh37 g35 i36 dX12_sentence_143 (fun H locs hB => ?_)
        refine lv_iconst (v := (0 : Int32)) hx hb dX12_sentence_144 (by decide) ?_
        refine lv_istore_n (lv' := [(2, .int (0 : Int32)), (0, .ref (ad o0)), (1, .int x1)]) hx hb dX12_sentence_145 rfl hl (by decide) rfl (fun ls hl => ?_)
        obtain ⟨n, hv⟩ := y_lp_e hv
        exact L146 n (0 : Int32) h37 _ _ _ hB (lv_sub hl [1, 0] rfl) _ hv kv48
      · replace hv := y_br_f hv c31
        refine lv_aload_n hx hb dX12_sentence_52 rfl (lv_at hl 0 rfl) ?_
        obtain ⟨g38, hv⟩ := y_gd_e hv
        refine z_getI hc hB 11 52 g38 (by decide) (by decide) rfl (z_l1 hc qfX12_444) dX12_sentence_53 ?_
        refine lv_if_eq (tgt := 101) hx hb dX12_sentence_56 (by decide) (fun c39 => ?_) (fun c39 => ?_)
        · replace hv := y_br_t hv c39
          exact b101 x1 h _ _ _ hB (lv_sub hl [0, 1] rfl) _ hv kw48
        · replace hv := y_br_f hv c39
          refine lv_aload_n hx hb dX12_sentence_59 rfl (lv_at hl 0 rfl) ?_
          refine z_getI hc hB 11 11 g38 (by decide) (by decide) rfl (z_l1 hc qfX12_156) dX12_sentence_60 ?_
          refine lv_if_ne (tgt := 101) hx hb dX12_sentence_63 (by decide) (fun c40 => ?_) (fun c40 => ?_)
          · replace hv := y_br_f hv c40
            exact b101 x1 h _ _ _ hB (lv_sub hl [0, 1] rfl) _ hv kw48
          · replace hv := y_br_t hv c40
            refine lv_aload_n hx hb dX12_sentence_66 rfl (lv_at hl 0 rfl) ?_
            obtain ⟨h42, c41, hv⟩ := y_bi_e hv
            refine z_thV hc hB (z_runV hc hB 11 (mm_X12_nots hSK l ad o0 h c41) md_X12_nots qmX12_447 g38 (by decide) rfl rfl rfl ⟨Nat.le_of_ble_eq_true rfl, Nat.le_of_ble_eq_true rfl⟩ rfl hl.1 rfl (Nat.le_of_ble_eq_true rfl) dX12_sentence_67 ⟨Nat.le_of_ble_eq_true rfl, Nat.le_of_ble_eq_true rfl⟩) (fun H locs hB => ?_)
            refine lv_aload_n hx hb dX12_sentence_70 rfl (lv_at hl 0 rfl) ?_
            refine lv_bipush (v := (22 : Int32)) hx hb dX12_sentence_71 (by decide) ?_
            obtain ⟨g45, hv⟩ := y_gd_e hv
            obtain ⟨h44, c43, hv⟩ := y_bi_e hv
            refine z_thV hc hB (z_runV hc hB 11 (mm_X12_joins hSK l ad o0 (22 : Int32) h42 c43) md_X12_joins qmX12_450 g45 (by decide) rfl rfl rfl ⟨Nat.le_of_ble_eq_true rfl, Nat.le_of_ble_eq_true rfl⟩ rfl hl.1 rfl (Nat.le_of_ble_eq_true rfl) dX12_sentence_73 ⟨Nat.le_of_ble_eq_true rfl, Nat.le_of_ble_eq_true rfl⟩) (fun H locs hB => ?_)
            refine lv_aload_n hx hb dX12_sentence_76 rfl (lv_at hl 0 rfl) ?_
            obtain ⟨g46, hv⟩ := y_gd_e hv
            refine z_getI hc hB 11 50 g46 (by decide) (by decide) rfl (z_l1 hc qfX12_428) dX12_sentence_77 ?_
            refine lv_if_le (tgt := 96) hx hb dX12_sentence_80 (by decide) (fun c47 => ?_) (fun c47 => ?_)
            · replace hv := y_br_t hv c47
              refine lv_iconst (v := (0 : Int32)) hx hb dX12_sentence_96 (by decide) ?_
              refine lv_istore_n (lv' := [(1, .int (0 : Int32)), (0, .ref (ad o0))]) hx hb dX12_sentence_97 rfl hl (by decide) rfl (fun ls hl => ?_)
              refine lv_goto (tgt := 48) hx hb dX12_sentence_98 (by decide) ?_
              replace hv := Option.some.inj hv
              subst hv
              exact ih48 (0 : Int32) h44 _ _ _ hB (lv_sub hl [1, 0] rfl) _ kw48 kv48
            · replace hv := y_br_f hv c47
              obtain ⟨t48, hq, ew⟩ := y_mp_e hv
              clear hv; subst ew
              replace kw48 : t48 = _ := kw48
              subst kw48
              have hv := hq
              clear hq
              refine lv_aload_n hx hb dX12_sentence_83 rfl (lv_at hl 0 rfl) ?_
              refine lv_iconst (v := (1 : Int32)) hx hb dX12_sentence_84 (by decide) ?_
              obtain ⟨⟨r50, h54⟩, c49, hv⟩ := y_bi_e hv
              refine z_thI hc hB (z_runV hc hB 11 (mm_X12_bad hSK l ad o0 (1 : Int32) h44 c49) md_X12_bad qmX12_182 g46 (by decide) rfl rfl rfl ⟨Nat.le_of_ble_eq_true rfl, Nat.le_of_ble_eq_true rfl⟩ rfl hl.1 rfl (Nat.le_of_ble_eq_true rfl) dX12_sentence_85 ⟨Nat.le_of_ble_eq_true rfl, Nat.le_of_ble_eq_true rfl⟩) (fun H locs hB => ?_)
              refine lv_pop hx hb dX12_sentence_88 rfl ?_
              refine lv_iconst (v := (-1 : Int32)) hx hb dX12_sentence_89 (by decide) ?_
              refine lv_aload_n hx hb dX12_sentence_90 rfl (lv_at hl 0 rfl) ?_
              obtain ⟨g55, hv⟩ := y_gd_e hv
              refine z_getI hc hB 11 16 g55 (by decide) (by decide) rfl (z_l1 hc qfX12_176) dX12_sentence_91 ?_
              refine lv_isub hx hb dX12_sentence_94 ?_
              replace hv := Option.some.inj hv
              subst hv
              obtain ⟨e1, e2⟩ := y_pr kv48
              rw [← e1, ← e2]
              exact z_iret hc hB hr dX12_sentence_95
  rw [← kt] at hv
  refine lv_aload_n hx hb dX12_sentence_0 rfl (lv_at hl 0 rfl) ?_
  refine lv_iconst (v := (0 : Int32)) hx hb dX12_sentence_1 (by decide) ?_
  obtain ⟨g56, hv⟩ := y_gd_e hv
  obtain ⟨h57, eh57, hv⟩ := y_nm_e hv
  refine y_putI hc hB 11 0 eh57 g56 (z_l1 hc qfX12_1) dX12_sentence_2 (by decide) (by decide) rfl rfl rfl rfl (fun H locs hB => ?_)
  refine lv_aload_n hx hb dX12_sentence_5 rfl (lv_at hl 0 rfl) ?_
  refine lv_sipush (v := (200 : Int32)) hx hb dX12_sentence_6 (by decide) ?_
  obtain ⟨h59, c58, hv⟩ := y_bi_e hv
  refine z_thV hc hB (z_runV hc hB 11 (mm_X12_taken hSK l ad o0 (200 : Int32) h57 c58) md_X12_taken qmX12_226 (by rw [eh57]; exact g56) (by decide) rfl rfl rfl ⟨Nat.le_of_ble_eq_true rfl, Nat.le_of_ble_eq_true rfl⟩ rfl hl.1 rfl (Nat.le_of_ble_eq_true rfl) dX12_sentence_9 ⟨Nat.le_of_ble_eq_true rfl, Nat.le_of_ble_eq_true rfl⟩) (fun H locs hB => ?_)
  refine lv_aload_n hx hb dX12_sentence_12 rfl (lv_at hl 0 rfl) ?_
  refine lv_iconst (v := (0 : Int32)) hx hb dX12_sentence_13 (by decide) ?_
  obtain ⟨g60, hv⟩ := y_gd_e hv
  obtain ⟨h61, eh61, hv⟩ := y_nm_e hv
  refine y_putI hc hB 11 15 eh61 g60 (z_l1 hc qfX12_173) dX12_sentence_14 (by decide) (by decide) rfl rfl rfl rfl (fun H locs hB => ?_)
  refine lv_aload_n hx hb dX12_sentence_17 rfl (lv_at hl 0 rfl) ?_
  refine lv_iconst (v := (0 : Int32)) hx hb dX12_sentence_18 (by decide) ?_
  obtain ⟨h62, eh62, hv⟩ := y_nm_e hv
  refine y_putI hc hB 11 48 eh62 (by rw [eh61]; exact g60) (z_l1 hc qfX12_425) dX12_sentence_19 (by decide) (by decide) rfl rfl rfl rfl (fun H locs hB => ?_)
  refine lv_aload_n hx hb dX12_sentence_22 rfl (lv_at hl 0 rfl) ?_
  refine lv_iconst (v := (0 : Int32)) hx hb dX12_sentence_23 (by decide) ?_
  obtain ⟨h63, eh63, hv⟩ := y_nm_e hv
  refine y_putI hc hB 11 49 eh63 (by rw [eh62, eh61]; exact g60) (z_l1 hc qfX12_441) dX12_sentence_24 (by decide) (by decide) rfl rfl rfl rfl (fun H locs hB => ?_)
  refine lv_aload_n hx hb dX12_sentence_27 rfl (lv_at hl 0 rfl) ?_
  refine lv_iconst (v := (0 : Int32)) hx hb dX12_sentence_28 (by decide) ?_
  obtain ⟨h64, eh64, hv⟩ := y_nm_e hv
  refine y_putI hc hB 11 50 eh64 (by rw [eh63, eh62, eh61]; exact g60) (z_l1 hc qfX12_428) dX12_sentence_29 (by decide) (by decide) rfl rfl rfl rfl (fun H locs hB => ?_)
  refine lv_aload_n hx hb dX12_sentence_32 rfl (lv_at hl 0 rfl) ?_
  refine lv_iconst (v := (1 : Int32)) hx hb dX12_sentence_33 (by decide) ?_
  obtain ⟨h65, eh65, hv⟩ := y_nm_e hv
  refine y_putI hc hB 11 51 eh65 (by rw [eh64, eh63, eh62, eh61]; exact g60) (z_l1 hc qfX12_435) dX12_sentence_34 (by decide) (by decide) rfl rfl rfl rfl (fun H locs hB => ?_)
  refine lv_aload_n hx hb dX12_sentence_37 rfl (lv_at hl 0 rfl) ?_
  refine lv_iconst (v := (0 : Int32)) hx hb dX12_sentence_38 (by decide) ?_
  obtain ⟨h66, eh66, hv⟩ := y_nm_e hv
  refine y_putI hc hB 11 52 eh66 (by rw [eh65, eh64, eh63, eh62, eh61]; exact g60) (z_l1 hc qfX12_444) dX12_sentence_39 (by decide) (by decide) rfl rfl rfl rfl (fun H locs hB => ?_)
  refine lv_aload_n hx hb dX12_sentence_42 rfl (lv_at hl 0 rfl) ?_
  obtain ⟨h68, c67, hv⟩ := y_bi_e hv
  refine z_thV hc hB (z_runV hc hB 11 (mm_X12_go hSK l ad o0 h66 c67) md_X12_go qmX12_185 (by rw [eh66, eh65, eh64, eh63, eh62, eh61]; exact g60) (by decide) rfl rfl rfl ⟨Nat.le_of_ble_eq_true rfl, Nat.le_of_ble_eq_true rfl⟩ rfl hl.1 rfl (Nat.le_of_ble_eq_true rfl) dX12_sentence_43 ⟨Nat.le_of_ble_eq_true rfl, Nat.le_of_ble_eq_true rfl⟩) (fun H locs hB => ?_)
  refine lv_iconst (v := (1 : Int32)) hx hb dX12_sentence_46 (by decide) ?_
  refine lv_istore_n (lv' := [(1, .int (1 : Int32)), (0, .ref (ad o0))]) hx hb dX12_sentence_47 rfl hl (by decide) rfl (fun ls hl => ?_)
  obtain ⟨n, hv⟩ := y_lp_e hv
  exact L48 n (1 : Int32) h68 _ _ _ hB (lv_sub hl [1, 0] rfl) _ hv kt
theorem dX12_isLeaf_0 : decode cX12_isLeaf 0 = .ok (.iload_n 2, 1) := by decide +kernel
theorem dX12_isLeaf_1 : decode cX12_isLeaf 1 = .ok (.ifCond .ne 12, 3) := by decide +kernel
theorem dX12_isLeaf_4 : decode cX12_isLeaf 4 = .ok (.aload_n 0, 1) := by decide +kernel
theorem dX12_isLeaf_5 : decode cX12_isLeaf 5 = .ok (.invokevirtual 289, 3) := by decide +kernel
theorem dX12_isLeaf_8 : decode cX12_isLeaf 8 = .ok (.iload_n 1, 1) := by decide +kernel
theorem dX12_isLeaf_9 : decode cX12_isLeaf 9 = .ok (.invokestatic 210, 3) := by decide +kernel
theorem dX12_isLeaf_12 : decode cX12_isLeaf 12 = .ok (.ireturn, 1) := by decide +kernel
theorem dX12_isLeaf_13 : decode cX12_isLeaf 13 = .ok (.iload_n 2, 1) := by decide +kernel
theorem dX12_isLeaf_14 : decode cX12_isLeaf 14 = .ok (.iconst 1, 1) := by decide +kernel
theorem dX12_isLeaf_15 : decode cX12_isLeaf 15 = .ok (.if_icmp .ne 24, 3) := by decide +kernel
theorem dX12_isLeaf_18 : decode cX12_isLeaf 18 = .ok (.aload_n 0, 1) := by decide +kernel
theorem dX12_isLeaf_19 : decode cX12_isLeaf 19 = .ok (.iload_n 1, 1) := by decide +kernel
theorem dX12_isLeaf_20 : decode cX12_isLeaf 20 = .ok (.aload_n 0, 1) := by decide +kernel
theorem dX12_isLeaf_21 : decode cX12_isLeaf 21 = .ok (.getfield 33, 3) := by decide +kernel
theorem dX12_isLeaf_24 : decode cX12_isLeaf 24 = .ok (.bipush 36, 2) := by decide +kernel
theorem dX12_isLeaf_26 : decode cX12_isLeaf 26 = .ok (.iaload, 1) := by decide +kernel
theorem dX12_isLeaf_27 : decode cX12_isLeaf 27 = .ok (.invokevirtual 244, 3) := by decide +kernel
theorem dX12_isLeaf_30 : decode cX12_isLeaf 30 = .ok (.ifCond .le 7, 3) := by decide +kernel
theorem dX12_isLeaf_33 : decode cX12_isLeaf 33 = .ok (.iconst 1, 1) := by decide +kernel
theorem dX12_isLeaf_34 : decode cX12_isLeaf 34 = .ok (.goto 4, 3) := by decide +kernel
theorem dX12_isLeaf_37 : decode cX12_isLeaf 37 = .ok (.iconst 0, 1) := by decide +kernel
theorem dX12_isLeaf_38 : decode cX12_isLeaf 38 = .ok (.ireturn, 1) := by decide +kernel
theorem dX12_isLeaf_39 : decode cX12_isLeaf 39 = .ok (.iload_n 2, 1) := by decide +kernel
theorem dX12_isLeaf_40 : decode cX12_isLeaf 40 = .ok (.iconst 2, 1) := by decide +kernel
theorem dX12_isLeaf_41 : decode cX12_isLeaf 41 = .ok (.if_icmp .ne 18, 3) := by decide +kernel
theorem dX12_isLeaf_44 : decode cX12_isLeaf 44 = .ok (.aload_n 0, 1) := by decide +kernel
theorem dX12_isLeaf_45 : decode cX12_isLeaf 45 = .ok (.getfield 33, 3) := by decide +kernel
theorem dX12_isLeaf_48 : decode cX12_isLeaf 48 = .ok (.bipush 30, 2) := by decide +kernel
theorem dX12_isLeaf_50 : decode cX12_isLeaf 50 = .ok (.iload 4, 2) := by decide +kernel
theorem dX12_isLeaf_52 : decode cX12_isLeaf 52 = .ok (.iadd, 1) := by decide +kernel
theorem dX12_isLeaf_53 : decode cX12_isLeaf 53 = .ok (.iaload, 1) := by decide +kernel
theorem dX12_isLeaf_54 : decode cX12_isLeaf 54 = .ok (.iload_n 1, 1) := by decide +kernel
theorem dX12_isLeaf_55 : decode cX12_isLeaf 55 = .ok (.invokestatic 210, 3) := by decide +kernel
theorem dX12_isLeaf_58 : decode cX12_isLeaf 58 = .ok (.ireturn, 1) := by decide +kernel
theorem dX12_isLeaf_59 : decode cX12_isLeaf 59 = .ok (.iload_n 2, 1) := by decide +kernel
theorem dX12_isLeaf_60 : decode cX12_isLeaf 60 = .ok (.iconst 3, 1) := by decide +kernel
theorem dX12_isLeaf_61 : decode cX12_isLeaf 61 = .ok (.if_icmp .ne 15, 3) := by decide +kernel
theorem dX12_isLeaf_64 : decode cX12_isLeaf 64 = .ok (.aload_n 0, 1) := by decide +kernel
theorem dX12_isLeaf_65 : decode cX12_isLeaf 65 = .ok (.getfield 33, 3) := by decide +kernel
theorem dX12_isLeaf_68 : decode cX12_isLeaf 68 = .ok (.bipush 8, 2) := by decide +kernel
theorem dX12_isLeaf_70 : decode cX12_isLeaf 70 = .ok (.iload_n 1, 1) := by decide +kernel
theorem dX12_isLeaf_71 : decode cX12_isLeaf 71 = .ok (.iadd, 1) := by decide +kernel
theorem dX12_isLeaf_72 : decode cX12_isLeaf 72 = .ok (.iaload, 1) := by decide +kernel
theorem dX12_isLeaf_73 : decode cX12_isLeaf 73 = .ok (.goto 21, 3) := by decide +kernel
theorem dX12_isLeaf_76 : decode cX12_isLeaf 76 = .ok (.iload_n 2, 1) := by decide +kernel
theorem dX12_isLeaf_77 : decode cX12_isLeaf 77 = .ok (.iconst 4, 1) := by decide +kernel
theorem dX12_isLeaf_78 : decode cX12_isLeaf 78 = .ok (.if_icmp .ne 15, 3) := by decide +kernel
theorem dX12_isLeaf_81 : decode cX12_isLeaf 81 = .ok (.aload_n 0, 1) := by decide +kernel
theorem dX12_isLeaf_82 : decode cX12_isLeaf 82 = .ok (.getfield 33, 3) := by decide +kernel
theorem dX12_isLeaf_85 : decode cX12_isLeaf 85 = .ok (.bipush 16, 2) := by decide +kernel
theorem dX12_isLeaf_87 : decode cX12_isLeaf 87 = .ok (.iload_n 1, 1) := by decide +kernel
theorem dX12_isLeaf_88 : decode cX12_isLeaf 88 = .ok (.iadd, 1) := by decide +kernel
theorem dX12_isLeaf_89 : decode cX12_isLeaf 89 = .ok (.iaload, 1) := by decide +kernel
theorem dX12_isLeaf_90 : decode cX12_isLeaf 90 = .ok (.goto 4, 3) := by decide +kernel
theorem dX12_isLeaf_93 : decode cX12_isLeaf 93 = .ok (.iload_n 1, 1) := by decide +kernel
theorem dX12_isLeaf_94 : decode cX12_isLeaf 94 = .ok (.istore 5, 2) := by decide +kernel
theorem dX12_isLeaf_96 : decode cX12_isLeaf 96 = .ok (.iload_n 3, 1) := by decide +kernel
theorem dX12_isLeaf_97 : decode cX12_isLeaf 97 = .ok (.bipush 60, 2) := by decide +kernel
theorem dX12_isLeaf_99 : decode cX12_isLeaf 99 = .ok (.if_icmp .ne 18, 3) := by decide +kernel
theorem dX12_isLeaf_102 : decode cX12_isLeaf 102 = .ok (.iload 5, 2) := by decide +kernel
theorem dX12_isLeaf_104 : decode cX12_isLeaf 104 = .ok (.iload 4, 2) := by decide +kernel
theorem dX12_isLeaf_106 : decode cX12_isLeaf 106 = .ok (.if_icmp .ge 7, 3) := by decide +kernel
theorem dX12_isLeaf_109 : decode cX12_isLeaf 109 = .ok (.iconst 1, 1) := by decide +kernel
theorem dX12_isLeaf_110 : decode cX12_isLeaf 110 = .ok (.goto 40, 3) := by decide +kernel
theorem dX12_isLeaf_113 : decode cX12_isLeaf 113 = .ok (.iconst 0, 1) := by decide +kernel
theorem dX12_isLeaf_114 : decode cX12_isLeaf 114 = .ok (.goto 36, 3) := by decide +kernel
theorem dX12_isLeaf_117 : decode cX12_isLeaf 117 = .ok (.iload_n 3, 1) := by decide +kernel
theorem dX12_isLeaf_118 : decode cX12_isLeaf 118 = .ok (.bipush 61, 2) := by decide +kernel
theorem dX12_isLeaf_120 : decode cX12_isLeaf 120 = .ok (.if_icmp .ne 18, 3) := by decide +kernel
theorem dX12_isLeaf_123 : decode cX12_isLeaf 123 = .ok (.iload 5, 2) := by decide +kernel
theorem dX12_isLeaf_125 : decode cX12_isLeaf 125 = .ok (.iload 4, 2) := by decide +kernel
theorem dX12_isLeaf_127 : decode cX12_isLeaf 127 = .ok (.if_icmp .ne 7, 3) := by decide +kernel
theorem dX12_isLeaf_130 : decode cX12_isLeaf 130 = .ok (.iconst 1, 1) := by decide +kernel
theorem dX12_isLeaf_131 : decode cX12_isLeaf 131 = .ok (.goto 19, 3) := by decide +kernel
theorem dX12_isLeaf_134 : decode cX12_isLeaf 134 = .ok (.iconst 0, 1) := by decide +kernel
theorem dX12_isLeaf_135 : decode cX12_isLeaf 135 = .ok (.goto 15, 3) := by decide +kernel
theorem dX12_isLeaf_138 : decode cX12_isLeaf 138 = .ok (.iload 5, 2) := by decide +kernel
theorem dX12_isLeaf_140 : decode cX12_isLeaf 140 = .ok (.iload 4, 2) := by decide +kernel
theorem dX12_isLeaf_142 : decode cX12_isLeaf 142 = .ok (.if_icmp .le 7, 3) := by decide +kernel
theorem dX12_isLeaf_145 : decode cX12_isLeaf 145 = .ok (.iconst 1, 1) := by decide +kernel
theorem dX12_isLeaf_146 : decode cX12_isLeaf 146 = .ok (.goto 4, 3) := by decide +kernel
theorem dX12_isLeaf_149 : decode cX12_isLeaf 149 = .ok (.iconst 0, 1) := by decide +kernel
theorem dX12_isLeaf_150 : decode cX12_isLeaf 150 = .ok (.ireturn, 1) := by decide +kernel
abbrev rm_X12_isLeaf : Room := { frames := 1, cells := 0, slots := 0, locals := 24 }
noncomputable def fX12_isLeaf_b94 (x3 : Int32) (x4 : Int32) (s0 : Int32) (h : z_T) : Option (Int32) :=
  y_br (x3 = (60 : Int32))
    (y_br (x4 ≤ s0)
      (some (0 : Int32))
      (some (1 : Int32)))
    (y_br (x3 = (61 : Int32))
      (y_br (s0 = x4)
        (some (1 : Int32))
        (some (0 : Int32)))
      (y_br (s0 ≤ x4)
        (some (0 : Int32))
        (some (1 : Int32))))
noncomputable def fX12_isLeaf (o0 : Nat) (x1 : Int32) (x2 : Int32) (x3 : Int32) (x4 : Int32) (h : z_T) : Option (Int32) :=
  y_br (x2 = 0)
    (y_gd (z_ok h o0 11) <|
    y_bi (fX12_goods o0 h) fun r40 =>
    y_bi (fX12_bitOf r40 x1) fun r46 =>
    y_gd (y_b r46) <|
    some r46)
    (y_br (x2 = (1 : Int32))
      (y_gd (z_ok h o0 11) <|
      y_bi (z_R h o0 6) fun o30 =>
      y_gd (z_ok h o30 13) <|
      y_gd (z_ix (36 : Int32) (z_N h o30)) <|
      y_bi (fX12_timesOf o0 x1 (z_I h o30 (36 : Int32).toNatClampNeg) h) fun r34 =>
      y_br (r34 ≤ 0)
        (some (0 : Int32))
        (some (1 : Int32)))
      (y_br (x2 = (2 : Int32))
        (y_gd (z_ok h o0 11) <|
        y_bi (z_R h o0 6) fun o20 =>
        y_gd (z_ok h o20 13) <|
        y_gd (z_ix ((30 : Int32) + x4) (z_N h o20)) <|
        y_bi (fX12_bitOf (z_I h o20 ((30 : Int32) + x4).toNatClampNeg) x1) fun r24 =>
        y_gd (y_b r24) <|
        some r24)
        (y_br (x2 = (3 : Int32))
          (y_gd (z_ok h o0 11) <|
          y_bi (z_R h o0 6) fun o16 =>
          y_gd (z_ok h o16 13) <|
          y_gd (z_ix ((8 : Int32) + x1) (z_N h o16)) <|
          fX12_isLeaf_b94 x3 x4 (z_I h o16 ((8 : Int32) + x1).toNatClampNeg) h)
          (y_br (x2 = (4 : Int32))
            (y_gd (z_ok h o0 11) <|
            y_bi (z_R h o0 6) fun o12 =>
            y_gd (z_ok h o12 13) <|
            y_gd (z_ix ((16 : Int32) + x1) (z_N h o12)) <|
            fX12_isLeaf_b94 x3 x4 (z_I h o12 ((16 : Int32) + x1).toNatClampNeg) h)
            (fX12_isLeaf_b94 x3 x4 x1 h)))))
set_option maxHeartbeats 4000000 in
set_option maxRecDepth 100000 in
theorem mm_X12_isLeaf {G : z_Gt} {S : State → Prop} (hSK : z_SK S) (l : Launch) (ad : Nat → Nat) (o0 : Nat) (x1 : Int32) (x2 : Int32) (x3 : Int32) (x4 : Int32) (h : z_T) {r0 : Int32} (hv : fX12_isLeaf o0 x1 x2 x3 x4 h = some r0) : z_Mi G S l yX12_isLeaf cX12_isLeaf 6 (.boolean) rm_X12_isLeaf 0 0 [.ref (ad o0), .int x1, .int x2, .int x3, .int x4] ad h h r0 := by
  refine z_ofW hSK (by decide) (Nat.le_of_ble_eq_true rfl) ?_
  intro p e s m args below meth c ls hc hr hnm hB hl
  have hx := hc.1.1
  have hb := hc.1.2.1
  have hown := hc.1.2.2.2.1
  have hts := hc.1.2.2.2.2
  replace hc : z_C G S ad (z_n h) p m c cX12_isLeaf 6 s args RX12 meth := hc
  replace hown : s.vm.findClass RX12 = some m.cls := hown
  replace hl : lv_has ls 6 [(0, .ref (ad o0)), (1, .int x1), (2, .int x2), (3, .int x3), (4, .int x4)] := hl
  show W p l e rm_X12_isLeaf s m args below meth c s.heap [] 0 0 (MQ below (z_Qi G ad h (z_n h) s.heap.size r0) args s 0 0 (z_A ad (z_n h) s.heap.size)) (F0 m 0 ls [])
  obtain ⟨rs, kt⟩ : ∃ rs : Int32, rs = r0 := ⟨_, rfl⟩
  generalize hn0 : z_n h = n0 at hc hB ⊢
  have b94 : ∀ (s0 : Int32) (H : Heap) (locs : List Loc) (ls : Array Slot), z_B G ad n0 s h H locs → lv_has ls 6 [(3, .int x3), (4, .int x4)] → ∀ w, fX12_isLeaf_b94 x3 x4 s0 h = some w → w = r0 → W p l e rm_X12_isLeaf s m args below meth c H locs 0 0 (MQ below (z_Qi G ad h n0 s.heap.size r0) args s 0 0 (z_A ad n0 s.heap.size)) (F0 m 94 ls [.int s0]) := by
    intro s0 H locs ls hB hl w hv kb
    refine lv_istore (lv' := [(5, .int s0), (3, .int x3), (4, .int x4)]) hx hb dX12_isLeaf_94 hl (by decide) rfl (fun ls hl => ?_)
    refine lv_iload_n hx hb dX12_isLeaf_96 rfl (lv_at hl 1 rfl) ?_
    refine lv_bipush (v := (60 : Int32)) hx hb dX12_isLeaf_97 (by decide) ?_
    refine lv_icmp_ne (tgt := 117) hx hb dX12_isLeaf_99 (by decide) (fun c1 => ?_) (fun c1 => ?_)
    · replace hv := y_br_f hv c1
      refine lv_iload_n hx hb dX12_isLeaf_117 rfl (lv_at hl 1 rfl) ?_
      refine lv_bipush (v := (61 : Int32)) hx hb dX12_isLeaf_118 (by decide) ?_
      refine lv_icmp_ne (tgt := 138) hx hb dX12_isLeaf_120 (by decide) (fun c2 => ?_) (fun c2 => ?_)
      · replace hv := y_br_f hv c2
        refine lv_iload hx hb dX12_isLeaf_138 (lv_at hl 0 rfl) ?_
        refine lv_iload hx hb dX12_isLeaf_140 (lv_at hl 2 rfl) ?_
        refine lv_icmp_le (tgt := 149) hx hb dX12_isLeaf_142 (by decide) (fun c3 => ?_) (fun c3 => ?_)
        · replace hv := y_br_t hv c3
          refine lv_iconst (v := (0 : Int32)) hx hb dX12_isLeaf_149 (by decide) ?_
          replace hv := Option.some.inj hv
          subst hv
          rw [← kb]
          exact z_zret hc hB hr rfl dX12_isLeaf_150
        · replace hv := y_br_f hv c3
          refine lv_iconst (v := (1 : Int32)) hx hb dX12_isLeaf_145 (by decide) ?_
          refine lv_goto (tgt := 150) hx hb dX12_isLeaf_146 (by decide) ?_
          replace hv := Option.some.inj hv
          subst hv
          rw [← kb]
          exact z_zret hc hB hr rfl dX12_isLeaf_150
      · replace hv := y_br_t hv c2
        refine lv_iload hx hb dX12_isLeaf_123 (lv_at hl 0 rfl) ?_
        refine lv_iload hx hb dX12_isLeaf_125 (lv_at hl 2 rfl) ?_
        refine lv_icmp_ne (tgt := 134) hx hb dX12_isLeaf_127 (by decide) (fun c4 => ?_) (fun c4 => ?_)
        · replace hv := y_br_f hv c4
          refine lv_iconst (v := (0 : Int32)) hx hb dX12_isLeaf_134 (by decide) ?_
          refine lv_goto (tgt := 150) hx hb dX12_isLeaf_135 (by decide) ?_
          replace hv := Option.some.inj hv
          subst hv
          rw [← kb]
          exact z_zret hc hB hr rfl dX12_isLeaf_150
        · replace hv := y_br_t hv c4
          refine lv_iconst (v := (1 : Int32)) hx hb dX12_isLeaf_130 (by decide) ?_
          refine lv_goto (tgt := 150) hx hb dX12_isLeaf_131 (by decide) ?_
          replace hv := Option.some.inj hv
          subst hv
          rw [← kb]
          exact z_zret hc hB hr rfl dX12_isLeaf_150
    · replace hv := y_br_t hv c1
      refine lv_iload hx hb dX12_isLeaf_102 (lv_at hl 0 rfl) ?_
      refine lv_iload hx hb dX12_isLeaf_104 (lv_at hl 2 rfl) ?_
      refine lv_icmp_ge (tgt := 113) hx hb dX12_isLeaf_106 (by decide) (fun c5 => ?_) (fun c5 => ?_)
      · replace hv := y_br_t hv c5
        refine lv_iconst (v := (0 : Int32)) hx hb dX12_isLeaf_113 (by decide) ?_
        refine lv_goto (tgt := 150) hx hb dX12_isLeaf_114 (by decide) ?_
        replace hv := Option.some.inj hv
        subst hv
        rw [← kb]
        exact z_zret hc hB hr rfl dX12_isLeaf_150
      · replace hv := y_br_f hv c5
        refine lv_iconst (v := (1 : Int32)) hx hb dX12_isLeaf_109 (by decide) ?_
        refine lv_goto (tgt := 150) hx hb dX12_isLeaf_110 (by decide) ?_
        replace hv := Option.some.inj hv
        subst hv
        rw [← kb]
        exact z_zret hc hB hr rfl dX12_isLeaf_150
  rw [← kt] at hv
  refine lv_iload_n hx hb dX12_isLeaf_0 rfl (lv_at hl 2 rfl) ?_
  refine lv_if_ne (tgt := 13) hx hb dX12_isLeaf_1 (by decide) (fun c6 => ?_) (fun c6 => ?_)
  · replace hv := y_br_f hv c6
    refine lv_iload_n hx hb dX12_isLeaf_13 rfl (lv_at hl 2 rfl) ?_
    refine lv_iconst (v := (1 : Int32)) hx hb dX12_isLeaf_14 (by decide) ?_
    refine lv_icmp_ne (tgt := 39) hx hb dX12_isLeaf_15 (by decide) (fun c7 => ?_) (fun c7 => ?_)
    · replace hv := y_br_f hv c7
      refine lv_iload_n hx hb dX12_isLeaf_39 rfl (lv_at hl 2 rfl) ?_
      refine lv_iconst (v := (2 : Int32)) hx hb dX12_isLeaf_40 (by decide) ?_
      refine lv_icmp_ne (tgt := 59) hx hb dX12_isLeaf_41 (by decide) (fun c8 => ?_) (fun c8 => ?_)
      · replace hv := y_br_f hv c8
        refine lv_iload_n hx hb dX12_isLeaf_59 rfl (lv_at hl 2 rfl) ?_
        refine lv_iconst (v := (3 : Int32)) hx hb dX12_isLeaf_60 (by decide) ?_
        refine lv_icmp_ne (tgt := 76) hx hb dX12_isLeaf_61 (by decide) (fun c9 => ?_) (fun c9 => ?_)
        · replace hv := y_br_f hv c9
          refine lv_iload_n hx hb dX12_isLeaf_76 rfl (lv_at hl 2 rfl) ?_
          refine lv_iconst (v := (4 : Int32)) hx hb dX12_isLeaf_77 (by decide) ?_
          refine lv_icmp_ne (tgt := 93) hx hb dX12_isLeaf_78 (by decide) (fun c10 => ?_) (fun c10 => ?_)
          · replace hv := y_br_f hv c10
            refine lv_iload_n hx hb dX12_isLeaf_93 rfl (lv_at hl 1 rfl) ?_
            exact b94 x1 _ _ _ hB (lv_sub hl [3, 4] rfl) _ hv kt
          · replace hv := y_br_t hv c10
            refine lv_aload_n hx hb dX12_isLeaf_81 rfl (lv_at hl 0 rfl) ?_
            obtain ⟨g11, hv⟩ := y_gd_e hv
            obtain ⟨o12, eo12, hv⟩ := y_bi_e hv
            refine z_getR hc hB 11 6 g11 eo12 (by decide) (by decide) rfl (z_l1 hc qfX12_33) dX12_isLeaf_82 ?_
            refine lv_bipush (v := (16 : Int32)) hx hb dX12_isLeaf_85 (by decide) ?_
            refine lv_iload_n hx hb dX12_isLeaf_87 rfl (lv_at hl 1 rfl) ?_
            refine lv_iadd hx hb dX12_isLeaf_88 ?_
            obtain ⟨g13, hv⟩ := y_gd_e hv
            obtain ⟨i14, hv⟩ := y_gd_e hv
            refine z_iald hc hB g13 i14 dX12_isLeaf_89 ?_
            refine lv_goto (tgt := 94) hx hb dX12_isLeaf_90 (by decide) ?_
            exact b94 (z_I h o12 ((16 : Int32) + x1).toNatClampNeg) _ _ _ hB (lv_sub hl [3, 4] rfl) _ hv kt
        · replace hv := y_br_t hv c9
          refine lv_aload_n hx hb dX12_isLeaf_64 rfl (lv_at hl 0 rfl) ?_
          obtain ⟨g15, hv⟩ := y_gd_e hv
          obtain ⟨o16, eo16, hv⟩ := y_bi_e hv
          refine z_getR hc hB 11 6 g15 eo16 (by decide) (by decide) rfl (z_l1 hc qfX12_33) dX12_isLeaf_65 ?_
          refine lv_bipush (v := (8 : Int32)) hx hb dX12_isLeaf_68 (by decide) ?_
          refine lv_iload_n hx hb dX12_isLeaf_70 rfl (lv_at hl 1 rfl) ?_
          refine lv_iadd hx hb dX12_isLeaf_71 ?_
          obtain ⟨g17, hv⟩ := y_gd_e hv
          obtain ⟨i18, hv⟩ := y_gd_e hv
          refine z_iald hc hB g17 i18 dX12_isLeaf_72 ?_
          refine lv_goto (tgt := 94) hx hb dX12_isLeaf_73 (by decide) ?_
          exact b94 (z_I h o16 ((8 : Int32) + x1).toNatClampNeg) _ _ _ hB (lv_sub hl [3, 4] rfl) _ hv kt
      · replace hv := y_br_t hv c8
        refine lv_aload_n hx hb dX12_isLeaf_44 rfl (lv_at hl 0 rfl) ?_
        obtain ⟨g19, hv⟩ := y_gd_e hv
        obtain ⟨o20, eo20, hv⟩ := y_bi_e hv
        refine z_getR hc hB 11 6 g19 eo20 (by decide) (by decide) rfl (z_l1 hc qfX12_33) dX12_isLeaf_45 ?_
        refine lv_bipush (v := (30 : Int32)) hx hb dX12_isLeaf_48 (by decide) ?_
        refine lv_iload hx hb dX12_isLeaf_50 (lv_at hl 4 rfl) ?_
        refine lv_iadd hx hb dX12_isLeaf_52 ?_
        obtain ⟨g21, hv⟩ := y_gd_e hv
        obtain ⟨i22, hv⟩ := y_gd_e hv
        refine z_iald hc hB g21 i22 dX12_isLeaf_53 ?_
        refine lv_iload_n hx hb dX12_isLeaf_54 rfl (lv_at hl 1 rfl) ?_
        obtain ⟨r24, c23, hv⟩ := y_bi_e hv
        refine z_thI hc hB (z_runS hc hB (mm_X12_bitOf hSK l ad (z_I h o20 ((30 : Int32) + x4).toNatClampNeg) x1 h c23) md_X12_bitOf qmX12_210 rfl rfl ⟨Nat.le_of_ble_eq_true rfl, Nat.le_of_ble_eq_true rfl⟩ rfl hl.1 rfl (Nat.le_of_ble_eq_true rfl) dX12_isLeaf_55 ⟨Nat.le_of_ble_eq_true rfl, Nat.le_of_ble_eq_true rfl⟩) (fun H locs hB => ?_)
        obtain ⟨y28, hv⟩ := y_gd_e hv
        replace hv := Option.some.inj hv
        subst hv
        rw [← kt]
        exact z_zret hc hB hr (y_b_n y28) dX12_isLeaf_58
    · replace hv := y_br_t hv c7
      refine lv_aload_n hx hb dX12_isLeaf_18 rfl (lv_at hl 0 rfl) ?_
      refine lv_iload_n hx hb dX12_isLeaf_19 rfl (lv_at hl 1 rfl) ?_
      refine lv_aload_n hx hb dX12_isLeaf_20 rfl (lv_at hl 0 rfl) ?_
      obtain ⟨g29, hv⟩ := y_gd_e hv
      obtain ⟨o30, eo30, hv⟩ := y_bi_e hv
      refine z_getR hc hB 11 6 g29 eo30 (by decide) (by decide) rfl (z_l1 hc qfX12_33) dX12_isLeaf_21 ?_
      refine lv_bipush (v := (36 : Int32)) hx hb dX12_isLeaf_24 (by decide) ?_
      obtain ⟨g31, hv⟩ := y_gd_e hv
      obtain ⟨i32, hv⟩ := y_gd_e hv
      refine z_iald hc hB g31 i32 dX12_isLeaf_26 ?_
      obtain ⟨r34, c33, hv⟩ := y_bi_e hv
      refine z_thI hc hB (z_runV hc hB 11 (mm_X12_timesOf hSK l ad o0 x1 (z_I h o30 (36 : Int32).toNatClampNeg) h c33) md_X12_timesOf qmX12_244 g29 (by decide) rfl rfl rfl ⟨Nat.le_of_ble_eq_true rfl, Nat.le_of_ble_eq_true rfl⟩ rfl hl.1 rfl (Nat.le_of_ble_eq_true rfl) dX12_isLeaf_27 ⟨Nat.le_of_ble_eq_true rfl, Nat.le_of_ble_eq_true rfl⟩) (fun H locs hB => ?_)
      refine lv_if_le (tgt := 37) hx hb dX12_isLeaf_30 (by decide) (fun c38 => ?_) (fun c38 => ?_)
      · replace hv := y_br_t hv c38
        refine lv_iconst (v := (0 : Int32)) hx hb dX12_isLeaf_37 (by decide) ?_
        replace hv := Option.some.inj hv
        subst hv
        rw [← kt]
        exact z_zret hc hB hr rfl dX12_isLeaf_38
      · replace hv := y_br_f hv c38
        refine lv_iconst (v := (1 : Int32)) hx hb dX12_isLeaf_33 (by decide) ?_
        refine lv_goto (tgt := 38) hx hb dX12_isLeaf_34 (by decide) ?_
        replace hv := Option.some.inj hv
        subst hv
        rw [← kt]
        exact z_zret hc hB hr rfl dX12_isLeaf_38
  · replace hv := y_br_t hv c6
    refine lv_aload_n hx hb dX12_isLeaf_4 rfl (lv_at hl 0 rfl) ?_
    obtain ⟨g44, hv⟩ := y_gd_e hv
    obtain ⟨r40, c39, hv⟩ := y_bi_e hv
    refine z_thI hc hB (z_runV hc hB 11 (mm_X12_goods hSK l ad o0 h c39) md_X12_goods qmX12_289 g44 (by decide) rfl rfl rfl ⟨Nat.le_of_ble_eq_true rfl, Nat.le_of_ble_eq_true rfl⟩ rfl hl.1 rfl (Nat.le_of_ble_eq_true rfl) dX12_isLeaf_5 ⟨Nat.le_of_ble_eq_true rfl, Nat.le_of_ble_eq_true rfl⟩) (fun H locs hB => ?_)
    refine lv_iload_n hx hb dX12_isLeaf_8 rfl (lv_at hl 1 rfl) ?_
    obtain ⟨r46, c45, hv⟩ := y_bi_e hv
    refine z_thI hc hB (z_runS hc hB (mm_X12_bitOf hSK l ad r40 x1 h c45) md_X12_bitOf qmX12_210 rfl rfl ⟨Nat.le_of_ble_eq_true rfl, Nat.le_of_ble_eq_true rfl⟩ rfl hl.1 rfl (Nat.le_of_ble_eq_true rfl) dX12_isLeaf_9 ⟨Nat.le_of_ble_eq_true rfl, Nat.le_of_ble_eq_true rfl⟩) (fun H locs hB => ?_)
    obtain ⟨y50, hv⟩ := y_gd_e hv
    replace hv := Option.some.inj hv
    subst hv
    rw [← kt]
    exact z_zret hc hB hr (y_b_n y50) dX12_isLeaf_12
theorem qfX12_86 : Cond.fieldLink RX12 86 "DreamTestsModel" "truths" "[Z" ∈ z_ws := List.mem_filter.mpr ⟨List.mem_append_right _ (List.mem_of_getElem? (i := 1353) (by decide +kernel)), rfl⟩
theorem qmX12_459 : Cond.methodLink RX12 459 yX12_isLeaf ∈ z_ws := List.mem_filter.mpr ⟨List.mem_append_right _ (List.mem_of_getElem? (i := 1891) (by decide +kernel)), rfl⟩
theorem qc_X12_isLeaf : Cond.code yX12_isLeaf cX12_isLeaf 6 (some .boolean) ∈ z_ws := List.mem_filter.mpr ⟨List.mem_append_right _ (List.mem_of_getElem? (i := 1894) (by decide +kernel)), rfl⟩
theorem qi_X12_isLeaf : Cond.instanceMethod yX12_isLeaf ∈ z_ws := List.mem_filter.mpr ⟨List.mem_append_right _ (List.mem_of_getElem? (i := 1893) (by decide +kernel)), rfl⟩
theorem qs_X12_isLeaf : Cond.selects RX12 yX12_isLeaf yX12_isLeaf ∈ z_ws := List.mem_filter.mpr ⟨List.mem_append_left _ (List.mem_of_getElem? (i := 92) (by decide +kernel)), rfl⟩
theorem md_X12_isLeaf : z_mdV yX12_isLeaf cX12_isLeaf 6 (some .boolean) 4 := ⟨⟨qn_RX12, qc_X12_isLeaf, ⟨by decide +kernel, by decide +kernel, by decide +kernel⟩⟩, qi_X12_isLeaf, qs_X12_isLeaf⟩
theorem dX12_isSaid_0 : decode cX12_isSaid 0 = .ok (.iconst 0, 1) := by decide +kernel
theorem dX12_isSaid_1 : decode cX12_isSaid 1 = .ok (.istore_n 2, 1) := by decide +kernel
theorem dX12_isSaid_2 : decode cX12_isSaid 2 = .ok (.iconst 0, 1) := by decide +kernel
theorem dX12_isSaid_3 : decode cX12_isSaid 3 = .ok (.istore_n 3, 1) := by decide +kernel
theorem dX12_isSaid_4 : decode cX12_isSaid 4 = .ok (.iload_n 3, 1) := by decide +kernel
theorem dX12_isSaid_5 : decode cX12_isSaid 5 = .ok (.aload_n 0, 1) := by decide +kernel
theorem dX12_isSaid_6 : decode cX12_isSaid 6 = .ok (.getfield 33, 3) := by decide +kernel
theorem dX12_isSaid_9 : decode cX12_isSaid 9 = .ok (.sipush 176, 3) := by decide +kernel
theorem dX12_isSaid_12 : decode cX12_isSaid 12 = .ok (.iaload, 1) := by decide +kernel
theorem dX12_isSaid_13 : decode cX12_isSaid 13 = .ok (.if_icmp .ge 199, 3) := by decide +kernel
theorem dX12_isSaid_16 : decode cX12_isSaid 16 = .ok (.sipush 177, 3) := by decide +kernel
theorem dX12_isSaid_19 : decode cX12_isSaid 19 = .ok (.iconst 3, 1) := by decide +kernel
theorem dX12_isSaid_20 : decode cX12_isSaid 20 = .ok (.iload_n 3, 1) := by decide +kernel
theorem dX12_isSaid_21 : decode cX12_isSaid 21 = .ok (.imul, 1) := by decide +kernel
theorem dX12_isSaid_22 : decode cX12_isSaid 22 = .ok (.iadd, 1) := by decide +kernel
theorem dX12_isSaid_23 : decode cX12_isSaid 23 = .ok (.istore 4, 2) := by decide +kernel
theorem dX12_isSaid_25 : decode cX12_isSaid 25 = .ok (.aload_n 0, 1) := by decide +kernel
theorem dX12_isSaid_26 : decode cX12_isSaid 26 = .ok (.getfield 33, 3) := by decide +kernel
theorem dX12_isSaid_29 : decode cX12_isSaid 29 = .ok (.iload 4, 2) := by decide +kernel
theorem dX12_isSaid_31 : decode cX12_isSaid 31 = .ok (.iaload, 1) := by decide +kernel
theorem dX12_isSaid_32 : decode cX12_isSaid 32 = .ok (.bipush 20, 2) := by decide +kernel
theorem dX12_isSaid_34 : decode cX12_isSaid 34 = .ok (.if_icmp .ne 30, 3) := by decide +kernel
theorem dX12_isSaid_37 : decode cX12_isSaid 37 = .ok (.aload_n 0, 1) := by decide +kernel
theorem dX12_isSaid_38 : decode cX12_isSaid 38 = .ok (.getfield 86, 3) := by decide +kernel
theorem dX12_isSaid_41 : decode cX12_isSaid 41 = .ok (.iload_n 2, 1) := by decide +kernel
theorem dX12_isSaid_42 : decode cX12_isSaid 42 = .ok (.iconst 1, 1) := by decide +kernel
theorem dX12_isSaid_43 : decode cX12_isSaid 43 = .ok (.isub, 1) := by decide +kernel
theorem dX12_isSaid_44 : decode cX12_isSaid 44 = .ok (.aload_n 0, 1) := by decide +kernel
theorem dX12_isSaid_45 : decode cX12_isSaid 45 = .ok (.getfield 86, 3) := by decide +kernel
theorem dX12_isSaid_48 : decode cX12_isSaid 48 = .ok (.iload_n 2, 1) := by decide +kernel
theorem dX12_isSaid_49 : decode cX12_isSaid 49 = .ok (.iconst 1, 1) := by decide +kernel
theorem dX12_isSaid_50 : decode cX12_isSaid 50 = .ok (.isub, 1) := by decide +kernel
theorem dX12_isSaid_51 : decode cX12_isSaid 51 = .ok (.baload, 1) := by decide +kernel
theorem dX12_isSaid_52 : decode cX12_isSaid 52 = .ok (.ifCond .ne 7, 3) := by decide +kernel
theorem dX12_isSaid_55 : decode cX12_isSaid 55 = .ok (.iconst 1, 1) := by decide +kernel
theorem dX12_isSaid_56 : decode cX12_isSaid 56 = .ok (.goto 4, 3) := by decide +kernel
theorem dX12_isSaid_59 : decode cX12_isSaid 59 = .ok (.iconst 0, 1) := by decide +kernel
theorem dX12_isSaid_60 : decode cX12_isSaid 60 = .ok (.bastore, 1) := by decide +kernel
theorem dX12_isSaid_61 : decode cX12_isSaid 61 = .ok (.goto 145, 3) := by decide +kernel
theorem dX12_isSaid_64 : decode cX12_isSaid 64 = .ok (.aload_n 0, 1) := by decide +kernel
theorem dX12_isSaid_65 : decode cX12_isSaid 65 = .ok (.getfield 33, 3) := by decide +kernel
theorem dX12_isSaid_68 : decode cX12_isSaid 68 = .ok (.iload 4, 2) := by decide +kernel
theorem dX12_isSaid_70 : decode cX12_isSaid 70 = .ok (.iaload, 1) := by decide +kernel
theorem dX12_isSaid_71 : decode cX12_isSaid 71 = .ok (.bipush 21, 2) := by decide +kernel
theorem dX12_isSaid_73 : decode cX12_isSaid 73 = .ok (.if_icmp .eq 15, 3) := by decide +kernel
theorem dX12_isSaid_76 : decode cX12_isSaid 76 = .ok (.aload_n 0, 1) := by decide +kernel
theorem dX12_isSaid_77 : decode cX12_isSaid 77 = .ok (.getfield 33, 3) := by decide +kernel
theorem dX12_isSaid_80 : decode cX12_isSaid 80 = .ok (.iload 4, 2) := by decide +kernel
theorem dX12_isSaid_82 : decode cX12_isSaid 82 = .ok (.iaload, 1) := by decide +kernel
theorem dX12_isSaid_83 : decode cX12_isSaid 83 = .ok (.bipush 22, 2) := by decide +kernel
theorem dX12_isSaid_85 : decode cX12_isSaid 85 = .ok (.if_icmp .ne 82, 3) := by decide +kernel
theorem dX12_isSaid_88 : decode cX12_isSaid 88 = .ok (.iinc 2 (-1), 3) := by decide +kernel
theorem dX12_isSaid_91 : decode cX12_isSaid 91 = .ok (.aload_n 0, 1) := by decide +kernel
theorem dX12_isSaid_92 : decode cX12_isSaid 92 = .ok (.getfield 86, 3) := by decide +kernel
theorem dX12_isSaid_95 : decode cX12_isSaid 95 = .ok (.iload_n 2, 1) := by decide +kernel
theorem dX12_isSaid_96 : decode cX12_isSaid 96 = .ok (.iconst 1, 1) := by decide +kernel
theorem dX12_isSaid_97 : decode cX12_isSaid 97 = .ok (.isub, 1) := by decide +kernel
theorem dX12_isSaid_98 : decode cX12_isSaid 98 = .ok (.aload_n 0, 1) := by decide +kernel
theorem dX12_isSaid_99 : decode cX12_isSaid 99 = .ok (.getfield 33, 3) := by decide +kernel
theorem dX12_isSaid_102 : decode cX12_isSaid 102 = .ok (.iload 4, 2) := by decide +kernel
theorem dX12_isSaid_104 : decode cX12_isSaid 104 = .ok (.iaload, 1) := by decide +kernel
theorem dX12_isSaid_105 : decode cX12_isSaid 105 = .ok (.bipush 21, 2) := by decide +kernel
theorem dX12_isSaid_107 : decode cX12_isSaid 107 = .ok (.if_icmp .ne 31, 3) := by decide +kernel
theorem dX12_isSaid_110 : decode cX12_isSaid 110 = .ok (.aload_n 0, 1) := by decide +kernel
theorem dX12_isSaid_111 : decode cX12_isSaid 111 = .ok (.getfield 86, 3) := by decide +kernel
theorem dX12_isSaid_114 : decode cX12_isSaid 114 = .ok (.iload_n 2, 1) := by decide +kernel
theorem dX12_isSaid_115 : decode cX12_isSaid 115 = .ok (.iconst 1, 1) := by decide +kernel
theorem dX12_isSaid_116 : decode cX12_isSaid 116 = .ok (.isub, 1) := by decide +kernel
theorem dX12_isSaid_117 : decode cX12_isSaid 117 = .ok (.baload, 1) := by decide +kernel
theorem dX12_isSaid_118 : decode cX12_isSaid 118 = .ok (.ifCond .eq 16, 3) := by decide +kernel
theorem dX12_isSaid_121 : decode cX12_isSaid 121 = .ok (.aload_n 0, 1) := by decide +kernel
theorem dX12_isSaid_122 : decode cX12_isSaid 122 = .ok (.getfield 86, 3) := by decide +kernel
theorem dX12_isSaid_125 : decode cX12_isSaid 125 = .ok (.iload_n 2, 1) := by decide +kernel
theorem dX12_isSaid_126 : decode cX12_isSaid 126 = .ok (.baload, 1) := by decide +kernel
theorem dX12_isSaid_127 : decode cX12_isSaid 127 = .ok (.ifCond .eq 7, 3) := by decide +kernel
theorem dX12_isSaid_130 : decode cX12_isSaid 130 = .ok (.iconst 1, 1) := by decide +kernel
theorem dX12_isSaid_131 : decode cX12_isSaid 131 = .ok (.goto 32, 3) := by decide +kernel
theorem dX12_isSaid_134 : decode cX12_isSaid 134 = .ok (.iconst 0, 1) := by decide +kernel
theorem dX12_isSaid_135 : decode cX12_isSaid 135 = .ok (.goto 28, 3) := by decide +kernel
theorem dX12_isSaid_138 : decode cX12_isSaid 138 = .ok (.aload_n 0, 1) := by decide +kernel
theorem dX12_isSaid_139 : decode cX12_isSaid 139 = .ok (.getfield 86, 3) := by decide +kernel
theorem dX12_isSaid_142 : decode cX12_isSaid 142 = .ok (.iload_n 2, 1) := by decide +kernel
theorem dX12_isSaid_143 : decode cX12_isSaid 143 = .ok (.iconst 1, 1) := by decide +kernel
theorem dX12_isSaid_144 : decode cX12_isSaid 144 = .ok (.isub, 1) := by decide +kernel
theorem dX12_isSaid_145 : decode cX12_isSaid 145 = .ok (.baload, 1) := by decide +kernel
theorem dX12_isSaid_146 : decode cX12_isSaid 146 = .ok (.ifCond .ne 12, 3) := by decide +kernel
theorem dX12_isSaid_149 : decode cX12_isSaid 149 = .ok (.aload_n 0, 1) := by decide +kernel
theorem dX12_isSaid_150 : decode cX12_isSaid 150 = .ok (.getfield 86, 3) := by decide +kernel
theorem dX12_isSaid_153 : decode cX12_isSaid 153 = .ok (.iload_n 2, 1) := by decide +kernel
theorem dX12_isSaid_154 : decode cX12_isSaid 154 = .ok (.baload, 1) := by decide +kernel
theorem dX12_isSaid_155 : decode cX12_isSaid 155 = .ok (.ifCond .eq 7, 3) := by decide +kernel
theorem dX12_isSaid_158 : decode cX12_isSaid 158 = .ok (.iconst 1, 1) := by decide +kernel
theorem dX12_isSaid_159 : decode cX12_isSaid 159 = .ok (.goto 4, 3) := by decide +kernel
theorem dX12_isSaid_162 : decode cX12_isSaid 162 = .ok (.iconst 0, 1) := by decide +kernel
theorem dX12_isSaid_163 : decode cX12_isSaid 163 = .ok (.bastore, 1) := by decide +kernel
theorem dX12_isSaid_164 : decode cX12_isSaid 164 = .ok (.goto 42, 3) := by decide +kernel
theorem dX12_isSaid_167 : decode cX12_isSaid 167 = .ok (.aload_n 0, 1) := by decide +kernel
theorem dX12_isSaid_168 : decode cX12_isSaid 168 = .ok (.getfield 86, 3) := by decide +kernel
theorem dX12_isSaid_171 : decode cX12_isSaid 171 = .ok (.iload_n 2, 1) := by decide +kernel
theorem dX12_isSaid_172 : decode cX12_isSaid 172 = .ok (.aload_n 0, 1) := by decide +kernel
theorem dX12_isSaid_173 : decode cX12_isSaid 173 = .ok (.iload_n 1, 1) := by decide +kernel
theorem dX12_isSaid_174 : decode cX12_isSaid 174 = .ok (.aload_n 0, 1) := by decide +kernel
theorem dX12_isSaid_175 : decode cX12_isSaid 175 = .ok (.getfield 33, 3) := by decide +kernel
theorem dX12_isSaid_178 : decode cX12_isSaid 178 = .ok (.iload 4, 2) := by decide +kernel
theorem dX12_isSaid_180 : decode cX12_isSaid 180 = .ok (.iaload, 1) := by decide +kernel
theorem dX12_isSaid_181 : decode cX12_isSaid 181 = .ok (.aload_n 0, 1) := by decide +kernel
theorem dX12_isSaid_182 : decode cX12_isSaid 182 = .ok (.getfield 33, 3) := by decide +kernel
theorem dX12_isSaid_185 : decode cX12_isSaid 185 = .ok (.iload 4, 2) := by decide +kernel
theorem dX12_isSaid_187 : decode cX12_isSaid 187 = .ok (.iconst 1, 1) := by decide +kernel
theorem dX12_isSaid_188 : decode cX12_isSaid 188 = .ok (.iadd, 1) := by decide +kernel
theorem dX12_isSaid_189 : decode cX12_isSaid 189 = .ok (.iaload, 1) := by decide +kernel
theorem dX12_isSaid_190 : decode cX12_isSaid 190 = .ok (.aload_n 0, 1) := by decide +kernel
theorem dX12_isSaid_191 : decode cX12_isSaid 191 = .ok (.getfield 33, 3) := by decide +kernel
theorem dX12_isSaid_194 : decode cX12_isSaid 194 = .ok (.iload 4, 2) := by decide +kernel
theorem dX12_isSaid_196 : decode cX12_isSaid 196 = .ok (.iconst 2, 1) := by decide +kernel
theorem dX12_isSaid_197 : decode cX12_isSaid 197 = .ok (.iadd, 1) := by decide +kernel
theorem dX12_isSaid_198 : decode cX12_isSaid 198 = .ok (.iaload, 1) := by decide +kernel
theorem dX12_isSaid_199 : decode cX12_isSaid 199 = .ok (.invokevirtual 459, 3) := by decide +kernel
theorem dX12_isSaid_202 : decode cX12_isSaid 202 = .ok (.bastore, 1) := by decide +kernel
theorem dX12_isSaid_203 : decode cX12_isSaid 203 = .ok (.iinc 2 1, 3) := by decide +kernel
theorem dX12_isSaid_206 : decode cX12_isSaid 206 = .ok (.iinc 3 1, 3) := by decide +kernel
theorem dX12_isSaid_209 : decode cX12_isSaid 209 = .ok (.goto (-205), 3) := by decide +kernel
theorem dX12_isSaid_212 : decode cX12_isSaid 212 = .ok (.aload_n 0, 1) := by decide +kernel
theorem dX12_isSaid_213 : decode cX12_isSaid 213 = .ok (.getfield 86, 3) := by decide +kernel
theorem dX12_isSaid_216 : decode cX12_isSaid 216 = .ok (.iconst 0, 1) := by decide +kernel
theorem dX12_isSaid_217 : decode cX12_isSaid 217 = .ok (.baload, 1) := by decide +kernel
theorem dX12_isSaid_218 : decode cX12_isSaid 218 = .ok (.ireturn, 1) := by decide +kernel
abbrev rm_X12_isSaid : Room := { frames := 2, cells := 0, slots := 0, locals := 49 }
noncomputable def fX12_isSaid_b206 (o0 : Nat) (x1 : Int32) (x2 : Int32) (x3 : Int32) (h : z_T) : Option ((Int32 × Int32 × z_T) ⊕ (Int32 × z_T)) :=
  y_nm (x3 + 1) fun v1 =>
  some (.inl (x2, v1, h))
noncomputable def fX12_isSaid_b60 (o0 : Nat) (x1 : Int32) (x2 : Int32) (x3 : Int32) (s0 : Nat) (s1 : Int32) (s2 : Int32) (h : z_T) : Option ((Int32 × Int32 × z_T) ⊕ (Int32 × z_T)) :=
  y_gd (z_ok h s0 15) <|
  y_gd (z_ix s1 (z_N h s0)) <|
  y_nm (z_sI h s0 s1.toNatClampNeg (vp_nar .boolean s2)) fun h4 =>
  fX12_isSaid_b206 o0 x1 x2 x3 h4
noncomputable def fX12_isSaid_b163 (o0 : Nat) (x1 : Int32) (x2 : Int32) (x3 : Int32) (s0 : Nat) (s1 : Int32) (s2 : Int32) (h : z_T) : Option ((Int32 × Int32 × z_T) ⊕ (Int32 × z_T)) :=
  y_gd (z_ok h s0 15) <|
  y_gd (z_ix s1 (z_N h s0)) <|
  y_nm (z_sI h s0 s1.toNatClampNeg (vp_nar .boolean s2)) fun h7 =>
  fX12_isSaid_b206 o0 x1 x2 x3 h7
noncomputable def fX12_isSaid_b134 (o0 : Nat) (x1 : Int32) (x2 : Int32) (x3 : Int32) (s0 : Nat) (s1 : Int32) (h : z_T) : Option ((Int32 × Int32 × z_T) ⊕ (Int32 × z_T)) :=
  fX12_isSaid_b163 o0 x1 x2 x3 s0 s1 (0 : Int32) h
noncomputable def fX12_isSaid_b158 (o0 : Nat) (x1 : Int32) (x2 : Int32) (x3 : Int32) (s0 : Nat) (s1 : Int32) (h : z_T) : Option ((Int32 × Int32 × z_T) ⊕ (Int32 × z_T)) :=
  fX12_isSaid_b163 o0 x1 x2 x3 s0 s1 (1 : Int32) h
noncomputable def fX12_isSaid_b88 (o0 : Nat) (x1 : Int32) (x2 : Int32) (x3 : Int32) (x4 : Int32) (h : z_T) : Option ((Int32 × Int32 × z_T) ⊕ (Int32 × z_T)) :=
  y_nm (x2 + (-1)) fun v8 =>
  y_gd (z_ok h o0 11) <|
  y_bi (z_R h o0 53) fun o10 =>
  y_bi (z_R h o0 6) fun o11 =>
  y_gd (z_ok h o11 13) <|
  y_gd (z_ix x4 (z_N h o11)) <|
  y_br ((z_I h o11 x4.toNatClampNeg) = (21 : Int32))
    (y_gd (z_ok h o10 15) <|
    y_gd (z_ix (v8 - (1 : Int32)) (z_N h o10)) <|
    y_br ((z_I h o10 (v8 - (1 : Int32)).toNatClampNeg) = 0)
      (fX12_isSaid_b134 o0 x1 v8 x3 o10 (v8 - (1 : Int32)) h)
      (y_gd (z_ix v8 (z_N h o10)) <|
      y_br ((z_I h o10 v8.toNatClampNeg) = 0)
        (fX12_isSaid_b134 o0 x1 v8 x3 o10 (v8 - (1 : Int32)) h)
        (fX12_isSaid_b163 o0 x1 v8 x3 o10 (v8 - (1 : Int32)) (1 : Int32) h)))
    (y_gd (z_ok h o10 15) <|
    y_gd (z_ix (v8 - (1 : Int32)) (z_N h o10)) <|
    y_br ((z_I h o10 (v8 - (1 : Int32)).toNatClampNeg) = 0)
      (y_gd (z_ix v8 (z_N h o10)) <|
      y_br ((z_I h o10 v8.toNatClampNeg) = 0)
        (fX12_isSaid_b163 o0 x1 v8 x3 o10 (v8 - (1 : Int32)) (0 : Int32) h)
        (fX12_isSaid_b158 o0 x1 v8 x3 o10 (v8 - (1 : Int32)) h))
      (fX12_isSaid_b158 o0 x1 v8 x3 o10 (v8 - (1 : Int32)) h))
noncomputable def fX12_isSaid_b4_i (o0 : Nat) (x1 : Int32) (x2 : Int32) (x3 : Int32) (h : z_T) : Option ((Int32 × Int32 × z_T) ⊕ (Int32 × z_T)) :=
  y_gd (z_ok h o0 11) <|
  y_bi (z_R h o0 6) fun o26 =>
  y_gd (z_ok h o26 13) <|
  y_gd (z_ix (176 : Int32) (z_N h o26)) <|
  y_br ((z_I h o26 (176 : Int32).toNatClampNeg) ≤ x3)
    (y_mp <|
    y_bi (z_R h o0 53) fun o31 =>
    y_gd (z_ok h o31 15) <|
    y_gd (z_ix (0 : Int32) (z_N h o31)) <|
    y_gd (y_b (z_I h o31 (0 : Int32).toNatClampNeg)) <|
    some ((z_I h o31 (0 : Int32).toNatClampNeg), h))
    (y_nm (((177 : Int32) + ((3 : Int32) * x3))) fun v35 =>
    y_gd (z_ix v35 (z_N h o26)) <|
    y_br ((z_I h o26 v35.toNatClampNeg) = (20 : Int32))
      (y_bi (z_R h o0 53) fun o55 =>
      y_gd (z_ok h o55 15) <|
      y_gd (z_ix (x2 - (1 : Int32)) (z_N h o55)) <|
      y_br ((z_I h o55 (x2 - (1 : Int32)).toNatClampNeg) = 0)
        (fX12_isSaid_b60 o0 x1 x2 x3 o55 (x2 - (1 : Int32)) (1 : Int32) h)
        (fX12_isSaid_b60 o0 x1 x2 x3 o55 (x2 - (1 : Int32)) (0 : Int32) h))
      (y_gd (z_ix v35 (z_N h o26)) <|
      y_br ((z_I h o26 v35.toNatClampNeg) = (21 : Int32))
        (fX12_isSaid_b88 o0 x1 x2 x3 v35 h)
        (y_gd (z_ix v35 (z_N h o26)) <|
        y_br ((z_I h o26 v35.toNatClampNeg) = (22 : Int32))
          (fX12_isSaid_b88 o0 x1 x2 x3 v35 h)
          (y_bi (z_R h o0 53) fun o42 =>
          y_gd (z_ix v35 (z_N h o26)) <|
          y_gd (z_ix (v35 + (1 : Int32)) (z_N h o26)) <|
          y_gd (z_ix (v35 + (2 : Int32)) (z_N h o26)) <|
          y_bi (fX12_isLeaf o0 x1 (z_I h o26 v35.toNatClampNeg) (z_I h o26 (v35 + (1 : Int32)).toNatClampNeg) (z_I h o26 (v35 + (2 : Int32)).toNatClampNeg) h) fun r47 =>
          y_gd (z_ok h o42 15) <|
          y_gd (z_ix x2 (z_N h o42)) <|
          y_nm (z_sI h o42 x2.toNatClampNeg (vp_nar .boolean r47)) fun h53 =>
          y_nm (x2 + 1) fun v54 =>
          fX12_isSaid_b206 o0 x1 v54 x3 h53))))
noncomputable def fX12_isSaid_b4 (o0 : Nat) (x1 : Int32) (x2 : Int32) (x3 : Int32) (h : z_T) : Option (Int32 × z_T) := y_lp (fun q : Int32 × Int32 × z_T => fX12_isSaid_b4_i o0 x1 q.1 q.2.1 q.2.2) (x2, x3, h)
noncomputable def fX12_isSaid (o0 : Nat) (x1 : Int32) (h : z_T) : Option (Int32 × z_T) :=
  fX12_isSaid_b4 o0 x1 (0 : Int32) (0 : Int32) h
set_option maxHeartbeats 4000000 in
set_option maxRecDepth 100000 in
theorem mm_X12_isSaid {G : z_Gt} {S : State → Prop} (hSK : z_SK S) (l : Launch) (ad : Nat → Nat) (o0 : Nat) (x1 : Int32) (h : z_T) {r0 : Int32} {h9 : z_T} (hv : fX12_isSaid o0 x1 h = some (r0, h9)) : z_Mi G S l yX12_isSaid cX12_isSaid 5 (.boolean) rm_X12_isSaid 0 0 [.ref (ad o0), .int x1] ad h h9 r0 := by
  refine z_ofW hSK (by decide) (Nat.le_of_ble_eq_true rfl) ?_
  intro p e s m args below meth c ls hc hr hnm hB hl
  have hx := hc.1.1
  have hb := hc.1.2.1
  have hown := hc.1.2.2.2.1
  have hts := hc.1.2.2.2.2
  replace hc : z_C G S ad (z_n h) p m c cX12_isSaid 5 s args RX12 meth := hc
  replace hown : s.vm.findClass RX12 = some m.cls := hown
  replace hl : lv_has ls 5 [(0, .ref (ad o0)), (1, .int x1)] := hl
  show W p l e rm_X12_isSaid s m args below meth c s.heap [] 0 0 (MQ below (z_Qi G ad h9 (z_n h) s.heap.size r0) args s 0 0 (z_A ad (z_n h) s.heap.size)) (F0 m 0 ls [])
  obtain ⟨rs, kt⟩ : ∃ rs : Int32 × z_T, rs = (r0, h9) := ⟨_, rfl⟩
  generalize hn0 : z_n h = n0 at hc hB ⊢
  have L4 : ∀ (nn4 : Nat) (x2 : Int32) (x3 : Int32) (h : z_T) (H : Heap) (locs : List Loc) (ls : Array Slot), z_B G ad n0 s h H locs → lv_has ls 5 [(0, .ref (ad o0)), (1, .int x1), (2, .int x2), (3, .int x3)] → ∀ vv4, y_lpN (fun q : Int32 × Int32 × z_T => fX12_isSaid_b4_i o0 x1 q.1 q.2.1 q.2.2) nn4 (x2, x3, h) = some vv4 → vv4 = (r0, h9) → W p l e rm_X12_isSaid s m args below meth c H locs 0 0 (MQ below (z_Qi G ad h9 n0 s.heap.size r0) args s 0 0 (z_A ad n0 s.heap.size)) (F0 m 4 ls []) := by
    intro nn4
    induction nn4 with
    | zero => intro x2 x3 h H locs ls hB hl vv4 hv kv4; exact absurd hv (fun q => y_lpN_0 q)
    | succ nn4 ih4 =>
      intro x2 x3 h H locs ls hB hl vv4 hv kv4
      obtain ⟨w, hq, kw4⟩ := y_lpN_e hv
      clear hv
      have hv : fX12_isSaid_b4_i o0 x1 x2 x3 h = some w := hq
      clear hq
      have b206 : ∀ (x2 : Int32) (x3 : Int32) (h : z_T) (H : Heap) (locs : List Loc) (ls : Array Slot), z_B G ad n0 s h H locs → lv_has ls 5 [(0, .ref (ad o0)), (1, .int x1), (2, .int x2), (3, .int x3)] → ∀ w, fX12_isSaid_b206 o0 x1 x2 x3 h = some w → y_lq (fun q : Int32 × Int32 × z_T => fX12_isSaid_b4_i o0 x1 q.1 q.2.1 q.2.2) nn4 vv4 w → W p l e rm_X12_isSaid s m args below meth c H locs 0 0 (MQ below (z_Qi G ad h9 n0 s.heap.size r0) args s 0 0 (z_A ad n0 s.heap.size)) (F0 m 206 ls []) := by
        intro x2 x3 h H locs ls hB hl w hv kw4
        obtain ⟨v1, ev1, hv⟩ := y_nm_e hv
        refine lv_iinc (v := v1) (lv' := [(3, .int v1), (0, .ref (ad o0)), (1, .int x1), (2, .int x2)]) hx hb dX12_isSaid_206 hl (k := 3) rfl (by rw [ev1]; rfl) (by decide) rfl (fun ls hl => ?_)
        refine lv_goto (tgt := 4) hx hb dX12_isSaid_209 (by decide) ?_
        replace hv := Option.some.inj hv
        subst hv
        exact ih4 x2 v1 h _ _ _ hB (lv_sub hl [1, 2, 3, 0] rfl) _ kw4 kv4
      have b60 : ∀ (x2 : Int32) (x3 : Int32) (s0 : Nat) (s1 : Int32) (s2 : Int32) (h : z_T) (H : Heap) (locs : List Loc) (ls : Array Slot), z_B G ad n0 s h H locs → lv_has ls 5 [(0, .ref (ad o0)), (1, .int x1), (2, .int x2), (3, .int x3)] → ∀ w, fX12_isSaid_b60 o0 x1 x2 x3 s0 s1 s2 h = some w → y_lq (fun q : Int32 × Int32 × z_T => fX12_isSaid_b4_i o0 x1 q.1 q.2.1 q.2.2) nn4 vv4 w → W p l e rm_X12_isSaid s m args below meth c H locs 0 0 (MQ below (z_Qi G ad h9 n0 s.heap.size r0) args s 0 0 (z_A ad n0 s.heap.size)) (F0 m 60 ls [.int s2, .int s1, .ref (ad s0)]) := by
        intro x2 x3 s0 s1 s2 h H locs ls hB hl w hv kw4
        obtain ⟨g2, hv⟩ := y_gd_e hv
        obtain ⟨i3, hv⟩ := y_gd_e hv
        obtain ⟨h4, eh4, hv⟩ := y_nm_e hv
        refine y_zast hc hB eh4 g2 i3 dX12_isSaid_60 (fun H locs hB => ?_)
        refine lv_goto (tgt := 206) hx hb dX12_isSaid_61 (by decide) ?_
        exact b206 x2 x3 h4 _ _ _ hB (lv_sub hl [0, 1, 2, 3] rfl) _ hv kw4
      have b163 : ∀ (x2 : Int32) (x3 : Int32) (s0 : Nat) (s1 : Int32) (s2 : Int32) (h : z_T) (H : Heap) (locs : List Loc) (ls : Array Slot), z_B G ad n0 s h H locs → lv_has ls 5 [(0, .ref (ad o0)), (1, .int x1), (2, .int x2), (3, .int x3)] → ∀ w, fX12_isSaid_b163 o0 x1 x2 x3 s0 s1 s2 h = some w → y_lq (fun q : Int32 × Int32 × z_T => fX12_isSaid_b4_i o0 x1 q.1 q.2.1 q.2.2) nn4 vv4 w → W p l e rm_X12_isSaid s m args below meth c H locs 0 0 (MQ below (z_Qi G ad h9 n0 s.heap.size r0) args s 0 0 (z_A ad n0 s.heap.size)) (F0 m 163 ls [.int s2, .int s1, .ref (ad s0)]) := by
        intro x2 x3 s0 s1 s2 h H locs ls hB hl w hv kw4
        obtain ⟨g5, hv⟩ := y_gd_e hv
        obtain ⟨i6, hv⟩ := y_gd_e hv
        obtain ⟨h7, eh7, hv⟩ := y_nm_e hv
        refine y_zast hc hB eh7 g5 i6 dX12_isSaid_163 (fun H locs hB => ?_)
        refine lv_goto (tgt := 206) hx hb dX12_isSaid_164 (by decide) ?_
        exact b206 x2 x3 h7 _ _ _ hB (lv_sub hl [0, 1, 2, 3] rfl) _ hv kw4
      have b134 : ∀ (x2 : Int32) (x3 : Int32) (s0 : Nat) (s1 : Int32) (h : z_T) (H : Heap) (locs : List Loc) (ls : Array Slot), z_B G ad n0 s h H locs → lv_has ls 5 [(0, .ref (ad o0)), (1, .int x1), (2, .int x2), (3, .int x3)] → ∀ w, fX12_isSaid_b134 o0 x1 x2 x3 s0 s1 h = some w → y_lq (fun q : Int32 × Int32 × z_T => fX12_isSaid_b4_i o0 x1 q.1 q.2.1 q.2.2) nn4 vv4 w → W p l e rm_X12_isSaid s m args below meth c H locs 0 0 (MQ below (z_Qi G ad h9 n0 s.heap.size r0) args s 0 0 (z_A ad n0 s.heap.size)) (F0 m 134 ls [.int s1, .ref (ad s0)]) := by
        intro x2 x3 s0 s1 h H locs ls hB hl w hv kw4
        refine lv_iconst (v := (0 : Int32)) hx hb dX12_isSaid_134 (by decide) ?_
        refine lv_goto (tgt := 163) hx hb dX12_isSaid_135 (by decide) ?_
        exact b163 x2 x3 s0 s1 (0 : Int32) h _ _ _ hB (lv_sub hl [0, 1, 2, 3] rfl) _ hv kw4
      have b158 : ∀ (x2 : Int32) (x3 : Int32) (s0 : Nat) (s1 : Int32) (h : z_T) (H : Heap) (locs : List Loc) (ls : Array Slot), z_B G ad n0 s h H locs → lv_has ls 5 [(0, .ref (ad o0)), (1, .int x1), (2, .int x2), (3, .int x3)] → ∀ w, fX12_isSaid_b158 o0 x1 x2 x3 s0 s1 h = some w → y_lq (fun q : Int32 × Int32 × z_T => fX12_isSaid_b4_i o0 x1 q.1 q.2.1 q.2.2) nn4 vv4 w → W p l e rm_X12_isSaid s m args below meth c H locs 0 0 (MQ below (z_Qi G ad h9 n0 s.heap.size r0) args s 0 0 (z_A ad n0 s.heap.size)) (F0 m 158 ls [.int s1, .ref (ad s0)]) := by
        intro x2 x3 s0 s1 h H locs ls hB hl w hv kw4
        refine lv_iconst (v := (1 : Int32)) hx hb dX12_isSaid_158 (by decide) ?_
        refine lv_goto (tgt := 163) hx hb dX12_isSaid_159 (by decide) ?_
        exact b163 x2 x3 s0 s1 (1 : Int32) h _ _ _ hB (lv_sub hl [0, 1, 2, 3] rfl) _ hv kw4
      have b88 : ∀ (x2 : Int32) (x3 : Int32) (x4 : Int32) (h : z_T) (H : Heap) (locs : List Loc) (ls : Array Slot), z_B G ad n0 s h H locs → lv_has ls 5 [(0, .ref (ad o0)), (1, .int x1), (2, .int x2), (3, .int x3), (4, .int x4)] → ∀ w, fX12_isSaid_b88 o0 x1 x2 x3 x4 h = some w → y_lq (fun q : Int32 × Int32 × z_T => fX12_isSaid_b4_i o0 x1 q.1 q.2.1 q.2.2) nn4 vv4 w → W p l e rm_X12_isSaid s m args below meth c H locs 0 0 (MQ below (z_Qi G ad h9 n0 s.heap.size r0) args s 0 0 (z_A ad n0 s.heap.size)) (F0 m 88 ls []) := by
        intro x2 x3 x4 h H locs ls hB hl w hv kw4
        obtain ⟨v8, ev8, hv⟩ := y_nm_e hv
        refine lv_iinc (v := v8) (lv' := [(2, .int v8), (0, .ref (ad o0)), (1, .int x1), (3, .int x3), (4, .int x4)]) hx hb dX12_isSaid_88 hl (k := 2) rfl (by rw [ev8]; rfl) (by decide) rfl (fun ls hl => ?_)
        refine lv_aload_n hx hb dX12_isSaid_91 rfl (lv_at hl 1 rfl) ?_
        obtain ⟨g9, hv⟩ := y_gd_e hv
        obtain ⟨o10, eo10, hv⟩ := y_bi_e hv
        refine z_getR hc hB 11 53 g9 eo10 (by decide) (by decide) rfl (z_l1 hc qfX12_86) dX12_isSaid_92 ?_
        refine lv_iload_n hx hb dX12_isSaid_95 rfl (lv_at hl 0 rfl) ?_
        refine lv_iconst (v := (1 : Int32)) hx hb dX12_isSaid_96 (by decide) ?_
        refine lv_isub hx hb dX12_isSaid_97 ?_
        refine lv_aload_n hx hb dX12_isSaid_98 rfl (lv_at hl 1 rfl) ?_
        obtain ⟨o11, eo11, hv⟩ := y_bi_e hv
        refine z_getR hc hB 11 6 g9 eo11 (by decide) (by decide) rfl (z_l1 hc qfX12_33) dX12_isSaid_99 ?_
        refine lv_iload hx hb dX12_isSaid_102 (lv_at hl 4 rfl) ?_
        obtain ⟨g12, hv⟩ := y_gd_e hv
        obtain ⟨i13, hv⟩ := y_gd_e hv
        refine z_iald hc hB g12 i13 dX12_isSaid_104 ?_
        refine lv_bipush (v := (21 : Int32)) hx hb dX12_isSaid_105 (by decide) ?_
        refine lv_icmp_ne (tgt := 138) hx hb dX12_isSaid_107 (by decide) (fun c14 => ?_) (fun c14 => ?_)
        · replace hv := y_br_f hv c14
          refine lv_aload_n hx hb dX12_isSaid_138 rfl (lv_at hl 1 rfl) ?_
          refine z_getR hc hB 11 53 g9 eo10 (by decide) (by decide) rfl (z_l1 hc qfX12_86) dX12_isSaid_139 ?_
          refine lv_iload_n hx hb dX12_isSaid_142 rfl (lv_at hl 0 rfl) ?_
          refine lv_iconst (v := (1 : Int32)) hx hb dX12_isSaid_143 (by decide) ?_
          refine lv_isub hx hb dX12_isSaid_144 ?_
          obtain ⟨g15, hv⟩ := y_gd_e hv
          obtain ⟨i16, hv⟩ := y_gd_e hv
          refine z_zald hc hB g15 i16 dX12_isSaid_145 ?_
          refine lv_if_ne (tgt := 158) hx hb dX12_isSaid_146 (by decide) (fun c17 => ?_) (fun c17 => ?_)
          · replace hv := y_br_f hv c17
            exact b158 v8 x3 o10 (v8 - (1 : Int32)) h _ _ _ hB (lv_sub hl [1, 2, 0, 3] rfl) _ hv kw4
          · replace hv := y_br_t hv c17
            refine lv_aload_n hx hb dX12_isSaid_149 rfl (lv_at hl 1 rfl) ?_
            refine z_getR hc hB 11 53 g9 eo10 (by decide) (by decide) rfl (z_l1 hc qfX12_86) dX12_isSaid_150 ?_
            refine lv_iload_n hx hb dX12_isSaid_153 rfl (lv_at hl 0 rfl) ?_
            obtain ⟨i18, hv⟩ := y_gd_e hv
            refine z_zald hc hB g15 i18 dX12_isSaid_154 ?_
            refine lv_if_eq (tgt := 162) hx hb dX12_isSaid_155 (by decide) (fun c19 => ?_) (fun c19 => ?_)
            · replace hv := y_br_t hv c19
              refine lv_iconst (v := (0 : Int32)) hx hb dX12_isSaid_162 (by decide) ?_
              exact b163 v8 x3 o10 (v8 - (1 : Int32)) (0 : Int32) h _ _ _ hB (lv_sub hl [1, 2, 0, 3] rfl) _ hv kw4
            · replace hv := y_br_f hv c19
              exact b158 v8 x3 o10 (v8 - (1 : Int32)) h _ _ _ hB (lv_sub hl [1, 2, 0, 3] rfl) _ hv kw4
        · replace hv := y_br_t hv c14
          refine lv_aload_n hx hb dX12_isSaid_110 rfl (lv_at hl 1 rfl) ?_
          refine z_getR hc hB 11 53 g9 eo10 (by decide) (by decide) rfl (z_l1 hc qfX12_86) dX12_isSaid_111 ?_
          refine lv_iload_n hx hb dX12_isSaid_114 rfl (lv_at hl 0 rfl) ?_
          refine lv_iconst (v := (1 : Int32)) hx hb dX12_isSaid_115 (by decide) ?_
          refine lv_isub hx hb dX12_isSaid_116 ?_
          obtain ⟨g20, hv⟩ := y_gd_e hv
          obtain ⟨i21, hv⟩ := y_gd_e hv
          refine z_zald hc hB g20 i21 dX12_isSaid_117 ?_
          refine lv_if_eq (tgt := 134) hx hb dX12_isSaid_118 (by decide) (fun c22 => ?_) (fun c22 => ?_)
          · replace hv := y_br_t hv c22
            exact b134 v8 x3 o10 (v8 - (1 : Int32)) h _ _ _ hB (lv_sub hl [1, 2, 0, 3] rfl) _ hv kw4
          · replace hv := y_br_f hv c22
            refine lv_aload_n hx hb dX12_isSaid_121 rfl (lv_at hl 1 rfl) ?_
            refine z_getR hc hB 11 53 g9 eo10 (by decide) (by decide) rfl (z_l1 hc qfX12_86) dX12_isSaid_122 ?_
            refine lv_iload_n hx hb dX12_isSaid_125 rfl (lv_at hl 0 rfl) ?_
            obtain ⟨i23, hv⟩ := y_gd_e hv
            refine z_zald hc hB g20 i23 dX12_isSaid_126 ?_
            refine lv_if_eq (tgt := 134) hx hb dX12_isSaid_127 (by decide) (fun c24 => ?_) (fun c24 => ?_)
            · replace hv := y_br_t hv c24
              exact b134 v8 x3 o10 (v8 - (1 : Int32)) h _ _ _ hB (lv_sub hl [1, 2, 0, 3] rfl) _ hv kw4
            · replace hv := y_br_f hv c24
              refine lv_iconst (v := (1 : Int32)) hx hb dX12_isSaid_130 (by decide) ?_
              refine lv_goto (tgt := 163) hx hb dX12_isSaid_131 (by decide) ?_
              exact b163 v8 x3 o10 (v8 - (1 : Int32)) (1 : Int32) h _ _ _ hB (lv_sub hl [1, 2, 0, 3] rfl) _ hv kw4
      refine lv_iload_n hx hb dX12_isSaid_4 rfl (lv_at hl 3 rfl) ?_
      refine lv_aload_n hx hb dX12_isSaid_5 rfl (lv_at hl 0 rfl) ?_
      obtain ⟨g25, hv⟩ := y_gd_e hv
      obtain ⟨o26, eo26, hv⟩ := y_bi_e hv
      refine z_getR hc hB 11 6 g25 eo26 (by decide) (by decide) rfl (z_l1 hc qfX12_33) dX12_isSaid_6 ?_
      refine lv_sipush (v := (176 : Int32)) hx hb dX12_isSaid_9 (by decide) ?_
      obtain ⟨g27, hv⟩ := y_gd_e hv
      obtain ⟨i28, hv⟩ := y_gd_e hv
      refine z_iald hc hB g27 i28 dX12_isSaid_12 ?_
      refine lv_icmp_ge (tgt := 212) hx hb dX12_isSaid_13 (by decide) (fun c29 => ?_) (fun c29 => ?_)
      · replace hv := y_br_t hv c29
        obtain ⟨t30, hq, ew⟩ := y_mp_e hv
        clear hv; subst ew
        replace kw4 : t30 = _ := kw4
        subst kw4
        have hv := hq
        clear hq
        refine lv_aload_n hx hb dX12_isSaid_212 rfl (lv_at hl 0 rfl) ?_
        obtain ⟨o31, eo31, hv⟩ := y_bi_e hv
        refine z_getR hc hB 11 53 g25 eo31 (by decide) (by decide) rfl (z_l1 hc qfX12_86) dX12_isSaid_213 ?_
        refine lv_iconst (v := (0 : Int32)) hx hb dX12_isSaid_216 (by decide) ?_
        obtain ⟨g32, hv⟩ := y_gd_e hv
        obtain ⟨i33, hv⟩ := y_gd_e hv
        refine z_zald hc hB g32 i33 dX12_isSaid_217 ?_
        obtain ⟨y34, hv⟩ := y_gd_e hv
        replace hv := Option.some.inj hv
        subst hv
        obtain ⟨e1, e2⟩ := y_pr kv4
        rw [← e1, ← e2]
        exact z_zret hc hB hr (y_b_n y34) dX12_isSaid_218
      · replace hv := y_br_f hv c29
        refine lv_sipush (v := (177 : Int32)) hx hb dX12_isSaid_16 (by decide) ?_
        refine lv_iconst (v := (3 : Int32)) hx hb dX12_isSaid_19 (by decide) ?_
        refine lv_iload_n hx hb dX12_isSaid_20 rfl (lv_at hl 3 rfl) ?_
        refine lv_imul hx hb dX12_isSaid_21 ?_
        refine lv_iadd hx hb dX12_isSaid_22 ?_
        obtain ⟨v35, ev35, hv⟩ := y_nm_e hv
        rw [← ev35]
        refine lv_istore (lv' := [(4, .int v35), (0, .ref (ad o0)), (1, .int x1), (2, .int x2), (3, .int x3)]) hx hb dX12_isSaid_23 hl (by decide) rfl (fun ls hl => ?_)
        refine lv_aload_n hx hb dX12_isSaid_25 rfl (lv_at hl 1 rfl) ?_
        refine z_getR hc hB 11 6 g25 eo26 (by decide) (by decide) rfl (z_l1 hc qfX12_33) dX12_isSaid_26 ?_
        refine lv_iload hx hb dX12_isSaid_29 (lv_at hl 0 rfl) ?_
        obtain ⟨i36, hv⟩ := y_gd_e hv
        refine z_iald hc hB g27 i36 dX12_isSaid_31 ?_
        refine lv_bipush (v := (20 : Int32)) hx hb dX12_isSaid_32 (by decide) ?_
        refine lv_icmp_ne (tgt := 64) hx hb dX12_isSaid_34 (by decide) (fun c37 => ?_) (fun c37 => ?_)
        · replace hv := y_br_f hv c37
          refine lv_aload_n hx hb dX12_isSaid_64 rfl (lv_at hl 1 rfl) ?_
          refine z_getR hc hB 11 6 g25 eo26 (by decide) (by decide) rfl (z_l1 hc qfX12_33) dX12_isSaid_65 ?_
          refine lv_iload hx hb dX12_isSaid_68 (lv_at hl 0 rfl) ?_
          obtain ⟨i38, hv⟩ := y_gd_e hv
          refine z_iald hc hB g27 i38 dX12_isSaid_70 ?_
          refine lv_bipush (v := (21 : Int32)) hx hb dX12_isSaid_71 (by decide) ?_
          refine lv_icmp_eq (tgt := 88) hx hb dX12_isSaid_73 (by decide) (fun c39 => ?_) (fun c39 => ?_)
          · replace hv := y_br_t hv c39
            exact b88 x2 x3 v35 h _ _ _ hB (lv_sub hl [1, 2, 3, 4, 0] rfl) _ hv kw4
          · replace hv := y_br_f hv c39
            refine lv_aload_n hx hb dX12_isSaid_76 rfl (lv_at hl 1 rfl) ?_
            refine z_getR hc hB 11 6 g25 eo26 (by decide) (by decide) rfl (z_l1 hc qfX12_33) dX12_isSaid_77 ?_
            refine lv_iload hx hb dX12_isSaid_80 (lv_at hl 0 rfl) ?_
            obtain ⟨i40, hv⟩ := y_gd_e hv
            refine z_iald hc hB g27 i40 dX12_isSaid_82 ?_
            refine lv_bipush (v := (22 : Int32)) hx hb dX12_isSaid_83 (by decide) ?_
            refine lv_icmp_ne (tgt := 167) hx hb dX12_isSaid_85 (by decide) (fun c41 => ?_) (fun c41 => ?_)
            · replace hv := y_br_f hv c41
              refine lv_aload_n hx hb dX12_isSaid_167 rfl (lv_at hl 1 rfl) ?_
              obtain ⟨o42, eo42, hv⟩ := y_bi_e hv
              refine z_getR hc hB 11 53 g25 eo42 (by decide) (by decide) rfl (z_l1 hc qfX12_86) dX12_isSaid_168 ?_
              refine lv_iload_n hx hb dX12_isSaid_171 rfl (lv_at hl 3 rfl) ?_
              refine lv_aload_n hx hb dX12_isSaid_172 rfl (lv_at hl 1 rfl) ?_
              refine lv_iload_n hx hb dX12_isSaid_173 rfl (lv_at hl 2 rfl) ?_
              refine lv_aload_n hx hb dX12_isSaid_174 rfl (lv_at hl 1 rfl) ?_
              refine z_getR hc hB 11 6 g25 eo26 (by decide) (by decide) rfl (z_l1 hc qfX12_33) dX12_isSaid_175 ?_
              refine lv_iload hx hb dX12_isSaid_178 (lv_at hl 0 rfl) ?_
              obtain ⟨i43, hv⟩ := y_gd_e hv
              refine z_iald hc hB g27 i43 dX12_isSaid_180 ?_
              refine lv_aload_n hx hb dX12_isSaid_181 rfl (lv_at hl 1 rfl) ?_
              refine z_getR hc hB 11 6 g25 eo26 (by decide) (by decide) rfl (z_l1 hc qfX12_33) dX12_isSaid_182 ?_
              refine lv_iload hx hb dX12_isSaid_185 (lv_at hl 0 rfl) ?_
              refine lv_iconst (v := (1 : Int32)) hx hb dX12_isSaid_187 (by decide) ?_
              refine lv_iadd hx hb dX12_isSaid_188 ?_
              obtain ⟨i44, hv⟩ := y_gd_e hv
              refine z_iald hc hB g27 i44 dX12_isSaid_189 ?_
              refine lv_aload_n hx hb dX12_isSaid_190 rfl (lv_at hl 1 rfl) ?_
              refine z_getR hc hB 11 6 g25 eo26 (by decide) (by decide) rfl (z_l1 hc qfX12_33) dX12_isSaid_191 ?_
              refine lv_iload hx hb dX12_isSaid_194 (lv_at hl 0 rfl) ?_
              refine lv_iconst (v := (2 : Int32)) hx hb dX12_isSaid_196 (by decide) ?_
              refine lv_iadd hx hb dX12_isSaid_197 ?_
              obtain ⟨i45, hv⟩ := y_gd_e hv
              refine z_iald hc hB g27 i45 dX12_isSaid_198 ?_
              obtain ⟨r47, c46, hv⟩ := y_bi_e hv
              refine z_thI hc hB (z_runV hc hB 11 (mm_X12_isLeaf hSK l ad o0 x1 (z_I h o26 v35.toNatClampNeg) (z_I h o26 (v35 + (1 : Int32)).toNatClampNeg) (z_I h o26 (v35 + (2 : Int32)).toNatClampNeg) h c46) md_X12_isLeaf qmX12_459 g25 (by decide) rfl rfl rfl ⟨Nat.le_of_ble_eq_true rfl, Nat.le_of_ble_eq_true rfl⟩ rfl hl.1 rfl (Nat.le_of_ble_eq_true rfl) dX12_isSaid_199 ⟨Nat.le_of_ble_eq_true rfl, Nat.le_of_ble_eq_true rfl⟩) (fun H locs hB => ?_)
              obtain ⟨g51, hv⟩ := y_gd_e hv
              obtain ⟨i52, hv⟩ := y_gd_e hv
              obtain ⟨h53, eh53, hv⟩ := y_nm_e hv
              refine y_zast hc hB eh53 g51 i52 dX12_isSaid_202 (fun H locs hB => ?_)
              obtain ⟨v54, ev54, hv⟩ := y_nm_e hv
              refine lv_iinc (v := v54) (lv' := [(2, .int v54), (4, .int v35), (0, .ref (ad o0)), (1, .int x1), (3, .int x3)]) hx hb dX12_isSaid_203 hl (k := 3) rfl (by rw [ev54]; rfl) (by decide) rfl (fun ls hl => ?_)
              exact b206 v54 x3 h53 _ _ _ hB (lv_sub hl [2, 3, 0, 4] rfl) _ hv kw4
            · replace hv := y_br_t hv c41
              exact b88 x2 x3 v35 h _ _ _ hB (lv_sub hl [1, 2, 3, 4, 0] rfl) _ hv kw4
        · replace hv := y_br_t hv c37
          refine lv_aload_n hx hb dX12_isSaid_37 rfl (lv_at hl 1 rfl) ?_
          obtain ⟨o55, eo55, hv⟩ := y_bi_e hv
          refine z_getR hc hB 11 53 g25 eo55 (by decide) (by decide) rfl (z_l1 hc qfX12_86) dX12_isSaid_38 ?_
          refine lv_iload_n hx hb dX12_isSaid_41 rfl (lv_at hl 3 rfl) ?_
          refine lv_iconst (v := (1 : Int32)) hx hb dX12_isSaid_42 (by decide) ?_
          refine lv_isub hx hb dX12_isSaid_43 ?_
          refine lv_aload_n hx hb dX12_isSaid_44 rfl (lv_at hl 1 rfl) ?_
          refine z_getR hc hB 11 53 g25 eo55 (by decide) (by decide) rfl (z_l1 hc qfX12_86) dX12_isSaid_45 ?_
          refine lv_iload_n hx hb dX12_isSaid_48 rfl (lv_at hl 3 rfl) ?_
          refine lv_iconst (v := (1 : Int32)) hx hb dX12_isSaid_49 (by decide) ?_
          refine lv_isub hx hb dX12_isSaid_50 ?_
          obtain ⟨g56, hv⟩ := y_gd_e hv
          obtain ⟨i57, hv⟩ := y_gd_e hv
          refine z_zald hc hB g56 i57 dX12_isSaid_51 ?_
          refine lv_if_ne (tgt := 59) hx hb dX12_isSaid_52 (by decide) (fun c58 => ?_) (fun c58 => ?_)
          · replace hv := y_br_f hv c58
            refine lv_iconst (v := (0 : Int32)) hx hb dX12_isSaid_59 (by decide) ?_
            exact b60 x2 x3 o55 (x2 - (1 : Int32)) (0 : Int32) h _ _ _ hB (lv_sub hl [1, 2, 3, 4] rfl) _ hv kw4
          · replace hv := y_br_t hv c58
            refine lv_iconst (v := (1 : Int32)) hx hb dX12_isSaid_55 (by decide) ?_
            refine lv_goto (tgt := 60) hx hb dX12_isSaid_56 (by decide) ?_
            exact b60 x2 x3 o55 (x2 - (1 : Int32)) (1 : Int32) h _ _ _ hB (lv_sub hl [1, 2, 3, 4] rfl) _ hv kw4
  rw [← kt] at hv
  refine lv_iconst (v := (0 : Int32)) hx hb dX12_isSaid_0 (by decide) ?_
  refine lv_istore_n (lv' := [(2, .int (0 : Int32)), (0, .ref (ad o0)), (1, .int x1)]) hx hb dX12_isSaid_1 rfl hl (by decide) rfl (fun ls hl => ?_)
  refine lv_iconst (v := (0 : Int32)) hx hb dX12_isSaid_2 (by decide) ?_
  refine lv_istore_n (lv' := [(3, .int (0 : Int32)), (2, .int (0 : Int32)), (0, .ref (ad o0)), (1, .int x1)]) hx hb dX12_isSaid_3 rfl hl (by decide) rfl (fun ls hl => ?_)
  obtain ⟨n, hv⟩ := y_lp_e hv
  exact L4 n (0 : Int32) (0 : Int32) h _ _ _ hB (lv_sub hl [2, 3, 1, 0] rfl) _ hv kt
theorem qmX12_463 : Cond.methodLink RX12 463 yX12_isSaid ∈ z_ws := List.mem_filter.mpr ⟨List.mem_append_right _ (List.mem_of_getElem? (i := 1887) (by decide +kernel)), rfl⟩
theorem qc_X12_isSaid : Cond.code yX12_isSaid cX12_isSaid 5 (some .boolean) ∈ z_ws := List.mem_filter.mpr ⟨List.mem_append_right _ (List.mem_of_getElem? (i := 1890) (by decide +kernel)), rfl⟩
theorem qi_X12_isSaid : Cond.instanceMethod yX12_isSaid ∈ z_ws := List.mem_filter.mpr ⟨List.mem_append_right _ (List.mem_of_getElem? (i := 1889) (by decide +kernel)), rfl⟩
theorem qs_X12_isSaid : Cond.selects RX12 yX12_isSaid yX12_isSaid ∈ z_ws := List.mem_filter.mpr ⟨List.mem_append_left _ (List.mem_of_getElem? (i := 91) (by decide +kernel)), rfl⟩
theorem md_X12_isSaid : z_mdV yX12_isSaid cX12_isSaid 5 (some .boolean) 1 := ⟨⟨qn_RX12, qc_X12_isSaid, ⟨by decide +kernel, by decide +kernel, by decide +kernel⟩⟩, qi_X12_isSaid, qs_X12_isSaid⟩
theorem dX12_said_0 : decode cX12_said 0 = .ok (.aload_n 0, 1) := by decide +kernel
theorem dX12_said_1 : decode cX12_said 1 = .ok (.iconst 0, 1) := by decide +kernel
theorem dX12_said_2 : decode cX12_said 2 = .ok (.putfield 1, 3) := by decide +kernel
theorem dX12_said_5 : decode cX12_said 5 = .ok (.aload_n 0, 1) := by decide +kernel
theorem dX12_said_6 : decode cX12_said 6 = .ok (.getfield 33, 3) := by decide +kernel
theorem dX12_said_9 : decode cX12_said 9 = .ok (.sipush 176, 3) := by decide +kernel
theorem dX12_said_12 : decode cX12_said 12 = .ok (.iaload, 1) := by decide +kernel
theorem dX12_said_13 : decode cX12_said 13 = .ok (.ifCond .eq 8, 3) := by decide +kernel
theorem dX12_said_16 : decode cX12_said 16 = .ok (.iload_n 1, 1) := by decide +kernel
theorem dX12_said_17 : decode cX12_said 17 = .ok (.iconst (-1), 1) := by decide +kernel
theorem dX12_said_18 : decode cX12_said 18 = .ok (.if_icmp .ge 5, 3) := by decide +kernel
theorem dX12_said_21 : decode cX12_said 21 = .ok (.iconst (-1), 1) := by decide +kernel
theorem dX12_said_22 : decode cX12_said 22 = .ok (.ireturn, 1) := by decide +kernel
theorem dX12_said_23 : decode cX12_said 23 = .ok (.iconst 0, 1) := by decide +kernel
theorem dX12_said_24 : decode cX12_said 24 = .ok (.istore_n 2, 1) := by decide +kernel
theorem dX12_said_25 : decode cX12_said 25 = .ok (.iconst 0, 1) := by decide +kernel
theorem dX12_said_26 : decode cX12_said 26 = .ok (.istore_n 3, 1) := by decide +kernel
theorem dX12_said_27 : decode cX12_said 27 = .ok (.iload_n 3, 1) := by decide +kernel
theorem dX12_said_28 : decode cX12_said 28 = .ok (.aload_n 0, 1) := by decide +kernel
theorem dX12_said_29 : decode cX12_said 29 = .ok (.getfield 33, 3) := by decide +kernel
theorem dX12_said_32 : decode cX12_said 32 = .ok (.iconst 0, 1) := by decide +kernel
theorem dX12_said_33 : decode cX12_said 33 = .ok (.iaload, 1) := by decide +kernel
theorem dX12_said_34 : decode cX12_said 34 = .ok (.if_icmp .ge 30, 3) := by decide +kernel
theorem dX12_said_37 : decode cX12_said 37 = .ok (.aload_n 0, 1) := by decide +kernel
theorem dX12_said_38 : decode cX12_said 38 = .ok (.iload_n 3, 1) := by decide +kernel
theorem dX12_said_39 : decode cX12_said 39 = .ok (.invokevirtual 463, 3) := by decide +kernel
theorem dX12_said_42 : decode cX12_said 42 = .ok (.ifCond .ne 6, 3) := by decide +kernel
theorem dX12_said_45 : decode cX12_said 45 = .ok (.goto 13, 3) := by decide +kernel
theorem dX12_said_48 : decode cX12_said 48 = .ok (.iload_n 2, 1) := by decide +kernel
theorem dX12_said_49 : decode cX12_said 49 = .ok (.iload_n 1, 1) := by decide +kernel
theorem dX12_said_50 : decode cX12_said 50 = .ok (.if_icmp .ne 5, 3) := by decide +kernel
theorem dX12_said_53 : decode cX12_said 53 = .ok (.iload_n 3, 1) := by decide +kernel
theorem dX12_said_54 : decode cX12_said 54 = .ok (.ireturn, 1) := by decide +kernel
theorem dX12_said_55 : decode cX12_said 55 = .ok (.iinc 2 1, 3) := by decide +kernel
theorem dX12_said_58 : decode cX12_said 58 = .ok (.iinc 3 1, 3) := by decide +kernel
theorem dX12_said_61 : decode cX12_said 61 = .ok (.goto (-34), 3) := by decide +kernel
theorem dX12_said_64 : decode cX12_said 64 = .ok (.iload_n 1, 1) := by decide +kernel
theorem dX12_said_65 : decode cX12_said 65 = .ok (.iconst (-1), 1) := by decide +kernel
theorem dX12_said_66 : decode cX12_said 66 = .ok (.if_icmp .ne 7, 3) := by decide +kernel
theorem dX12_said_69 : decode cX12_said 69 = .ok (.iload_n 2, 1) := by decide +kernel
theorem dX12_said_70 : decode cX12_said 70 = .ok (.goto 4, 3) := by decide +kernel
theorem dX12_said_73 : decode cX12_said 73 = .ok (.iconst (-1), 1) := by decide +kernel
theorem dX12_said_74 : decode cX12_said 74 = .ok (.ireturn, 1) := by decide +kernel
abbrev rm_X12_said : Room := { frames := 3, cells := 0, slots := 0, locals := 73 }
noncomputable def fX12_said_b58 (o0 : Nat) (x1 : Int32) (x2 : Int32) (x3 : Int32) (h : z_T) : Option ((Int32 × Int32 × z_T) ⊕ (Int32 × z_T)) :=
  y_nm (x3 + 1) fun v1 =>
  some (.inl (x2, v1, h))
noncomputable def fX12_said_b27_i (o0 : Nat) (x1 : Int32) (x2 : Int32) (x3 : Int32) (h : z_T) : Option ((Int32 × Int32 × z_T) ⊕ (Int32 × z_T)) :=
  y_gd (z_ok h o0 11) <|
  y_bi (z_R h o0 6) fun o3 =>
  y_gd (z_ok h o3 13) <|
  y_gd (z_ix (0 : Int32) (z_N h o3)) <|
  y_br ((z_I h o3 (0 : Int32).toNatClampNeg) ≤ x3)
    (y_mp <|
    y_br (x1 = (-1 : Int32))
      (some (x2, h))
      (some ((-1 : Int32), h)))
    (y_bi (fX12_isSaid o0 x3 h) fun ⟨r10, h14⟩ =>
    y_br (r10 = 0)
      (fX12_said_b58 o0 x1 x2 x3 h14)
      (y_br (x2 = x1)
        (y_mp <|
        some (x3, h14))
        (y_nm (x2 + 1) fun v17 =>
        fX12_said_b58 o0 x1 v17 x3 h14)))
noncomputable def fX12_said_b27 (o0 : Nat) (x1 : Int32) (x2 : Int32) (x3 : Int32) (h : z_T) : Option (Int32 × z_T) := y_lp (fun q : Int32 × Int32 × z_T => fX12_said_b27_i o0 x1 q.1 q.2.1 q.2.2) (x2, x3, h)
noncomputable def fX12_said (o0 : Nat) (x1 : Int32) (h : z_T) : Option (Int32 × z_T) :=
  y_gd (z_ok h o0 11) <|
  y_nm (z_sI h o0 0 (0 : Int32)) fun h20 =>
  y_bi (z_R h20 o0 6) fun o21 =>
  y_gd (z_ok h20 o21 13) <|
  y_gd (z_ix (176 : Int32) (z_N h20 o21)) <|
  y_br ((z_I h20 o21 (176 : Int32).toNatClampNeg) = 0)
    (some ((-1 : Int32), h20))
    (y_br ((-1 : Int32) ≤ x1)
      (fX12_said_b27 o0 x1 (0 : Int32) (0 : Int32) h20)
      (some ((-1 : Int32), h20)))
set_option maxHeartbeats 4000000 in
set_option maxRecDepth 100000 in
theorem mm_X12_said {G : z_Gt} {S : State → Prop} (hSK : z_SK S) (l : Launch) (ad : Nat → Nat) (o0 : Nat) (x1 : Int32) (h : z_T) {r0 : Int32} {h9 : z_T} (hv : fX12_said o0 x1 h = some (r0, h9)) : z_Mi G S l yX12_said cX12_said 4 (.int) rm_X12_said 0 0 [.ref (ad o0), .int x1] ad h h9 r0 := by
  refine z_ofW hSK (by decide) (Nat.le_of_ble_eq_true rfl) ?_
  intro p e s m args below meth c ls hc hr hnm hB hl
  have hx := hc.1.1
  have hb := hc.1.2.1
  have hown := hc.1.2.2.2.1
  have hts := hc.1.2.2.2.2
  replace hc : z_C G S ad (z_n h) p m c cX12_said 4 s args RX12 meth := hc
  replace hown : s.vm.findClass RX12 = some m.cls := hown
  replace hl : lv_has ls 4 [(0, .ref (ad o0)), (1, .int x1)] := hl
  show W p l e rm_X12_said s m args below meth c s.heap [] 0 0 (MQ below (z_Qi G ad h9 (z_n h) s.heap.size r0) args s 0 0 (z_A ad (z_n h) s.heap.size)) (F0 m 0 ls [])
  obtain ⟨rs, kt⟩ : ∃ rs : Int32 × z_T, rs = (r0, h9) := ⟨_, rfl⟩
  generalize hn0 : z_n h = n0 at hc hB ⊢
  have L27 : ∀ (nn27 : Nat) (x2 : Int32) (x3 : Int32) (h : z_T) (H : Heap) (locs : List Loc) (ls : Array Slot), z_B G ad n0 s h H locs → lv_has ls 4 [(0, .ref (ad o0)), (1, .int x1), (2, .int x2), (3, .int x3)] → ∀ vv27, y_lpN (fun q : Int32 × Int32 × z_T => fX12_said_b27_i o0 x1 q.1 q.2.1 q.2.2) nn27 (x2, x3, h) = some vv27 → vv27 = (r0, h9) → W p l e rm_X12_said s m args below meth c H locs 0 0 (MQ below (z_Qi G ad h9 n0 s.heap.size r0) args s 0 0 (z_A ad n0 s.heap.size)) (F0 m 27 ls []) := by
    intro nn27
    induction nn27 with
    | zero => intro x2 x3 h H locs ls hB hl vv27 hv kv27; exact absurd hv (fun q => y_lpN_0 q)
    | succ nn27 ih27 =>
      intro x2 x3 h H locs ls hB hl vv27 hv kv27
      obtain ⟨w, hq, kw27⟩ := y_lpN_e hv
      clear hv
      have hv : fX12_said_b27_i o0 x1 x2 x3 h = some w := hq
      clear hq
      have b58 : ∀ (x2 : Int32) (x3 : Int32) (h : z_T) (H : Heap) (locs : List Loc) (ls : Array Slot), z_B G ad n0 s h H locs → lv_has ls 4 [(0, .ref (ad o0)), (1, .int x1), (2, .int x2), (3, .int x3)] → ∀ w, fX12_said_b58 o0 x1 x2 x3 h = some w → y_lq (fun q : Int32 × Int32 × z_T => fX12_said_b27_i o0 x1 q.1 q.2.1 q.2.2) nn27 vv27 w → W p l e rm_X12_said s m args below meth c H locs 0 0 (MQ below (z_Qi G ad h9 n0 s.heap.size r0) args s 0 0 (z_A ad n0 s.heap.size)) (F0 m 58 ls []) := by
        intro x2 x3 h H locs ls hB hl w hv kw27
        obtain ⟨v1, ev1, hv⟩ := y_nm_e hv
        refine lv_iinc (v := v1) (lv' := [(3, .int v1), (0, .ref (ad o0)), (1, .int x1), (2, .int x2)]) hx hb dX12_said_58 hl (k := 3) rfl (by rw [ev1]; rfl) (by decide) rfl (fun ls hl => ?_)
        refine lv_goto (tgt := 27) hx hb dX12_said_61 (by decide) ?_
        replace hv := Option.some.inj hv
        subst hv
        exact ih27 x2 v1 h _ _ _ hB (lv_sub hl [1, 2, 3, 0] rfl) _ kw27 kv27
      refine lv_iload_n hx hb dX12_said_27 rfl (lv_at hl 3 rfl) ?_
      refine lv_aload_n hx hb dX12_said_28 rfl (lv_at hl 0 rfl) ?_
      obtain ⟨g2, hv⟩ := y_gd_e hv
      obtain ⟨o3, eo3, hv⟩ := y_bi_e hv
      refine z_getR hc hB 11 6 g2 eo3 (by decide) (by decide) rfl (z_l1 hc qfX12_33) dX12_said_29 ?_
      refine lv_iconst (v := (0 : Int32)) hx hb dX12_said_32 (by decide) ?_
      obtain ⟨g4, hv⟩ := y_gd_e hv
      obtain ⟨i5, hv⟩ := y_gd_e hv
      refine z_iald hc hB g4 i5 dX12_said_33 ?_
      refine lv_icmp_ge (tgt := 64) hx hb dX12_said_34 (by decide) (fun c6 => ?_) (fun c6 => ?_)
      · replace hv := y_br_t hv c6
        obtain ⟨t7, hq, ew⟩ := y_mp_e hv
        clear hv; subst ew
        replace kw27 : t7 = _ := kw27
        subst kw27
        have hv := hq
        clear hq
        refine lv_iload_n hx hb dX12_said_64 rfl (lv_at hl 1 rfl) ?_
        refine lv_iconst (v := (-1 : Int32)) hx hb dX12_said_65 (by decide) ?_
        refine lv_icmp_ne (tgt := 73) hx hb dX12_said_66 (by decide) (fun c8 => ?_) (fun c8 => ?_)
        · replace hv := y_br_f hv c8
          refine lv_iconst (v := (-1 : Int32)) hx hb dX12_said_73 (by decide) ?_
          replace hv := Option.some.inj hv
          subst hv
          obtain ⟨e1, e2⟩ := y_pr kv27
          rw [← e1, ← e2]
          exact z_iret hc hB hr dX12_said_74
        · replace hv := y_br_t hv c8
          refine lv_iload_n hx hb dX12_said_69 rfl (lv_at hl 2 rfl) ?_
          refine lv_goto (tgt := 74) hx hb dX12_said_70 (by decide) ?_
          replace hv := Option.some.inj hv
          subst hv
          obtain ⟨e1, e2⟩ := y_pr kv27
          rw [← e1, ← e2]
          exact z_iret hc hB hr dX12_said_74
      · replace hv := y_br_f hv c6
        refine lv_aload_n hx hb dX12_said_37 rfl (lv_at hl 0 rfl) ?_
        refine lv_iload_n hx hb dX12_said_38 rfl (lv_at hl 3 rfl) ?_
        obtain ⟨⟨r10, h14⟩, c9, hv⟩ := y_bi_e hv
        refine z_thI hc hB (z_runV hc hB 11 (mm_X12_isSaid hSK l ad o0 x3 h c9) md_X12_isSaid qmX12_463 g2 (by decide) rfl rfl rfl ⟨Nat.le_of_ble_eq_true rfl, Nat.le_of_ble_eq_true rfl⟩ rfl hl.1 rfl (Nat.le_of_ble_eq_true rfl) dX12_said_39 ⟨Nat.le_of_ble_eq_true rfl, Nat.le_of_ble_eq_true rfl⟩) (fun H locs hB => ?_)
        refine lv_if_ne (tgt := 48) hx hb dX12_said_42 (by decide) (fun c15 => ?_) (fun c15 => ?_)
        · replace hv := y_br_f hv c15
          refine lv_iload_n hx hb dX12_said_48 rfl (lv_at hl 2 rfl) ?_
          refine lv_iload_n hx hb dX12_said_49 rfl (lv_at hl 1 rfl) ?_
          refine lv_icmp_ne (tgt := 55) hx hb dX12_said_50 (by decide) (fun c16 => ?_) (fun c16 => ?_)
          · replace hv := y_br_f hv c16
            obtain ⟨v17, ev17, hv⟩ := y_nm_e hv
            refine lv_iinc (v := v17) (lv' := [(2, .int v17), (0, .ref (ad o0)), (1, .int x1), (3, .int x3)]) hx hb dX12_said_55 hl (k := 2) rfl (by rw [ev17]; rfl) (by decide) rfl (fun ls hl => ?_)
            exact b58 v17 x3 h14 _ _ _ hB (lv_sub hl [1, 2, 0, 3] rfl) _ hv kw27
          · replace hv := y_br_t hv c16
            obtain ⟨t18, hq, ew⟩ := y_mp_e hv
            clear hv; subst ew
            replace kw27 : t18 = _ := kw27
            subst kw27
            have hv := hq
            clear hq
            refine lv_iload_n hx hb dX12_said_53 rfl (lv_at hl 3 rfl) ?_
            replace hv := Option.some.inj hv
            subst hv
            obtain ⟨e1, e2⟩ := y_pr kv27
            rw [← e1, ← e2]
            exact z_iret hc hB hr dX12_said_54
        · replace hv := y_br_t hv c15
          refine lv_goto (tgt := 58) hx hb dX12_said_45 (by decide) ?_
          exact b58 x2 x3 h14 _ _ _ hB (lv_sub hl [0, 1, 2, 3] rfl) _ hv kw27
  rw [← kt] at hv
  refine lv_aload_n hx hb dX12_said_0 rfl (lv_at hl 0 rfl) ?_
  refine lv_iconst (v := (0 : Int32)) hx hb dX12_said_1 (by decide) ?_
  obtain ⟨g19, hv⟩ := y_gd_e hv
  obtain ⟨h20, eh20, hv⟩ := y_nm_e hv
  refine y_putI hc hB 11 0 eh20 g19 (z_l1 hc qfX12_1) dX12_said_2 (by decide) (by decide) rfl rfl rfl rfl (fun H locs hB => ?_)
  refine lv_aload_n hx hb dX12_said_5 rfl (lv_at hl 0 rfl) ?_
  obtain ⟨o21, eo21, hv⟩ := y_bi_e hv
  refine z_getR hc hB 11 6 (by rw [eh20]; exact g19) eo21 (by decide) (by decide) rfl (z_l1 hc qfX12_33) dX12_said_6 ?_
  refine lv_sipush (v := (176 : Int32)) hx hb dX12_said_9 (by decide) ?_
  obtain ⟨g22, hv⟩ := y_gd_e hv
  obtain ⟨i23, hv⟩ := y_gd_e hv
  refine z_iald hc hB g22 i23 dX12_said_12 ?_
  refine lv_if_eq (tgt := 21) hx hb dX12_said_13 (by decide) (fun c24 => ?_) (fun c24 => ?_)
  · replace hv := y_br_t hv c24
    refine lv_iconst (v := (-1 : Int32)) hx hb dX12_said_21 (by decide) ?_
    replace hv := Option.some.inj hv
    subst hv
    obtain ⟨e1, e2⟩ := y_pr kt
    rw [← e1, ← e2]
    exact z_iret hc hB hr dX12_said_22
  · replace hv := y_br_f hv c24
    refine lv_iload_n hx hb dX12_said_16 rfl (lv_at hl 1 rfl) ?_
    refine lv_iconst (v := (-1 : Int32)) hx hb dX12_said_17 (by decide) ?_
    refine lv_icmp_ge (tgt := 23) hx hb dX12_said_18 (by decide) (fun c25 => ?_) (fun c25 => ?_)
    · replace hv := y_br_t hv c25
      refine lv_iconst (v := (0 : Int32)) hx hb dX12_said_23 (by decide) ?_
      refine lv_istore_n (lv' := [(2, .int (0 : Int32)), (0, .ref (ad o0)), (1, .int x1)]) hx hb dX12_said_24 rfl hl (by decide) rfl (fun ls hl => ?_)
      refine lv_iconst (v := (0 : Int32)) hx hb dX12_said_25 (by decide) ?_
      refine lv_istore_n (lv' := [(3, .int (0 : Int32)), (2, .int (0 : Int32)), (0, .ref (ad o0)), (1, .int x1)]) hx hb dX12_said_26 rfl hl (by decide) rfl (fun ls hl => ?_)
      obtain ⟨n, hv⟩ := y_lp_e hv
      exact L27 n (0 : Int32) (0 : Int32) h20 _ _ _ hB (lv_sub hl [2, 3, 1, 0] rfl) _ hv kt
    · replace hv := y_br_f hv c25
      refine lv_iconst (v := (-1 : Int32)) hx hb dX12_said_21 (by decide) ?_
      replace hv := Option.some.inj hv
      subst hv
      obtain ⟨e1, e2⟩ := y_pr kt
      rw [← e1, ← e2]
      exact z_iret hc hB hr dX12_said_22
theorem qfX12_96 : Cond.fieldLink RX12 96 "DreamTestsModel" "isKept" "[Z" ∈ z_ws := List.mem_filter.mpr ⟨List.mem_append_right _ (List.mem_of_getElem? (i := 1356) (by decide +kernel)), rfl⟩
theorem qfX12_93 : Cond.fieldLink RX12 93 "DreamTestsModel" "namesKept" "[J" ∈ z_ws := List.mem_filter.mpr ⟨List.mem_append_right _ (List.mem_of_getElem? (i := 1355) (by decide +kernel)), rfl⟩
theorem qfX12_90 : Cond.fieldLink RX12 90 "DreamTestsModel" "kept" "[I" ∈ z_ws := List.mem_filter.mpr ⟨List.mem_append_right _ (List.mem_of_getElem? (i := 1354) (by decide +kernel)), rfl⟩
theorem dX12_image_0 : decode cX12_image 0 = .ok (.aload_n 0, 1) := by decide +kernel
theorem dX12_image_1 : decode cX12_image 1 = .ok (.iconst 0, 1) := by decide +kernel
theorem dX12_image_2 : decode cX12_image 2 = .ok (.putfield 1, 3) := by decide +kernel
theorem dX12_image_5 : decode cX12_image 5 = .ok (.iload_n 1, 1) := by decide +kernel
theorem dX12_image_6 : decode cX12_image 6 = .ok (.iconst 0, 1) := by decide +kernel
theorem dX12_image_7 : decode cX12_image 7 = .ok (.iconst 1, 1) := by decide +kernel
theorem dX12_image_8 : decode cX12_image 8 = .ok (.invokestatic 188, 3) := by decide +kernel
theorem dX12_image_11 : decode cX12_image 11 = .ok (.ifCond .ne 5, 3) := by decide +kernel
theorem dX12_image_14 : decode cX12_image 14 = .ok (.iconst 0, 1) := by decide +kernel
theorem dX12_image_15 : decode cX12_image 15 = .ok (.ireturn, 1) := by decide +kernel
theorem dX12_image_16 : decode cX12_image 16 = .ok (.iconst 0, 1) := by decide +kernel
theorem dX12_image_17 : decode cX12_image 17 = .ok (.istore_n 2, 1) := by decide +kernel
theorem dX12_image_18 : decode cX12_image 18 = .ok (.iload_n 2, 1) := by decide +kernel
theorem dX12_image_19 : decode cX12_image 19 = .ok (.sipush 357, 3) := by decide +kernel
theorem dX12_image_22 : decode cX12_image 22 = .ok (.if_icmp .ge 27, 3) := by decide +kernel
theorem dX12_image_25 : decode cX12_image 25 = .ok (.aload_n 0, 1) := by decide +kernel
theorem dX12_image_26 : decode cX12_image 26 = .ok (.getfield 90, 3) := by decide +kernel
theorem dX12_image_29 : decode cX12_image 29 = .ok (.sipush 357, 3) := by decide +kernel
theorem dX12_image_32 : decode cX12_image 32 = .ok (.iload_n 1, 1) := by decide +kernel
theorem dX12_image_33 : decode cX12_image 33 = .ok (.imul, 1) := by decide +kernel
theorem dX12_image_34 : decode cX12_image 34 = .ok (.iload_n 2, 1) := by decide +kernel
theorem dX12_image_35 : decode cX12_image 35 = .ok (.iadd, 1) := by decide +kernel
theorem dX12_image_36 : decode cX12_image 36 = .ok (.aload_n 0, 1) := by decide +kernel
theorem dX12_image_37 : decode cX12_image 37 = .ok (.getfield 33, 3) := by decide +kernel
theorem dX12_image_40 : decode cX12_image 40 = .ok (.iload_n 2, 1) := by decide +kernel
theorem dX12_image_41 : decode cX12_image 41 = .ok (.iaload, 1) := by decide +kernel
theorem dX12_image_42 : decode cX12_image 42 = .ok (.iastore, 1) := by decide +kernel
theorem dX12_image_43 : decode cX12_image 43 = .ok (.iinc 2 1, 3) := by decide +kernel
theorem dX12_image_46 : decode cX12_image 46 = .ok (.goto (-28), 3) := by decide +kernel
theorem dX12_image_49 : decode cX12_image 49 = .ok (.iconst 0, 1) := by decide +kernel
theorem dX12_image_50 : decode cX12_image 50 = .ok (.istore_n 2, 1) := by decide +kernel
theorem dX12_image_51 : decode cX12_image 51 = .ok (.iload_n 2, 1) := by decide +kernel
theorem dX12_image_52 : decode cX12_image 52 = .ok (.bipush 14, 2) := by decide +kernel
theorem dX12_image_54 : decode cX12_image 54 = .ok (.if_icmp .ge 26, 3) := by decide +kernel
theorem dX12_image_57 : decode cX12_image 57 = .ok (.aload_n 0, 1) := by decide +kernel
theorem dX12_image_58 : decode cX12_image 58 = .ok (.getfield 93, 3) := by decide +kernel
theorem dX12_image_61 : decode cX12_image 61 = .ok (.bipush 14, 2) := by decide +kernel
theorem dX12_image_63 : decode cX12_image 63 = .ok (.iload_n 1, 1) := by decide +kernel
theorem dX12_image_64 : decode cX12_image 64 = .ok (.imul, 1) := by decide +kernel
theorem dX12_image_65 : decode cX12_image 65 = .ok (.iload_n 2, 1) := by decide +kernel
theorem dX12_image_66 : decode cX12_image 66 = .ok (.iadd, 1) := by decide +kernel
theorem dX12_image_67 : decode cX12_image 67 = .ok (.aload_n 0, 1) := by decide +kernel
theorem dX12_image_68 : decode cX12_image 68 = .ok (.getfield 43, 3) := by decide +kernel
theorem dX12_image_71 : decode cX12_image 71 = .ok (.iload_n 2, 1) := by decide +kernel
theorem dX12_image_72 : decode cX12_image 72 = .ok (.laload, 1) := by decide +kernel
theorem dX12_image_73 : decode cX12_image 73 = .ok (.lastore, 1) := by decide +kernel
theorem dX12_image_74 : decode cX12_image 74 = .ok (.iinc 2 1, 3) := by decide +kernel
theorem dX12_image_77 : decode cX12_image 77 = .ok (.goto (-26), 3) := by decide +kernel
theorem dX12_image_80 : decode cX12_image 80 = .ok (.aload_n 0, 1) := by decide +kernel
theorem dX12_image_81 : decode cX12_image 81 = .ok (.getfield 96, 3) := by decide +kernel
theorem dX12_image_84 : decode cX12_image 84 = .ok (.iload_n 1, 1) := by decide +kernel
theorem dX12_image_85 : decode cX12_image 85 = .ok (.iconst 1, 1) := by decide +kernel
theorem dX12_image_86 : decode cX12_image 86 = .ok (.bastore, 1) := by decide +kernel
theorem dX12_image_87 : decode cX12_image 87 = .ok (.iconst 1, 1) := by decide +kernel
theorem dX12_image_88 : decode cX12_image 88 = .ok (.ireturn, 1) := by decide +kernel
abbrev rm_X12_image : Room := { frames := 1, cells := 0, slots := 0, locals := 22 }
noncomputable def fX12_image_b51_i (o0 : Nat) (x1 : Int32) (x2 : Int32) (h : z_T) : Option ((Int32 × z_T) ⊕ (Int32 × z_T)) :=
  y_br ((14 : Int32) ≤ x2)
    (y_mp <|
    y_gd (z_ok h o0 11) <|
    y_bi (z_R h o0 56) fun o4 =>
    y_gd (z_ok h o4 15) <|
    y_gd (z_ix x1 (z_N h o4)) <|
    y_nm (z_sI h o4 x1.toNatClampNeg (vp_nar .boolean (1 : Int32))) fun h7 =>
    some ((1 : Int32), h7))
    (y_gd (z_ok h o0 11) <|
    y_bi (z_R h o0 55) fun o9 =>
    y_bi (z_R h o0 9) fun o10 =>
    y_gd (z_ok h o10 14) <|
    y_gd (z_ix x2 (z_N h o10)) <|
    y_gd (z_ok h o9 14) <|
    y_gd (z_ix (((14 : Int32) * x1) + x2) (z_N h o9)) <|
    y_nm (z_sL h o9 (((14 : Int32) * x1) + x2).toNatClampNeg (z_L h o10 x2.toNatClampNeg)) fun h15 =>
    y_nm (x2 + 1) fun v16 =>
    some (.inl (v16, h15)))
noncomputable def fX12_image_b51 (o0 : Nat) (x1 : Int32) (x2 : Int32) (h : z_T) : Option (Int32 × z_T) := y_lp (fun q : Int32 × z_T => fX12_image_b51_i o0 x1 q.1 q.2) (x2, h)
noncomputable def fX12_image_b18_i (o0 : Nat) (x1 : Int32) (x2 : Int32) (h : z_T) : Option ((Int32 × z_T) ⊕ (Int32 × z_T)) :=
  y_br ((357 : Int32) ≤ x2)
    (y_mp <|
    fX12_image_b51 o0 x1 (0 : Int32) h)
    (y_gd (z_ok h o0 11) <|
    y_bi (z_R h o0 54) fun o20 =>
    y_bi (z_R h o0 6) fun o21 =>
    y_gd (z_ok h o21 13) <|
    y_gd (z_ix x2 (z_N h o21)) <|
    y_gd (z_ok h o20 13) <|
    y_gd (z_ix (((357 : Int32) * x1) + x2) (z_N h o20)) <|
    y_nm (z_sI h o20 (((357 : Int32) * x1) + x2).toNatClampNeg (z_I h o21 x2.toNatClampNeg)) fun h26 =>
    y_nm (x2 + 1) fun v27 =>
    some (.inl (v27, h26)))
noncomputable def fX12_image_b18 (o0 : Nat) (x1 : Int32) (x2 : Int32) (h : z_T) : Option (Int32 × z_T) := y_lp (fun q : Int32 × z_T => fX12_image_b18_i o0 x1 q.1 q.2) (x2, h)
noncomputable def fX12_image (o0 : Nat) (x1 : Int32) (h : z_T) : Option (Int32 × z_T) :=
  y_gd (z_ok h o0 11) <|
  y_nm (z_sI h o0 0 (0 : Int32)) fun h29 =>
  y_bi (fX12_isIn x1 (0 : Int32) (1 : Int32)) fun r31 =>
  y_br (r31 = 0)
    (some ((0 : Int32), h29))
    (fX12_image_b18 o0 x1 (0 : Int32) h29)
set_option maxHeartbeats 4000000 in
set_option maxRecDepth 100000 in
theorem mm_X12_image {G : z_Gt} {S : State → Prop} (hSK : z_SK S) (l : Launch) (ad : Nat → Nat) (o0 : Nat) (x1 : Int32) (h : z_T) {r0 : Int32} {h9 : z_T} (hv : fX12_image o0 x1 h = some (r0, h9)) : z_Mi G S l yX12_image cX12_image 3 (.boolean) rm_X12_image 0 0 [.ref (ad o0), .int x1] ad h h9 r0 := by
  refine z_ofW hSK (by decide) (Nat.le_of_ble_eq_true rfl) ?_
  intro p e s m args below meth c ls hc hr hnm hB hl
  have hx := hc.1.1
  have hb := hc.1.2.1
  have hown := hc.1.2.2.2.1
  have hts := hc.1.2.2.2.2
  replace hc : z_C G S ad (z_n h) p m c cX12_image 3 s args RX12 meth := hc
  replace hown : s.vm.findClass RX12 = some m.cls := hown
  replace hl : lv_has ls 3 [(0, .ref (ad o0)), (1, .int x1)] := hl
  show W p l e rm_X12_image s m args below meth c s.heap [] 0 0 (MQ below (z_Qi G ad h9 (z_n h) s.heap.size r0) args s 0 0 (z_A ad (z_n h) s.heap.size)) (F0 m 0 ls [])
  obtain ⟨rs, kt⟩ : ∃ rs : Int32 × z_T, rs = (r0, h9) := ⟨_, rfl⟩
  generalize hn0 : z_n h = n0 at hc hB ⊢
  have L51 : ∀ (nn51 : Nat) (x2 : Int32) (h : z_T) (H : Heap) (locs : List Loc) (ls : Array Slot), z_B G ad n0 s h H locs → lv_has ls 3 [(0, .ref (ad o0)), (1, .int x1), (2, .int x2)] → ∀ vv51, y_lpN (fun q : Int32 × z_T => fX12_image_b51_i o0 x1 q.1 q.2) nn51 (x2, h) = some vv51 → vv51 = (r0, h9) → W p l e rm_X12_image s m args below meth c H locs 0 0 (MQ below (z_Qi G ad h9 n0 s.heap.size r0) args s 0 0 (z_A ad n0 s.heap.size)) (F0 m 51 ls []) := by
    intro nn51
    induction nn51 with
    | zero => intro x2 h H locs ls hB hl vv51 hv kv51; exact absurd hv (fun q => y_lpN_0 q)
    | succ nn51 ih51 =>
      intro x2 h H locs ls hB hl vv51 hv kv51
      obtain ⟨w, hq, kw51⟩ := y_lpN_e hv
      clear hv
      have hv : fX12_image_b51_i o0 x1 x2 h = some w := hq
      clear hq
      refine lv_iload_n hx hb dX12_image_51 rfl (lv_at hl 2 rfl) ?_
      refine lv_bipush (v := (14 : Int32)) hx hb dX12_image_52 (by decide) ?_
      refine lv_icmp_ge (tgt := 80) hx hb dX12_image_54 (by decide) (fun c1 => ?_) (fun c1 => ?_)
      · replace hv := y_br_t hv c1
        obtain ⟨t2, hq, ew⟩ := y_mp_e hv
        clear hv; subst ew
        replace kw51 : t2 = _ := kw51
        subst kw51
        have hv := hq
        clear hq
        refine lv_aload_n hx hb dX12_image_80 rfl (lv_at hl 0 rfl) ?_
        obtain ⟨g3, hv⟩ := y_gd_e hv
        obtain ⟨o4, eo4, hv⟩ := y_bi_e hv
        refine z_getR hc hB 11 56 g3 eo4 (by decide) (by decide) rfl (z_l1 hc qfX12_96) dX12_image_81 ?_
        refine lv_iload_n hx hb dX12_image_84 rfl (lv_at hl 1 rfl) ?_
        refine lv_iconst (v := (1 : Int32)) hx hb dX12_image_85 (by decide) ?_
        obtain ⟨g5, hv⟩ := y_gd_e hv
        obtain ⟨i6, hv⟩ := y_gd_e hv
        obtain ⟨h7, eh7, hv⟩ := y_nm_e hv
        refine y_zast hc hB eh7 g5 i6 dX12_image_86 (fun H locs hB => ?_)
        refine lv_iconst (v := (1 : Int32)) hx hb dX12_image_87 (by decide) ?_
        replace hv := Option.some.inj hv
        subst hv
        obtain ⟨e1, e2⟩ := y_pr kv51
        rw [← e1, ← e2]
        exact z_zret hc hB hr rfl dX12_image_88
      · replace hv := y_br_f hv c1
        refine lv_aload_n hx hb dX12_image_57 rfl (lv_at hl 0 rfl) ?_
        obtain ⟨g8, hv⟩ := y_gd_e hv
        obtain ⟨o9, eo9, hv⟩ := y_bi_e hv
        refine z_getR hc hB 11 55 g8 eo9 (by decide) (by decide) rfl (z_l1 hc qfX12_93) dX12_image_58 ?_
        refine lv_bipush (v := (14 : Int32)) hx hb dX12_image_61 (by decide) ?_
        refine lv_iload_n hx hb dX12_image_63 rfl (lv_at hl 1 rfl) ?_
        refine lv_imul hx hb dX12_image_64 ?_
        refine lv_iload_n hx hb dX12_image_65 rfl (lv_at hl 2 rfl) ?_
        refine lv_iadd hx hb dX12_image_66 ?_
        refine lv_aload_n hx hb dX12_image_67 rfl (lv_at hl 0 rfl) ?_
        obtain ⟨o10, eo10, hv⟩ := y_bi_e hv
        refine z_getR hc hB 11 9 g8 eo10 (by decide) (by decide) rfl (z_l1 hc qfX12_43) dX12_image_68 ?_
        refine lv_iload_n hx hb dX12_image_71 rfl (lv_at hl 2 rfl) ?_
        obtain ⟨g11, hv⟩ := y_gd_e hv
        obtain ⟨i12, hv⟩ := y_gd_e hv
        refine z_lald hc hB g11 i12 dX12_image_72 ?_
        obtain ⟨g13, hv⟩ := y_gd_e hv
        obtain ⟨i14, hv⟩ := y_gd_e hv
        obtain ⟨h15, eh15, hv⟩ := y_nm_e hv
        refine y_last hc hB eh15 g13 i14 dX12_image_73 (fun H locs hB => ?_)
        obtain ⟨v16, ev16, hv⟩ := y_nm_e hv
        refine lv_iinc (v := v16) (lv' := [(2, .int v16), (0, .ref (ad o0)), (1, .int x1)]) hx hb dX12_image_74 hl (k := 2) rfl (by rw [ev16]; rfl) (by decide) rfl (fun ls hl => ?_)
        refine lv_goto (tgt := 51) hx hb dX12_image_77 (by decide) ?_
        replace hv := Option.some.inj hv
        subst hv
        exact ih51 v16 h15 _ _ _ hB (lv_sub hl [1, 2, 0] rfl) _ kw51 kv51
  have L18 : ∀ (nn18 : Nat) (x2 : Int32) (h : z_T) (H : Heap) (locs : List Loc) (ls : Array Slot), z_B G ad n0 s h H locs → lv_has ls 3 [(0, .ref (ad o0)), (1, .int x1), (2, .int x2)] → ∀ vv18, y_lpN (fun q : Int32 × z_T => fX12_image_b18_i o0 x1 q.1 q.2) nn18 (x2, h) = some vv18 → vv18 = (r0, h9) → W p l e rm_X12_image s m args below meth c H locs 0 0 (MQ below (z_Qi G ad h9 n0 s.heap.size r0) args s 0 0 (z_A ad n0 s.heap.size)) (F0 m 18 ls []) := by
    intro nn18
    induction nn18 with
    | zero => intro x2 h H locs ls hB hl vv18 hv kv18; exact absurd hv (fun q => y_lpN_0 q)
    | succ nn18 ih18 =>
      intro x2 h H locs ls hB hl vv18 hv kv18
      obtain ⟨w, hq, kw18⟩ := y_lpN_e hv
      clear hv
      have hv : fX12_image_b18_i o0 x1 x2 h = some w := hq
      clear hq
      refine lv_iload_n hx hb dX12_image_18 rfl (lv_at hl 2 rfl) ?_
      refine lv_sipush (v := (357 : Int32)) hx hb dX12_image_19 (by decide) ?_
      refine lv_icmp_ge (tgt := 49) hx hb dX12_image_22 (by decide) (fun c17 => ?_) (fun c17 => ?_)
      · replace hv := y_br_t hv c17
        obtain ⟨t18, hq, ew⟩ := y_mp_e hv
        clear hv; subst ew
        replace kw18 : t18 = _ := kw18
        subst kw18
        have hv := hq
        clear hq
        refine lv_iconst (v := (0 : Int32)) hx hb dX12_image_49 (by decide) ?_
        refine lv_istore_n (lv' := [(2, .int (0 : Int32)), (0, .ref (ad o0)), (1, .int x1)]) hx hb dX12_image_50 rfl hl (by decide) rfl (fun ls hl => ?_)
        obtain ⟨n, hv⟩ := y_lp_e hv
        exact L51 n (0 : Int32) h _ _ _ hB (lv_sub hl [1, 2, 0] rfl) _ hv kv18
      · replace hv := y_br_f hv c17
        refine lv_aload_n hx hb dX12_image_25 rfl (lv_at hl 0 rfl) ?_
        obtain ⟨g19, hv⟩ := y_gd_e hv
        obtain ⟨o20, eo20, hv⟩ := y_bi_e hv
        refine z_getR hc hB 11 54 g19 eo20 (by decide) (by decide) rfl (z_l1 hc qfX12_90) dX12_image_26 ?_
        refine lv_sipush (v := (357 : Int32)) hx hb dX12_image_29 (by decide) ?_
        refine lv_iload_n hx hb dX12_image_32 rfl (lv_at hl 1 rfl) ?_
        refine lv_imul hx hb dX12_image_33 ?_
        refine lv_iload_n hx hb dX12_image_34 rfl (lv_at hl 2 rfl) ?_
        refine lv_iadd hx hb dX12_image_35 ?_
        refine lv_aload_n hx hb dX12_image_36 rfl (lv_at hl 0 rfl) ?_
        obtain ⟨o21, eo21, hv⟩ := y_bi_e hv
        refine z_getR hc hB 11 6 g19 eo21 (by decide) (by decide) rfl (z_l1 hc qfX12_33) dX12_image_37 ?_
        refine lv_iload_n hx hb dX12_image_40 rfl (lv_at hl 2 rfl) ?_
        obtain ⟨g22, hv⟩ := y_gd_e hv
        obtain ⟨i23, hv⟩ := y_gd_e hv
        refine z_iald hc hB g22 i23 dX12_image_41 ?_
        obtain ⟨g24, hv⟩ := y_gd_e hv
        obtain ⟨i25, hv⟩ := y_gd_e hv
        obtain ⟨h26, eh26, hv⟩ := y_nm_e hv
        refine y_iast hc hB eh26 g24 i25 dX12_image_42 (fun H locs hB => ?_)
        obtain ⟨v27, ev27, hv⟩ := y_nm_e hv
        refine lv_iinc (v := v27) (lv' := [(2, .int v27), (0, .ref (ad o0)), (1, .int x1)]) hx hb dX12_image_43 hl (k := 2) rfl (by rw [ev27]; rfl) (by decide) rfl (fun ls hl => ?_)
        refine lv_goto (tgt := 18) hx hb dX12_image_46 (by decide) ?_
        replace hv := Option.some.inj hv
        subst hv
        exact ih18 v27 h26 _ _ _ hB (lv_sub hl [1, 2, 0] rfl) _ kw18 kv18
  rw [← kt] at hv
  refine lv_aload_n hx hb dX12_image_0 rfl (lv_at hl 0 rfl) ?_
  refine lv_iconst (v := (0 : Int32)) hx hb dX12_image_1 (by decide) ?_
  obtain ⟨g28, hv⟩ := y_gd_e hv
  obtain ⟨h29, eh29, hv⟩ := y_nm_e hv
  refine y_putI hc hB 11 0 eh29 g28 (z_l1 hc qfX12_1) dX12_image_2 (by decide) (by decide) rfl rfl rfl rfl (fun H locs hB => ?_)
  refine lv_iload_n hx hb dX12_image_5 rfl (lv_at hl 1 rfl) ?_
  refine lv_iconst (v := (0 : Int32)) hx hb dX12_image_6 (by decide) ?_
  refine lv_iconst (v := (1 : Int32)) hx hb dX12_image_7 (by decide) ?_
  obtain ⟨r31, c30, hv⟩ := y_bi_e hv
  refine z_thI hc hB (z_runS hc hB (mm_X12_isIn hSK l ad x1 (0 : Int32) (1 : Int32) h29 c30) md_X12_isIn qmX12_188 rfl rfl ⟨Nat.le_of_ble_eq_true rfl, Nat.le_of_ble_eq_true rfl⟩ rfl hl.1 rfl (Nat.le_of_ble_eq_true rfl) dX12_image_8 ⟨Nat.le_of_ble_eq_true rfl, Nat.le_of_ble_eq_true rfl⟩) (fun H locs hB => ?_)
  refine lv_if_ne (tgt := 16) hx hb dX12_image_11 (by decide) (fun c35 => ?_) (fun c35 => ?_)
  · replace hv := y_br_f hv c35
    refine lv_iconst (v := (0 : Int32)) hx hb dX12_image_16 (by decide) ?_
    refine lv_istore_n (lv' := [(2, .int (0 : Int32)), (0, .ref (ad o0)), (1, .int x1)]) hx hb dX12_image_17 rfl hl (by decide) rfl (fun ls hl => ?_)
    obtain ⟨n, hv⟩ := y_lp_e hv
    exact L18 n (0 : Int32) h29 _ _ _ hB (lv_sub hl [1, 2, 0] rfl) _ hv kt
  · replace hv := y_br_t hv c35
    refine lv_iconst (v := (0 : Int32)) hx hb dX12_image_14 (by decide) ?_
    replace hv := Option.some.inj hv
    subst hv
    obtain ⟨e1, e2⟩ := y_pr kt
    rw [← e1, ← e2]
    exact z_zret hc hB hr rfl dX12_image_15
theorem dX12_restore_0 : decode cX12_restore 0 = .ok (.aload_n 0, 1) := by decide +kernel
theorem dX12_restore_1 : decode cX12_restore 1 = .ok (.iconst 0, 1) := by decide +kernel
theorem dX12_restore_2 : decode cX12_restore 2 = .ok (.putfield 1, 3) := by decide +kernel
theorem dX12_restore_5 : decode cX12_restore 5 = .ok (.iload_n 1, 1) := by decide +kernel
theorem dX12_restore_6 : decode cX12_restore 6 = .ok (.iconst 0, 1) := by decide +kernel
theorem dX12_restore_7 : decode cX12_restore 7 = .ok (.iconst 1, 1) := by decide +kernel
theorem dX12_restore_8 : decode cX12_restore 8 = .ok (.invokestatic 188, 3) := by decide +kernel
theorem dX12_restore_11 : decode cX12_restore 11 = .ok (.ifCond .eq 12, 3) := by decide +kernel
theorem dX12_restore_14 : decode cX12_restore 14 = .ok (.aload_n 0, 1) := by decide +kernel
theorem dX12_restore_15 : decode cX12_restore 15 = .ok (.getfield 96, 3) := by decide +kernel
theorem dX12_restore_18 : decode cX12_restore 18 = .ok (.iload_n 1, 1) := by decide +kernel
theorem dX12_restore_19 : decode cX12_restore 19 = .ok (.baload, 1) := by decide +kernel
theorem dX12_restore_20 : decode cX12_restore 20 = .ok (.ifCond .ne 5, 3) := by decide +kernel
theorem dX12_restore_23 : decode cX12_restore 23 = .ok (.iconst 0, 1) := by decide +kernel
theorem dX12_restore_24 : decode cX12_restore 24 = .ok (.ireturn, 1) := by decide +kernel
theorem dX12_restore_25 : decode cX12_restore 25 = .ok (.iconst 0, 1) := by decide +kernel
theorem dX12_restore_26 : decode cX12_restore 26 = .ok (.istore_n 2, 1) := by decide +kernel
theorem dX12_restore_27 : decode cX12_restore 27 = .ok (.iload_n 2, 1) := by decide +kernel
theorem dX12_restore_28 : decode cX12_restore 28 = .ok (.sipush 357, 3) := by decide +kernel
theorem dX12_restore_31 : decode cX12_restore 31 = .ok (.if_icmp .ge 27, 3) := by decide +kernel
theorem dX12_restore_34 : decode cX12_restore 34 = .ok (.aload_n 0, 1) := by decide +kernel
theorem dX12_restore_35 : decode cX12_restore 35 = .ok (.getfield 33, 3) := by decide +kernel
theorem dX12_restore_38 : decode cX12_restore 38 = .ok (.iload_n 2, 1) := by decide +kernel
theorem dX12_restore_39 : decode cX12_restore 39 = .ok (.aload_n 0, 1) := by decide +kernel
theorem dX12_restore_40 : decode cX12_restore 40 = .ok (.getfield 90, 3) := by decide +kernel
theorem dX12_restore_43 : decode cX12_restore 43 = .ok (.sipush 357, 3) := by decide +kernel
theorem dX12_restore_46 : decode cX12_restore 46 = .ok (.iload_n 1, 1) := by decide +kernel
theorem dX12_restore_47 : decode cX12_restore 47 = .ok (.imul, 1) := by decide +kernel
theorem dX12_restore_48 : decode cX12_restore 48 = .ok (.iload_n 2, 1) := by decide +kernel
theorem dX12_restore_49 : decode cX12_restore 49 = .ok (.iadd, 1) := by decide +kernel
theorem dX12_restore_50 : decode cX12_restore 50 = .ok (.iaload, 1) := by decide +kernel
theorem dX12_restore_51 : decode cX12_restore 51 = .ok (.iastore, 1) := by decide +kernel
theorem dX12_restore_52 : decode cX12_restore 52 = .ok (.iinc 2 1, 3) := by decide +kernel
theorem dX12_restore_55 : decode cX12_restore 55 = .ok (.goto (-28), 3) := by decide +kernel
theorem dX12_restore_58 : decode cX12_restore 58 = .ok (.iconst 0, 1) := by decide +kernel
theorem dX12_restore_59 : decode cX12_restore 59 = .ok (.istore_n 2, 1) := by decide +kernel
theorem dX12_restore_60 : decode cX12_restore 60 = .ok (.iload_n 2, 1) := by decide +kernel
theorem dX12_restore_61 : decode cX12_restore 61 = .ok (.bipush 14, 2) := by decide +kernel
theorem dX12_restore_63 : decode cX12_restore 63 = .ok (.if_icmp .ge 26, 3) := by decide +kernel
theorem dX12_restore_66 : decode cX12_restore 66 = .ok (.aload_n 0, 1) := by decide +kernel
theorem dX12_restore_67 : decode cX12_restore 67 = .ok (.getfield 43, 3) := by decide +kernel
theorem dX12_restore_70 : decode cX12_restore 70 = .ok (.iload_n 2, 1) := by decide +kernel
theorem dX12_restore_71 : decode cX12_restore 71 = .ok (.aload_n 0, 1) := by decide +kernel
theorem dX12_restore_72 : decode cX12_restore 72 = .ok (.getfield 93, 3) := by decide +kernel
theorem dX12_restore_75 : decode cX12_restore 75 = .ok (.bipush 14, 2) := by decide +kernel
theorem dX12_restore_77 : decode cX12_restore 77 = .ok (.iload_n 1, 1) := by decide +kernel
theorem dX12_restore_78 : decode cX12_restore 78 = .ok (.imul, 1) := by decide +kernel
theorem dX12_restore_79 : decode cX12_restore 79 = .ok (.iload_n 2, 1) := by decide +kernel
theorem dX12_restore_80 : decode cX12_restore 80 = .ok (.iadd, 1) := by decide +kernel
theorem dX12_restore_81 : decode cX12_restore 81 = .ok (.laload, 1) := by decide +kernel
theorem dX12_restore_82 : decode cX12_restore 82 = .ok (.lastore, 1) := by decide +kernel
theorem dX12_restore_83 : decode cX12_restore 83 = .ok (.iinc 2 1, 3) := by decide +kernel
theorem dX12_restore_86 : decode cX12_restore 86 = .ok (.goto (-26), 3) := by decide +kernel
theorem dX12_restore_89 : decode cX12_restore 89 = .ok (.aload_n 0, 1) := by decide +kernel
theorem dX12_restore_90 : decode cX12_restore 90 = .ok (.iconst 0, 1) := by decide +kernel
theorem dX12_restore_91 : decode cX12_restore 91 = .ok (.putfield 238, 3) := by decide +kernel
theorem dX12_restore_94 : decode cX12_restore 94 = .ok (.iconst 1, 1) := by decide +kernel
theorem dX12_restore_95 : decode cX12_restore 95 = .ok (.ireturn, 1) := by decide +kernel
abbrev rm_X12_restore : Room := { frames := 1, cells := 0, slots := 0, locals := 22 }
noncomputable def fX12_restore_b60_i (o0 : Nat) (x1 : Int32) (x2 : Int32) (h : z_T) : Option ((Int32 × z_T) ⊕ (Int32 × z_T)) :=
  y_br ((14 : Int32) ≤ x2)
    (y_mp <|
    y_gd (z_ok h o0 11) <|
    y_nm (z_sI h o0 24 (0 : Int32)) fun h4 =>
    some ((1 : Int32), h4))
    (y_gd (z_ok h o0 11) <|
    y_bi (z_R h o0 9) fun o6 =>
    y_bi (z_R h o0 55) fun o7 =>
    y_gd (z_ok h o7 14) <|
    y_gd (z_ix (((14 : Int32) * x1) + x2) (z_N h o7)) <|
    y_gd (z_ok h o6 14) <|
    y_gd (z_ix x2 (z_N h o6)) <|
    y_nm (z_sL h o6 x2.toNatClampNeg (z_L h o7 (((14 : Int32) * x1) + x2).toNatClampNeg)) fun h12 =>
    y_nm (x2 + 1) fun v13 =>
    some (.inl (v13, h12)))
noncomputable def fX12_restore_b60 (o0 : Nat) (x1 : Int32) (x2 : Int32) (h : z_T) : Option (Int32 × z_T) := y_lp (fun q : Int32 × z_T => fX12_restore_b60_i o0 x1 q.1 q.2) (x2, h)
noncomputable def fX12_restore_b27_i (o0 : Nat) (x1 : Int32) (x2 : Int32) (h : z_T) : Option ((Int32 × z_T) ⊕ (Int32 × z_T)) :=
  y_br ((357 : Int32) ≤ x2)
    (y_mp <|
    fX12_restore_b60 o0 x1 (0 : Int32) h)
    (y_gd (z_ok h o0 11) <|
    y_bi (z_R h o0 6) fun o17 =>
    y_bi (z_R h o0 54) fun o18 =>
    y_gd (z_ok h o18 13) <|
    y_gd (z_ix (((357 : Int32) * x1) + x2) (z_N h o18)) <|
    y_gd (z_ok h o17 13) <|
    y_gd (z_ix x2 (z_N h o17)) <|
    y_nm (z_sI h o17 x2.toNatClampNeg (z_I h o18 (((357 : Int32) * x1) + x2).toNatClampNeg)) fun h23 =>
    y_nm (x2 + 1) fun v24 =>
    some (.inl (v24, h23)))
noncomputable def fX12_restore_b27 (o0 : Nat) (x1 : Int32) (x2 : Int32) (h : z_T) : Option (Int32 × z_T) := y_lp (fun q : Int32 × z_T => fX12_restore_b27_i o0 x1 q.1 q.2) (x2, h)
noncomputable def fX12_restore (o0 : Nat) (x1 : Int32) (h : z_T) : Option (Int32 × z_T) :=
  y_gd (z_ok h o0 11) <|
  y_nm (z_sI h o0 0 (0 : Int32)) fun h26 =>
  y_bi (fX12_isIn x1 (0 : Int32) (1 : Int32)) fun r28 =>
  y_br (r28 = 0)
    (some ((0 : Int32), h26))
    (y_bi (z_R h26 o0 56) fun o33 =>
    y_gd (z_ok h26 o33 15) <|
    y_gd (z_ix x1 (z_N h26 o33)) <|
    y_br ((z_I h26 o33 x1.toNatClampNeg) = 0)
      (some ((0 : Int32), h26))
      (fX12_restore_b27 o0 x1 (0 : Int32) h26))
set_option maxHeartbeats 4000000 in
set_option maxRecDepth 100000 in
theorem mm_X12_restore {G : z_Gt} {S : State → Prop} (hSK : z_SK S) (l : Launch) (ad : Nat → Nat) (o0 : Nat) (x1 : Int32) (h : z_T) {r0 : Int32} {h9 : z_T} (hv : fX12_restore o0 x1 h = some (r0, h9)) : z_Mi G S l yX12_restore cX12_restore 3 (.boolean) rm_X12_restore 0 0 [.ref (ad o0), .int x1] ad h h9 r0 := by
  refine z_ofW hSK (by decide) (Nat.le_of_ble_eq_true rfl) ?_
  intro p e s m args below meth c ls hc hr hnm hB hl
  have hx := hc.1.1
  have hb := hc.1.2.1
  have hown := hc.1.2.2.2.1
  have hts := hc.1.2.2.2.2
  replace hc : z_C G S ad (z_n h) p m c cX12_restore 3 s args RX12 meth := hc
  replace hown : s.vm.findClass RX12 = some m.cls := hown
  replace hl : lv_has ls 3 [(0, .ref (ad o0)), (1, .int x1)] := hl
  show W p l e rm_X12_restore s m args below meth c s.heap [] 0 0 (MQ below (z_Qi G ad h9 (z_n h) s.heap.size r0) args s 0 0 (z_A ad (z_n h) s.heap.size)) (F0 m 0 ls [])
  obtain ⟨rs, kt⟩ : ∃ rs : Int32 × z_T, rs = (r0, h9) := ⟨_, rfl⟩
  generalize hn0 : z_n h = n0 at hc hB ⊢
  have L60 : ∀ (nn60 : Nat) (x2 : Int32) (h : z_T) (H : Heap) (locs : List Loc) (ls : Array Slot), z_B G ad n0 s h H locs → lv_has ls 3 [(0, .ref (ad o0)), (1, .int x1), (2, .int x2)] → ∀ vv60, y_lpN (fun q : Int32 × z_T => fX12_restore_b60_i o0 x1 q.1 q.2) nn60 (x2, h) = some vv60 → vv60 = (r0, h9) → W p l e rm_X12_restore s m args below meth c H locs 0 0 (MQ below (z_Qi G ad h9 n0 s.heap.size r0) args s 0 0 (z_A ad n0 s.heap.size)) (F0 m 60 ls []) := by
    intro nn60
    induction nn60 with
    | zero => intro x2 h H locs ls hB hl vv60 hv kv60; exact absurd hv (fun q => y_lpN_0 q)
    | succ nn60 ih60 =>
      intro x2 h H locs ls hB hl vv60 hv kv60
      obtain ⟨w, hq, kw60⟩ := y_lpN_e hv
      clear hv
      have hv : fX12_restore_b60_i o0 x1 x2 h = some w := hq
      clear hq
      refine lv_iload_n hx hb dX12_restore_60 rfl (lv_at hl 2 rfl) ?_
      refine lv_bipush (v := (14 : Int32)) hx hb dX12_restore_61 (by decide) ?_
      refine lv_icmp_ge (tgt := 89) hx hb dX12_restore_63 (by decide) (fun c1 => ?_) (fun c1 => ?_)
      · replace hv := y_br_t hv c1
        obtain ⟨t2, hq, ew⟩ := y_mp_e hv
        clear hv; subst ew
        replace kw60 : t2 = _ := kw60
        subst kw60
        have hv := hq
        clear hq
        refine lv_aload_n hx hb dX12_restore_89 rfl (lv_at hl 0 rfl) ?_
        refine lv_iconst (v := (0 : Int32)) hx hb dX12_restore_90 (by decide) ?_
        obtain ⟨g3, hv⟩ := y_gd_e hv
        obtain ⟨h4, eh4, hv⟩ := y_nm_e hv
        refine y_putI hc hB 11 24 eh4 g3 (z_l1 hc qfX12_238) dX12_restore_91 (by decide) (by decide) rfl rfl rfl rfl (fun H locs hB => ?_)
        refine lv_iconst (v := (1 : Int32)) hx hb dX12_restore_94 (by decide) ?_
        replace hv := Option.some.inj hv
        subst hv
        obtain ⟨e1, e2⟩ := y_pr kv60
        rw [← e1, ← e2]
        exact z_zret hc hB hr rfl dX12_restore_95
      · replace hv := y_br_f hv c1
        refine lv_aload_n hx hb dX12_restore_66 rfl (lv_at hl 0 rfl) ?_
        obtain ⟨g5, hv⟩ := y_gd_e hv
        obtain ⟨o6, eo6, hv⟩ := y_bi_e hv
        refine z_getR hc hB 11 9 g5 eo6 (by decide) (by decide) rfl (z_l1 hc qfX12_43) dX12_restore_67 ?_
        refine lv_iload_n hx hb dX12_restore_70 rfl (lv_at hl 2 rfl) ?_
        refine lv_aload_n hx hb dX12_restore_71 rfl (lv_at hl 0 rfl) ?_
        obtain ⟨o7, eo7, hv⟩ := y_bi_e hv
        refine z_getR hc hB 11 55 g5 eo7 (by decide) (by decide) rfl (z_l1 hc qfX12_93) dX12_restore_72 ?_
        refine lv_bipush (v := (14 : Int32)) hx hb dX12_restore_75 (by decide) ?_
        refine lv_iload_n hx hb dX12_restore_77 rfl (lv_at hl 1 rfl) ?_
        refine lv_imul hx hb dX12_restore_78 ?_
        refine lv_iload_n hx hb dX12_restore_79 rfl (lv_at hl 2 rfl) ?_
        refine lv_iadd hx hb dX12_restore_80 ?_
        obtain ⟨g8, hv⟩ := y_gd_e hv
        obtain ⟨i9, hv⟩ := y_gd_e hv
        refine z_lald hc hB g8 i9 dX12_restore_81 ?_
        obtain ⟨g10, hv⟩ := y_gd_e hv
        obtain ⟨i11, hv⟩ := y_gd_e hv
        obtain ⟨h12, eh12, hv⟩ := y_nm_e hv
        refine y_last hc hB eh12 g10 i11 dX12_restore_82 (fun H locs hB => ?_)
        obtain ⟨v13, ev13, hv⟩ := y_nm_e hv
        refine lv_iinc (v := v13) (lv' := [(2, .int v13), (0, .ref (ad o0)), (1, .int x1)]) hx hb dX12_restore_83 hl (k := 2) rfl (by rw [ev13]; rfl) (by decide) rfl (fun ls hl => ?_)
        refine lv_goto (tgt := 60) hx hb dX12_restore_86 (by decide) ?_
        replace hv := Option.some.inj hv
        subst hv
        exact ih60 v13 h12 _ _ _ hB (lv_sub hl [1, 2, 0] rfl) _ kw60 kv60
  have L27 : ∀ (nn27 : Nat) (x2 : Int32) (h : z_T) (H : Heap) (locs : List Loc) (ls : Array Slot), z_B G ad n0 s h H locs → lv_has ls 3 [(0, .ref (ad o0)), (1, .int x1), (2, .int x2)] → ∀ vv27, y_lpN (fun q : Int32 × z_T => fX12_restore_b27_i o0 x1 q.1 q.2) nn27 (x2, h) = some vv27 → vv27 = (r0, h9) → W p l e rm_X12_restore s m args below meth c H locs 0 0 (MQ below (z_Qi G ad h9 n0 s.heap.size r0) args s 0 0 (z_A ad n0 s.heap.size)) (F0 m 27 ls []) := by
    intro nn27
    induction nn27 with
    | zero => intro x2 h H locs ls hB hl vv27 hv kv27; exact absurd hv (fun q => y_lpN_0 q)
    | succ nn27 ih27 =>
      intro x2 h H locs ls hB hl vv27 hv kv27
      obtain ⟨w, hq, kw27⟩ := y_lpN_e hv
      clear hv
      have hv : fX12_restore_b27_i o0 x1 x2 h = some w := hq
      clear hq
      refine lv_iload_n hx hb dX12_restore_27 rfl (lv_at hl 2 rfl) ?_
      refine lv_sipush (v := (357 : Int32)) hx hb dX12_restore_28 (by decide) ?_
      refine lv_icmp_ge (tgt := 58) hx hb dX12_restore_31 (by decide) (fun c14 => ?_) (fun c14 => ?_)
      · replace hv := y_br_t hv c14
        obtain ⟨t15, hq, ew⟩ := y_mp_e hv
        clear hv; subst ew
        replace kw27 : t15 = _ := kw27
        subst kw27
        have hv := hq
        clear hq
        refine lv_iconst (v := (0 : Int32)) hx hb dX12_restore_58 (by decide) ?_
        refine lv_istore_n (lv' := [(2, .int (0 : Int32)), (0, .ref (ad o0)), (1, .int x1)]) hx hb dX12_restore_59 rfl hl (by decide) rfl (fun ls hl => ?_)
        obtain ⟨n, hv⟩ := y_lp_e hv
        exact L60 n (0 : Int32) h _ _ _ hB (lv_sub hl [1, 2, 0] rfl) _ hv kv27
      · replace hv := y_br_f hv c14
        refine lv_aload_n hx hb dX12_restore_34 rfl (lv_at hl 0 rfl) ?_
        obtain ⟨g16, hv⟩ := y_gd_e hv
        obtain ⟨o17, eo17, hv⟩ := y_bi_e hv
        refine z_getR hc hB 11 6 g16 eo17 (by decide) (by decide) rfl (z_l1 hc qfX12_33) dX12_restore_35 ?_
        refine lv_iload_n hx hb dX12_restore_38 rfl (lv_at hl 2 rfl) ?_
        refine lv_aload_n hx hb dX12_restore_39 rfl (lv_at hl 0 rfl) ?_
        obtain ⟨o18, eo18, hv⟩ := y_bi_e hv
        refine z_getR hc hB 11 54 g16 eo18 (by decide) (by decide) rfl (z_l1 hc qfX12_90) dX12_restore_40 ?_
        refine lv_sipush (v := (357 : Int32)) hx hb dX12_restore_43 (by decide) ?_
        refine lv_iload_n hx hb dX12_restore_46 rfl (lv_at hl 1 rfl) ?_
        refine lv_imul hx hb dX12_restore_47 ?_
        refine lv_iload_n hx hb dX12_restore_48 rfl (lv_at hl 2 rfl) ?_
        refine lv_iadd hx hb dX12_restore_49 ?_
        obtain ⟨g19, hv⟩ := y_gd_e hv
        obtain ⟨i20, hv⟩ := y_gd_e hv
        refine z_iald hc hB g19 i20 dX12_restore_50 ?_
        obtain ⟨g21, hv⟩ := y_gd_e hv
        obtain ⟨i22, hv⟩ := y_gd_e hv
        obtain ⟨h23, eh23, hv⟩ := y_nm_e hv
        refine y_iast hc hB eh23 g21 i22 dX12_restore_51 (fun H locs hB => ?_)
        obtain ⟨v24, ev24, hv⟩ := y_nm_e hv
        refine lv_iinc (v := v24) (lv' := [(2, .int v24), (0, .ref (ad o0)), (1, .int x1)]) hx hb dX12_restore_52 hl (k := 2) rfl (by rw [ev24]; rfl) (by decide) rfl (fun ls hl => ?_)
        refine lv_goto (tgt := 27) hx hb dX12_restore_55 (by decide) ?_
        replace hv := Option.some.inj hv
        subst hv
        exact ih27 v24 h23 _ _ _ hB (lv_sub hl [1, 2, 0] rfl) _ kw27 kv27
  rw [← kt] at hv
  refine lv_aload_n hx hb dX12_restore_0 rfl (lv_at hl 0 rfl) ?_
  refine lv_iconst (v := (0 : Int32)) hx hb dX12_restore_1 (by decide) ?_
  obtain ⟨g25, hv⟩ := y_gd_e hv
  obtain ⟨h26, eh26, hv⟩ := y_nm_e hv
  refine y_putI hc hB 11 0 eh26 g25 (z_l1 hc qfX12_1) dX12_restore_2 (by decide) (by decide) rfl rfl rfl rfl (fun H locs hB => ?_)
  refine lv_iload_n hx hb dX12_restore_5 rfl (lv_at hl 1 rfl) ?_
  refine lv_iconst (v := (0 : Int32)) hx hb dX12_restore_6 (by decide) ?_
  refine lv_iconst (v := (1 : Int32)) hx hb dX12_restore_7 (by decide) ?_
  obtain ⟨r28, c27, hv⟩ := y_bi_e hv
  refine z_thI hc hB (z_runS hc hB (mm_X12_isIn hSK l ad x1 (0 : Int32) (1 : Int32) h26 c27) md_X12_isIn qmX12_188 rfl rfl ⟨Nat.le_of_ble_eq_true rfl, Nat.le_of_ble_eq_true rfl⟩ rfl hl.1 rfl (Nat.le_of_ble_eq_true rfl) dX12_restore_8 ⟨Nat.le_of_ble_eq_true rfl, Nat.le_of_ble_eq_true rfl⟩) (fun H locs hB => ?_)
  refine lv_if_eq (tgt := 23) hx hb dX12_restore_11 (by decide) (fun c32 => ?_) (fun c32 => ?_)
  · replace hv := y_br_t hv c32
    refine lv_iconst (v := (0 : Int32)) hx hb dX12_restore_23 (by decide) ?_
    replace hv := Option.some.inj hv
    subst hv
    obtain ⟨e1, e2⟩ := y_pr kt
    rw [← e1, ← e2]
    exact z_zret hc hB hr rfl dX12_restore_24
  · replace hv := y_br_f hv c32
    refine lv_aload_n hx hb dX12_restore_14 rfl (lv_at hl 0 rfl) ?_
    obtain ⟨o33, eo33, hv⟩ := y_bi_e hv
    refine z_getR hc hB 11 56 (by rw [eh26]; exact g25) eo33 (by decide) (by decide) rfl (z_l1 hc qfX12_96) dX12_restore_15 ?_
    refine lv_iload_n hx hb dX12_restore_18 rfl (lv_at hl 1 rfl) ?_
    obtain ⟨g34, hv⟩ := y_gd_e hv
    obtain ⟨i35, hv⟩ := y_gd_e hv
    refine z_zald hc hB g34 i35 dX12_restore_19 ?_
    refine lv_if_ne (tgt := 25) hx hb dX12_restore_20 (by decide) (fun c36 => ?_) (fun c36 => ?_)
    · replace hv := y_br_f hv c36
      refine lv_iconst (v := (0 : Int32)) hx hb dX12_restore_25 (by decide) ?_
      refine lv_istore_n (lv' := [(2, .int (0 : Int32)), (0, .ref (ad o0)), (1, .int x1)]) hx hb dX12_restore_26 rfl hl (by decide) rfl (fun ls hl => ?_)
      obtain ⟨n, hv⟩ := y_lp_e hv
      exact L27 n (0 : Int32) h26 _ _ _ hB (lv_sub hl [1, 2, 0] rfl) _ hv kt
    · replace hv := y_br_t hv c36
      refine lv_iconst (v := (0 : Int32)) hx hb dX12_restore_23 (by decide) ?_
      replace hv := Option.some.inj hv
      subst hv
      obtain ⟨e1, e2⟩ := y_pr kt
      rw [← e1, ← e2]
      exact z_zret hc hB hr rfl dX12_restore_24
theorem dX12_count_0 : decode cX12_count 0 = .ok (.aload_n 0, 1) := by decide +kernel
theorem dX12_count_1 : decode cX12_count 1 = .ok (.iconst 0, 1) := by decide +kernel
theorem dX12_count_2 : decode cX12_count 2 = .ok (.putfield 1, 3) := by decide +kernel
theorem dX12_count_5 : decode cX12_count 5 = .ok (.iload_n 1, 1) := by decide +kernel
theorem dX12_count_6 : decode cX12_count 6 = .ok (.bipush 8, 2) := by decide +kernel
theorem dX12_count_8 : decode cX12_count 8 = .ok (.if_icmp .ne 13, 3) := by decide +kernel
theorem dX12_count_11 : decode cX12_count 11 = .ok (.aload_n 0, 1) := by decide +kernel
theorem dX12_count_12 : decode cX12_count 12 = .ok (.getfield 33, 3) := by decide +kernel
theorem dX12_count_15 : decode cX12_count 15 = .ok (.bipush 36, 2) := by decide +kernel
theorem dX12_count_17 : decode cX12_count 17 = .ok (.iaload, 1) := by decide +kernel
theorem dX12_count_18 : decode cX12_count 18 = .ok (.goto 36, 3) := by decide +kernel
theorem dX12_count_21 : decode cX12_count 21 = .ok (.iload_n 1, 1) := by decide +kernel
theorem dX12_count_22 : decode cX12_count 22 = .ok (.bipush 9, 2) := by decide +kernel
theorem dX12_count_24 : decode cX12_count 24 = .ok (.if_icmp .ne 10, 3) := by decide +kernel
theorem dX12_count_27 : decode cX12_count 27 = .ok (.aload_n 0, 1) := by decide +kernel
theorem dX12_count_28 : decode cX12_count 28 = .ok (.getfield 7, 3) := by decide +kernel
theorem dX12_count_31 : decode cX12_count 31 = .ok (.goto 23, 3) := by decide +kernel
theorem dX12_count_34 : decode cX12_count 34 = .ok (.iload_n 1, 1) := by decide +kernel
theorem dX12_count_35 : decode cX12_count 35 = .ok (.iconst 0, 1) := by decide +kernel
theorem dX12_count_36 : decode cX12_count 36 = .ok (.bipush 7, 2) := by decide +kernel
theorem dX12_count_38 : decode cX12_count 38 = .ok (.invokestatic 188, 3) := by decide +kernel
theorem dX12_count_41 : decode cX12_count 41 = .ok (.ifCond .eq 12, 3) := by decide +kernel
theorem dX12_count_44 : decode cX12_count 44 = .ok (.aload_n 0, 1) := by decide +kernel
theorem dX12_count_45 : decode cX12_count 45 = .ok (.getfield 33, 3) := by decide +kernel
theorem dX12_count_48 : decode cX12_count 48 = .ok (.iload_n 1, 1) := by decide +kernel
theorem dX12_count_49 : decode cX12_count 49 = .ok (.iaload, 1) := by decide +kernel
theorem dX12_count_50 : decode cX12_count 50 = .ok (.goto 4, 3) := by decide +kernel
theorem dX12_count_53 : decode cX12_count 53 = .ok (.iconst (-1), 1) := by decide +kernel
theorem dX12_count_54 : decode cX12_count 54 = .ok (.ireturn, 1) := by decide +kernel
abbrev rm_X12_count : Room := { frames := 1, cells := 0, slots := 0, locals := 22 }
noncomputable def fX12_count (o0 : Nat) (x1 : Int32) (h : z_T) : Option (Int32 × z_T) :=
  y_gd (z_ok h o0 11) <|
  y_nm (z_sI h o0 0 (0 : Int32)) fun h2 =>
  y_br (x1 = (8 : Int32))
    (y_bi (z_R h2 o0 6) fun o14 =>
    y_gd (z_ok h2 o14 13) <|
    y_gd (z_ix (36 : Int32) (z_N h2 o14)) <|
    some ((z_I h2 o14 (36 : Int32).toNatClampNeg), h2))
    (y_br (x1 = (9 : Int32))
      (some ((z_I h2 o0 2), h2))
      (y_bi (fX12_isIn x1 (0 : Int32) (7 : Int32)) fun r6 =>
      y_br (r6 = 0)
        (some ((-1 : Int32), h2))
        (y_bi (z_R h2 o0 6) fun o11 =>
        y_gd (z_ok h2 o11 13) <|
        y_gd (z_ix x1 (z_N h2 o11)) <|
        some ((z_I h2 o11 x1.toNatClampNeg), h2))))
set_option maxHeartbeats 4000000 in
set_option maxRecDepth 100000 in
theorem mm_X12_count {G : z_Gt} {S : State → Prop} (hSK : z_SK S) (l : Launch) (ad : Nat → Nat) (o0 : Nat) (x1 : Int32) (h : z_T) {r0 : Int32} {h9 : z_T} (hv : fX12_count o0 x1 h = some (r0, h9)) : z_Mi G S l yX12_count cX12_count 2 (.int) rm_X12_count 0 0 [.ref (ad o0), .int x1] ad h h9 r0 := by
  refine z_ofW hSK (by decide) (Nat.le_of_ble_eq_true rfl) ?_
  intro p e s m args below meth c ls hc hr hnm hB hl
  have hx := hc.1.1
  have hb := hc.1.2.1
  have hown := hc.1.2.2.2.1
  have hts := hc.1.2.2.2.2
  replace hc : z_C G S ad (z_n h) p m c cX12_count 2 s args RX12 meth := hc
  replace hown : s.vm.findClass RX12 = some m.cls := hown
  replace hl : lv_has ls 2 [(0, .ref (ad o0)), (1, .int x1)] := hl
  show W p l e rm_X12_count s m args below meth c s.heap [] 0 0 (MQ below (z_Qi G ad h9 (z_n h) s.heap.size r0) args s 0 0 (z_A ad (z_n h) s.heap.size)) (F0 m 0 ls [])
  obtain ⟨rs, kt⟩ : ∃ rs : Int32 × z_T, rs = (r0, h9) := ⟨_, rfl⟩
  generalize hn0 : z_n h = n0 at hc hB ⊢
  rw [← kt] at hv
  refine lv_aload_n hx hb dX12_count_0 rfl (lv_at hl 0 rfl) ?_
  refine lv_iconst (v := (0 : Int32)) hx hb dX12_count_1 (by decide) ?_
  obtain ⟨g1, hv⟩ := y_gd_e hv
  obtain ⟨h2, eh2, hv⟩ := y_nm_e hv
  refine y_putI hc hB 11 0 eh2 g1 (z_l1 hc qfX12_1) dX12_count_2 (by decide) (by decide) rfl rfl rfl rfl (fun H locs hB => ?_)
  refine lv_iload_n hx hb dX12_count_5 rfl (lv_at hl 1 rfl) ?_
  refine lv_bipush (v := (8 : Int32)) hx hb dX12_count_6 (by decide) ?_
  refine lv_icmp_ne (tgt := 21) hx hb dX12_count_8 (by decide) (fun c3 => ?_) (fun c3 => ?_)
  · replace hv := y_br_f hv c3
    refine lv_iload_n hx hb dX12_count_21 rfl (lv_at hl 1 rfl) ?_
    refine lv_bipush (v := (9 : Int32)) hx hb dX12_count_22 (by decide) ?_
    refine lv_icmp_ne (tgt := 34) hx hb dX12_count_24 (by decide) (fun c4 => ?_) (fun c4 => ?_)
    · replace hv := y_br_f hv c4
      refine lv_iload_n hx hb dX12_count_34 rfl (lv_at hl 1 rfl) ?_
      refine lv_iconst (v := (0 : Int32)) hx hb dX12_count_35 (by decide) ?_
      refine lv_bipush (v := (7 : Int32)) hx hb dX12_count_36 (by decide) ?_
      obtain ⟨r6, c5, hv⟩ := y_bi_e hv
      refine z_thI hc hB (z_runS hc hB (mm_X12_isIn hSK l ad x1 (0 : Int32) (7 : Int32) h2 c5) md_X12_isIn qmX12_188 rfl rfl ⟨Nat.le_of_ble_eq_true rfl, Nat.le_of_ble_eq_true rfl⟩ rfl hl.1 rfl (Nat.le_of_ble_eq_true rfl) dX12_count_38 ⟨Nat.le_of_ble_eq_true rfl, Nat.le_of_ble_eq_true rfl⟩) (fun H locs hB => ?_)
      refine lv_if_eq (tgt := 53) hx hb dX12_count_41 (by decide) (fun c10 => ?_) (fun c10 => ?_)
      · replace hv := y_br_t hv c10
        refine lv_iconst (v := (-1 : Int32)) hx hb dX12_count_53 (by decide) ?_
        replace hv := Option.some.inj hv
        subst hv
        obtain ⟨e1, e2⟩ := y_pr kt
        rw [← e1, ← e2]
        exact z_iret hc hB hr dX12_count_54
      · replace hv := y_br_f hv c10
        refine lv_aload_n hx hb dX12_count_44 rfl (lv_at hl 0 rfl) ?_
        obtain ⟨o11, eo11, hv⟩ := y_bi_e hv
        refine z_getR hc hB 11 6 (by rw [eh2]; exact g1) eo11 (by decide) (by decide) rfl (z_l1 hc qfX12_33) dX12_count_45 ?_
        refine lv_iload_n hx hb dX12_count_48 rfl (lv_at hl 1 rfl) ?_
        obtain ⟨g12, hv⟩ := y_gd_e hv
        obtain ⟨i13, hv⟩ := y_gd_e hv
        refine z_iald hc hB g12 i13 dX12_count_49 ?_
        refine lv_goto (tgt := 54) hx hb dX12_count_50 (by decide) ?_
        replace hv := Option.some.inj hv
        subst hv
        obtain ⟨e1, e2⟩ := y_pr kt
        rw [← e1, ← e2]
        exact z_iret hc hB hr dX12_count_54
    · replace hv := y_br_t hv c4
      refine lv_aload_n hx hb dX12_count_27 rfl (lv_at hl 0 rfl) ?_
      refine z_getI hc hB 11 2 (by rw [eh2]; exact g1) (by decide) (by decide) rfl (z_l1 hc qfX12_7) dX12_count_28 ?_
      refine lv_goto (tgt := 54) hx hb dX12_count_31 (by decide) ?_
      replace hv := Option.some.inj hv
      subst hv
      obtain ⟨e1, e2⟩ := y_pr kt
      rw [← e1, ← e2]
      exact z_iret hc hB hr dX12_count_54
  · replace hv := y_br_t hv c3
    refine lv_aload_n hx hb dX12_count_11 rfl (lv_at hl 0 rfl) ?_
    obtain ⟨o14, eo14, hv⟩ := y_bi_e hv
    refine z_getR hc hB 11 6 (by rw [eh2]; exact g1) eo14 (by decide) (by decide) rfl (z_l1 hc qfX12_33) dX12_count_12 ?_
    refine lv_bipush (v := (36 : Int32)) hx hb dX12_count_15 (by decide) ?_
    obtain ⟨g15, hv⟩ := y_gd_e hv
    obtain ⟨i16, hv⟩ := y_gd_e hv
    refine z_iald hc hB g15 i16 dX12_count_17 ?_
    refine lv_goto (tgt := 54) hx hb dX12_count_18 (by decide) ?_
    replace hv := Option.some.inj hv
    subst hv
    obtain ⟨e1, e2⟩ := y_pr kt
    rw [← e1, ← e2]
    exact z_iret hc hB hr dX12_count_54
