/-! the methods of the reference: the rows that decode, a function each, the walk (by gen3.py) -/
theorem qmX12_409 : Cond.methodLink RX12 409 yX12_back ∈ z_ws := List.mem_filter.mpr ⟨List.mem_append_right _ (List.mem_of_getElem? (i := 1826) (by decide +kernel)), rfl⟩
theorem qc_X12_back : Cond.code yX12_back cX12_back 2 none ∈ z_ws := List.mem_filter.mpr ⟨List.mem_append_right _ (List.mem_of_getElem? (i := 1829) (by decide +kernel)), rfl⟩
theorem qi_X12_back : Cond.instanceMethod yX12_back ∈ z_ws := List.mem_filter.mpr ⟨List.mem_append_right _ (List.mem_of_getElem? (i := 1828) (by decide +kernel)), rfl⟩
theorem qs_X12_back : Cond.selects RX12 yX12_back yX12_back ∈ z_ws := List.mem_filter.mpr ⟨List.mem_append_left _ (List.mem_of_getElem? (i := 81) (by decide +kernel)), rfl⟩
theorem md_X12_back : z_mdV yX12_back cX12_back 2 none 0 := ⟨⟨qn_RX12, qc_X12_back, ⟨by decide +kernel, by decide +kernel, by decide +kernel⟩⟩, qi_X12_back, qs_X12_back⟩
theorem qmX12_406 : Cond.methodLink RX12 406 yX12_wrongIn ∈ z_ws := List.mem_filter.mpr ⟨List.mem_append_right _ (List.mem_of_getElem? (i := 1818) (by decide +kernel)), rfl⟩
theorem qc_X12_wrongIn : Cond.code yX12_wrongIn cX12_wrongIn 8 (some .int) ∈ z_ws := List.mem_filter.mpr ⟨List.mem_append_right _ (List.mem_of_getElem? (i := 1821) (by decide +kernel)), rfl⟩
theorem qi_X12_wrongIn : Cond.instanceMethod yX12_wrongIn ∈ z_ws := List.mem_filter.mpr ⟨List.mem_append_right _ (List.mem_of_getElem? (i := 1820) (by decide +kernel)), rfl⟩
theorem qs_X12_wrongIn : Cond.selects RX12 yX12_wrongIn yX12_wrongIn ∈ z_ws := List.mem_filter.mpr ⟨List.mem_append_left _ (List.mem_of_getElem? (i := 79) (by decide +kernel)), rfl⟩
theorem md_X12_wrongIn : z_mdV yX12_wrongIn cX12_wrongIn 8 (some .int) 2 := ⟨⟨qn_RX12, qc_X12_wrongIn, ⟨by decide +kernel, by decide +kernel, by decide +kernel⟩⟩, qi_X12_wrongIn, qs_X12_wrongIn⟩
theorem qfX12_402 : Cond.fieldLink RX12 402 "DreamTestsModel" "hasJudged" "Z" ∈ z_ws := List.mem_filter.mpr ⟨List.mem_append_right _ (List.mem_of_getElem? (i := 1344) (by decide +kernel)), rfl⟩
theorem qmX12_399 : Cond.methodLink RX12 399 yX12_tries ∈ z_ws := List.mem_filter.mpr ⟨List.mem_append_right _ (List.mem_of_getElem? (i := 1814) (by decide +kernel)), rfl⟩
theorem qc_X12_tries : Cond.code yX12_tries cX12_tries 2 none ∈ z_ws := List.mem_filter.mpr ⟨List.mem_append_right _ (List.mem_of_getElem? (i := 1817) (by decide +kernel)), rfl⟩
theorem qi_X12_tries : Cond.instanceMethod yX12_tries ∈ z_ws := List.mem_filter.mpr ⟨List.mem_append_right _ (List.mem_of_getElem? (i := 1816) (by decide +kernel)), rfl⟩
theorem qs_X12_tries : Cond.selects RX12 yX12_tries yX12_tries ∈ z_ws := List.mem_filter.mpr ⟨List.mem_append_left _ (List.mem_of_getElem? (i := 78) (by decide +kernel)), rfl⟩
theorem md_X12_tries : z_mdV yX12_tries cX12_tries 2 none 0 := ⟨⟨qn_RX12, qc_X12_tries, ⟨by decide +kernel, by decide +kernel, by decide +kernel⟩⟩, qi_X12_tries, qs_X12_tries⟩
theorem qmX12_396 : Cond.methodLink RX12 396 yX12_nightLine ∈ z_ws := List.mem_filter.mpr ⟨List.mem_append_right _ (List.mem_of_getElem? (i := 1810) (by decide +kernel)), rfl⟩
theorem qc_X12_nightLine : Cond.code yX12_nightLine cX12_nightLine 3 (some .boolean) ∈ z_ws := List.mem_filter.mpr ⟨List.mem_append_right _ (List.mem_of_getElem? (i := 1813) (by decide +kernel)), rfl⟩
theorem qi_X12_nightLine : Cond.instanceMethod yX12_nightLine ∈ z_ws := List.mem_filter.mpr ⟨List.mem_append_right _ (List.mem_of_getElem? (i := 1812) (by decide +kernel)), rfl⟩
theorem qs_X12_nightLine : Cond.selects RX12 yX12_nightLine yX12_nightLine ∈ z_ws := List.mem_filter.mpr ⟨List.mem_append_left _ (List.mem_of_getElem? (i := 77) (by decide +kernel)), rfl⟩
theorem md_X12_nightLine : z_mdV yX12_nightLine cX12_nightLine 3 (some .boolean) 0 := ⟨⟨qn_RX12, qc_X12_nightLine, ⟨by decide +kernel, by decide +kernel, by decide +kernel⟩⟩, qi_X12_nightLine, qs_X12_nightLine⟩
theorem dX12_nights_0 : decode cX12_nights 0 = .ok (.aload_n 0, 1) := by decide +kernel
theorem dX12_nights_1 : decode cX12_nights 1 = .ok (.iconst 0, 1) := by decide +kernel
theorem dX12_nights_2 : decode cX12_nights 2 = .ok (.putfield 1, 3) := by decide +kernel
theorem dX12_nights_5 : decode cX12_nights 5 = .ok (.aload_n 0, 1) := by decide +kernel
theorem dX12_nights_6 : decode cX12_nights 6 = .ok (.sipush 400, 3) := by decide +kernel
theorem dX12_nights_9 : decode cX12_nights 9 = .ok (.invokevirtual 226, 3) := by decide +kernel
theorem dX12_nights_12 : decode cX12_nights 12 = .ok (.aload_n 0, 1) := by decide +kernel
theorem dX12_nights_13 : decode cX12_nights 13 = .ok (.iconst 0, 1) := by decide +kernel
theorem dX12_nights_14 : decode cX12_nights 14 = .ok (.putfield 173, 3) := by decide +kernel
theorem dX12_nights_17 : decode cX12_nights 17 = .ok (.aload_n 0, 1) := by decide +kernel
theorem dX12_nights_18 : decode cX12_nights 18 = .ok (.iconst 0, 1) := by decide +kernel
theorem dX12_nights_19 : decode cX12_nights 19 = .ok (.putfield 384, 3) := by decide +kernel
theorem dX12_nights_22 : decode cX12_nights 22 = .ok (.aload_n 0, 1) := by decide +kernel
theorem dX12_nights_23 : decode cX12_nights 23 = .ok (.iconst 0, 1) := by decide +kernel
theorem dX12_nights_24 : decode cX12_nights 24 = .ok (.putfield 387, 3) := by decide +kernel
theorem dX12_nights_27 : decode cX12_nights 27 = .ok (.aload_n 0, 1) := by decide +kernel
theorem dX12_nights_28 : decode cX12_nights 28 = .ok (.invokevirtual 185, 3) := by decide +kernel
theorem dX12_nights_31 : decode cX12_nights 31 = .ok (.aload_n 0, 1) := by decide +kernel
theorem dX12_nights_32 : decode cX12_nights 32 = .ok (.getfield 156, 3) := by decide +kernel
theorem dX12_nights_35 : decode cX12_nights 35 = .ok (.ifCond .eq 40, 3) := by decide +kernel
theorem dX12_nights_38 : decode cX12_nights 38 = .ok (.aload_n 0, 1) := by decide +kernel
theorem dX12_nights_39 : decode cX12_nights 39 = .ok (.invokevirtual 396, 3) := by decide +kernel
theorem dX12_nights_42 : decode cX12_nights 42 = .ok (.ifCond .eq 12, 3) := by decide +kernel
theorem dX12_nights_45 : decode cX12_nights 45 = .ok (.aload_n 0, 1) := by decide +kernel
theorem dX12_nights_46 : decode cX12_nights 46 = .ok (.bipush 59, 2) := by decide +kernel
theorem dX12_nights_48 : decode cX12_nights 48 = .ok (.invokevirtual 235, 3) := by decide +kernel
theorem dX12_nights_51 : decode cX12_nights 51 = .ok (.ifCond .ne 11, 3) := by decide +kernel
theorem dX12_nights_54 : decode cX12_nights 54 = .ok (.bipush (-2), 2) := by decide +kernel
theorem dX12_nights_56 : decode cX12_nights 56 = .ok (.aload_n 0, 1) := by decide +kernel
theorem dX12_nights_57 : decode cX12_nights 57 = .ok (.getfield 176, 3) := by decide +kernel
theorem dX12_nights_60 : decode cX12_nights 60 = .ok (.isub, 1) := by decide +kernel
theorem dX12_nights_61 : decode cX12_nights 61 = .ok (.ireturn, 1) := by decide +kernel
theorem dX12_nights_62 : decode cX12_nights 62 = .ok (.aload_n 0, 1) := by decide +kernel
theorem dX12_nights_63 : decode cX12_nights 63 = .ok (.dup, 1) := by decide +kernel
theorem dX12_nights_64 : decode cX12_nights 64 = .ok (.getfield 384, 3) := by decide +kernel
theorem dX12_nights_67 : decode cX12_nights 67 = .ok (.iconst 1, 1) := by decide +kernel
theorem dX12_nights_68 : decode cX12_nights 68 = .ok (.iadd, 1) := by decide +kernel
theorem dX12_nights_69 : decode cX12_nights 69 = .ok (.putfield 384, 3) := by decide +kernel
theorem dX12_nights_72 : decode cX12_nights 72 = .ok (.goto (-41), 3) := by decide +kernel
theorem dX12_nights_75 : decode cX12_nights 75 = .ok (.aload_n 0, 1) := by decide +kernel
theorem dX12_nights_76 : decode cX12_nights 76 = .ok (.invokevirtual 399, 3) := by decide +kernel
theorem dX12_nights_79 : decode cX12_nights 79 = .ok (.iconst 0, 1) := by decide +kernel
theorem dX12_nights_80 : decode cX12_nights 80 = .ok (.istore_n 1, 1) := by decide +kernel
theorem dX12_nights_81 : decode cX12_nights 81 = .ok (.iload_n 1, 1) := by decide +kernel
theorem dX12_nights_82 : decode cX12_nights 82 = .ok (.iconst 3, 1) := by decide +kernel
theorem dX12_nights_83 : decode cX12_nights 83 = .ok (.if_icmp .ge 16, 3) := by decide +kernel
theorem dX12_nights_86 : decode cX12_nights 86 = .ok (.aload_n 0, 1) := by decide +kernel
theorem dX12_nights_87 : decode cX12_nights 87 = .ok (.getfield 80, 3) := by decide +kernel
theorem dX12_nights_90 : decode cX12_nights 90 = .ok (.iload_n 1, 1) := by decide +kernel
theorem dX12_nights_91 : decode cX12_nights 91 = .ok (.iconst 0, 1) := by decide +kernel
theorem dX12_nights_92 : decode cX12_nights 92 = .ok (.iastore, 1) := by decide +kernel
theorem dX12_nights_93 : decode cX12_nights 93 = .ok (.iinc 1 1, 3) := by decide +kernel
theorem dX12_nights_96 : decode cX12_nights 96 = .ok (.goto (-15), 3) := by decide +kernel
theorem dX12_nights_99 : decode cX12_nights 99 = .ok (.aload_n 0, 1) := by decide +kernel
theorem dX12_nights_100 : decode cX12_nights 100 = .ok (.iconst 1, 1) := by decide +kernel
theorem dX12_nights_101 : decode cX12_nights 101 = .ok (.putfield 402, 3) := by decide +kernel
theorem dX12_nights_104 : decode cX12_nights 104 = .ok (.iconst (-1), 1) := by decide +kernel
theorem dX12_nights_105 : decode cX12_nights 105 = .ok (.istore_n 1, 1) := by decide +kernel
theorem dX12_nights_106 : decode cX12_nights 106 = .ok (.iconst 0, 1) := by decide +kernel
theorem dX12_nights_107 : decode cX12_nights 107 = .ok (.istore_n 2, 1) := by decide +kernel
theorem dX12_nights_108 : decode cX12_nights 108 = .ok (.iload_n 2, 1) := by decide +kernel
theorem dX12_nights_109 : decode cX12_nights 109 = .ok (.aload_n 0, 1) := by decide +kernel
theorem dX12_nights_110 : decode cX12_nights 110 = .ok (.getfield 384, 3) := by decide +kernel
theorem dX12_nights_113 : decode cX12_nights 113 = .ok (.if_icmp .ge 52, 3) := by decide +kernel
theorem dX12_nights_116 : decode cX12_nights 116 = .ok (.iload_n 1, 1) := by decide +kernel
theorem dX12_nights_117 : decode cX12_nights 117 = .ok (.ifCond .ge 48, 3) := by decide +kernel
theorem dX12_nights_120 : decode cX12_nights 120 = .ok (.aload_n 0, 1) := by decide +kernel
theorem dX12_nights_121 : decode cX12_nights 121 = .ok (.getfield 80, 3) := by decide +kernel
theorem dX12_nights_124 : decode cX12_nights 124 = .ok (.iconst 0, 1) := by decide +kernel
theorem dX12_nights_125 : decode cX12_nights 125 = .ok (.aload_n 0, 1) := by decide +kernel
theorem dX12_nights_126 : decode cX12_nights 126 = .ok (.aload_n 0, 1) := by decide +kernel
theorem dX12_nights_127 : decode cX12_nights 127 = .ok (.getfield 40, 3) := by decide +kernel
theorem dX12_nights_130 : decode cX12_nights 130 = .ok (.iconst 2, 1) := by decide +kernel
theorem dX12_nights_131 : decode cX12_nights 131 = .ok (.iload_n 2, 1) := by decide +kernel
theorem dX12_nights_132 : decode cX12_nights 132 = .ok (.imul, 1) := by decide +kernel
theorem dX12_nights_133 : decode cX12_nights 133 = .ok (.iaload, 1) := by decide +kernel
theorem dX12_nights_134 : decode cX12_nights 134 = .ok (.aload_n 0, 1) := by decide +kernel
theorem dX12_nights_135 : decode cX12_nights 135 = .ok (.getfield 40, 3) := by decide +kernel
theorem dX12_nights_138 : decode cX12_nights 138 = .ok (.iconst 2, 1) := by decide +kernel
theorem dX12_nights_139 : decode cX12_nights 139 = .ok (.iload_n 2, 1) := by decide +kernel
theorem dX12_nights_140 : decode cX12_nights 140 = .ok (.imul, 1) := by decide +kernel
theorem dX12_nights_141 : decode cX12_nights 141 = .ok (.iconst 1, 1) := by decide +kernel
theorem dX12_nights_142 : decode cX12_nights 142 = .ok (.iadd, 1) := by decide +kernel
theorem dX12_nights_143 : decode cX12_nights 143 = .ok (.iaload, 1) := by decide +kernel
theorem dX12_nights_144 : decode cX12_nights 144 = .ok (.invokevirtual 406, 3) := by decide +kernel
theorem dX12_nights_147 : decode cX12_nights 147 = .ok (.iastore, 1) := by decide +kernel
theorem dX12_nights_148 : decode cX12_nights 148 = .ok (.aload_n 0, 1) := by decide +kernel
theorem dX12_nights_149 : decode cX12_nights 149 = .ok (.getfield 80, 3) := by decide +kernel
theorem dX12_nights_152 : decode cX12_nights 152 = .ok (.iconst 0, 1) := by decide +kernel
theorem dX12_nights_153 : decode cX12_nights 153 = .ok (.iaload, 1) := by decide +kernel
theorem dX12_nights_154 : decode cX12_nights 154 = .ok (.ifCond .le 5, 3) := by decide +kernel
theorem dX12_nights_157 : decode cX12_nights 157 = .ok (.iload_n 2, 1) := by decide +kernel
theorem dX12_nights_158 : decode cX12_nights 158 = .ok (.istore_n 1, 1) := by decide +kernel
theorem dX12_nights_159 : decode cX12_nights 159 = .ok (.iinc 2 1, 3) := by decide +kernel
theorem dX12_nights_162 : decode cX12_nights 162 = .ok (.goto (-54), 3) := by decide +kernel
theorem dX12_nights_165 : decode cX12_nights 165 = .ok (.aload_n 0, 1) := by decide +kernel
theorem dX12_nights_166 : decode cX12_nights 166 = .ok (.invokevirtual 409, 3) := by decide +kernel
theorem dX12_nights_169 : decode cX12_nights 169 = .ok (.iload_n 1, 1) := by decide +kernel
theorem dX12_nights_170 : decode cX12_nights 170 = .ok (.ireturn, 1) := by decide +kernel
abbrev rm_X12_nights : Room := { frames := 6, cells := 0, slots := 0, locals := 141 }
noncomputable def fX12_nights_b54 (o0 : Nat) (h : z_T) : Option (Int32 × z_T) :=
  y_gd (z_ok h o0 11) <|
  some (((-2 : Int32) - (z_I h o0 16)), h)
noncomputable def fX12_nights_b165 (o0 : Nat) (x1 : Int32) (h : z_T) : Option (Int32 × z_T) :=
  y_gd (z_ok h o0 11) <|
  y_bi (fX12_back o0 h) fun h3 =>
  some (x1, h3)
noncomputable def fX12_nights_b159 (o0 : Nat) (x1 : Int32) (x2 : Int32) (h : z_T) : Option ((Int32 × Int32 × z_T) ⊕ (Int32 × z_T)) :=
  y_nm (x2 + 1) fun v5 =>
  some (.inl (x1, v5, h))
noncomputable def fX12_nights_b108_i (o0 : Nat) (x1 : Int32) (x2 : Int32) (h : z_T) : Option ((Int32 × Int32 × z_T) ⊕ (Int32 × z_T)) :=
  y_gd (z_ok h o0 11) <|
  y_br ((z_I h o0 41) ≤ x2)
    (y_mp <|
    fX12_nights_b165 o0 x1 h)
    (y_br (0 ≤ x1)
      (y_mp <|
      fX12_nights_b165 o0 x1 h)
      (y_bi (z_R h o0 43) fun o11 =>
      y_bi (z_R h o0 8) fun o12 =>
      y_gd (z_ok h o12 13) <|
      y_gd (z_ix ((2 : Int32) * x2) (z_N h o12)) <|
      y_gd (z_ix (((2 : Int32) * x2) + (1 : Int32)) (z_N h o12)) <|
      y_bi (fX12_wrongIn o0 (z_I h o12 ((2 : Int32) * x2).toNatClampNeg) (z_I h o12 (((2 : Int32) * x2) + (1 : Int32)).toNatClampNeg) h) fun ⟨r17, h21⟩ =>
      y_gd (z_ok h21 o11 13) <|
      y_gd (z_ix (0 : Int32) (z_N h21 o11)) <|
      y_nm (z_sI h21 o11 (0 : Int32).toNatClampNeg r17) fun h24 =>
      y_gd (z_ok h24 o0 11) <|
      y_bi (z_R h24 o0 43) fun o26 =>
      y_gd (z_ok h24 o26 13) <|
      y_gd (z_ix (0 : Int32) (z_N h24 o26)) <|
      y_br ((z_I h24 o26 (0 : Int32).toNatClampNeg) ≤ 0)
        (fX12_nights_b159 o0 x1 x2 h24)
        (fX12_nights_b159 o0 x2 x2 h24)))
noncomputable def fX12_nights_b108 (o0 : Nat) (x1 : Int32) (x2 : Int32) (h : z_T) : Option (Int32 × z_T) := y_lp (fun q : Int32 × Int32 × z_T => fX12_nights_b108_i o0 q.1 q.2.1 q.2.2) (x1, x2, h)
noncomputable def fX12_nights_b81_i (o0 : Nat) (x1 : Int32) (h : z_T) : Option ((Int32 × z_T) ⊕ (Int32 × z_T)) :=
  y_br ((3 : Int32) ≤ x1)
    (y_mp <|
    y_gd (z_ok h o0 11) <|
    y_nm (z_sI h o0 44 (1 : Int32)) fun h33 =>
    fX12_nights_b108 o0 (-1 : Int32) (0 : Int32) h33)
    (y_gd (z_ok h o0 11) <|
    y_bi (z_R h o0 43) fun o35 =>
    y_gd (z_ok h o35 13) <|
    y_gd (z_ix x1 (z_N h o35)) <|
    y_nm (z_sI h o35 x1.toNatClampNeg (0 : Int32)) fun h38 =>
    y_nm (x1 + 1) fun v39 =>
    some (.inl (v39, h38)))
noncomputable def fX12_nights_b81 (o0 : Nat) (x1 : Int32) (h : z_T) : Option (Int32 × z_T) := y_lp (fun q : Int32 × z_T => fX12_nights_b81_i o0 q.1 q.2) (x1, h)
noncomputable def fX12_nights_b31_i (o0 : Nat) (h : z_T) : Option ((z_T) ⊕ (Int32 × z_T)) :=
  y_gd (z_ok h o0 11) <|
  y_br ((z_I h o0 11) = 0)
    (y_mp <|
    y_bi (fX12_tries o0 h) fun h44 =>
    fX12_nights_b81 o0 (0 : Int32) h44)
    (y_bi (fX12_nightLine o0 h) fun ⟨r46, h50⟩ =>
    y_br (r46 = 0)
      (y_mp <|
      fX12_nights_b54 o0 h50)
      (y_gd (z_ok h50 o0 11) <|
      y_bi (fX12_sign o0 (59 : Int32) h50) fun ⟨r54, h58⟩ =>
      y_br (r54 = 0)
        (y_mp <|
        fX12_nights_b54 o0 h58)
        (y_gd (z_ok h58 o0 11) <|
        y_nm (z_sI h58 o0 41 ((z_I h58 o0 41) + (1 : Int32))) fun h62 =>
        some (.inl (h62)))))
noncomputable def fX12_nights_b31 (o0 : Nat) (h : z_T) : Option (Int32 × z_T) := y_lp (fun q : z_T => fX12_nights_b31_i o0 q) (h)
noncomputable def fX12_nights (o0 : Nat) (h : z_T) : Option (Int32 × z_T) :=
  y_gd (z_ok h o0 11) <|
  y_nm (z_sI h o0 0 (0 : Int32)) fun h65 =>
  y_bi (fX12_taken o0 (400 : Int32) h65) fun h67 =>
  y_gd (z_ok h67 o0 11) <|
  y_nm (z_sI h67 o0 15 (0 : Int32)) fun h69 =>
  y_nm (z_sI h69 o0 41 (0 : Int32)) fun h70 =>
  y_nm (z_sI h70 o0 42 (0 : Int32)) fun h71 =>
  y_bi (fX12_go o0 h71) fun h73 =>
  fX12_nights_b31 o0 h73
set_option maxHeartbeats 4000000 in
set_option maxRecDepth 100000 in
theorem mm_X12_nights {G : z_Gt} {S : State → Prop} (hSK : z_SK S) (l : Launch) (ad : Nat → Nat) (o0 : Nat) (h : z_T) {r0 : Int32} {h9 : z_T} (hv : fX12_nights o0 h = some (r0, h9)) : z_Mi G S l yX12_nights cX12_nights 3 (.int) rm_X12_nights 0 0 [.ref (ad o0)] ad h h9 r0 := by
  refine z_ofW hSK (by decide) (Nat.le_of_ble_eq_true rfl) ?_
  intro p e s m args below meth c ls hc hr hnm hB hl
  have hx := hc.1.1
  have hb := hc.1.2.1
  have hown := hc.1.2.2.2.1
  have hts := hc.1.2.2.2.2
  replace hc : z_C G S ad (z_n h) p m c cX12_nights 3 s args RX12 meth := hc
  replace hown : s.vm.findClass RX12 = some m.cls := hown
  replace hl : lv_has ls 3 [(0, .ref (ad o0))] := hl
  show W p l e rm_X12_nights s m args below meth c s.heap [] 0 0 (MQ below (z_Qi G ad h9 (z_n h) s.heap.size r0) args s 0 0 (z_A ad (z_n h) s.heap.size)) (F0 m 0 ls [])
  obtain ⟨rs, kt⟩ : ∃ rs : Int32 × z_T, rs = (r0, h9) := ⟨_, rfl⟩
  generalize hn0 : z_n h = n0 at hc hB ⊢
  have b54 : ∀ (h : z_T) (H : Heap) (locs : List Loc) (ls : Array Slot), z_B G ad n0 s h H locs → lv_has ls 3 [(0, .ref (ad o0))] → ∀ w, fX12_nights_b54 o0 h = some w → w = (r0, h9) → W p l e rm_X12_nights s m args below meth c H locs 0 0 (MQ below (z_Qi G ad h9 n0 s.heap.size r0) args s 0 0 (z_A ad n0 s.heap.size)) (F0 m 54 ls []) := by
    intro h H locs ls hB hl w hv kb
    refine lv_bipush (v := (-2 : Int32)) hx hb dX12_nights_54 (by decide) ?_
    refine lv_aload_n hx hb dX12_nights_56 rfl (lv_at hl 0 rfl) ?_
    obtain ⟨g1, hv⟩ := y_gd_e hv
    refine z_getI hc hB 11 16 g1 (by decide) (by decide) rfl (z_l1 hc qfX12_176) dX12_nights_57 ?_
    refine lv_isub hx hb dX12_nights_60 ?_
    replace hv := Option.some.inj hv
    subst hv
    obtain ⟨e1, e2⟩ := y_pr kb
    rw [← e1, ← e2]
    exact z_iret hc hB hr dX12_nights_61
  have b165 : ∀ (x1 : Int32) (h : z_T) (H : Heap) (locs : List Loc) (ls : Array Slot), z_B G ad n0 s h H locs → lv_has ls 3 [(0, .ref (ad o0)), (1, .int x1)] → ∀ w, fX12_nights_b165 o0 x1 h = some w → w = (r0, h9) → W p l e rm_X12_nights s m args below meth c H locs 0 0 (MQ below (z_Qi G ad h9 n0 s.heap.size r0) args s 0 0 (z_A ad n0 s.heap.size)) (F0 m 165 ls []) := by
    intro x1 h H locs ls hB hl w hv kb
    refine lv_aload_n hx hb dX12_nights_165 rfl (lv_at hl 0 rfl) ?_
    obtain ⟨g4, hv⟩ := y_gd_e hv
    obtain ⟨h3, c2, hv⟩ := y_bi_e hv
    refine z_thV hc hB (z_runV hc hB 11 (mm_X12_back hSK l ad o0 h c2) md_X12_back qmX12_409 g4 (by decide) rfl rfl rfl ⟨Nat.le_of_ble_eq_true rfl, Nat.le_of_ble_eq_true rfl⟩ rfl hl.1 rfl (Nat.le_of_ble_eq_true rfl) dX12_nights_166 ⟨Nat.le_of_ble_eq_true rfl, Nat.le_of_ble_eq_true rfl⟩) (fun H locs hB => ?_)
    refine lv_iload_n hx hb dX12_nights_169 rfl (lv_at hl 1 rfl) ?_
    replace hv := Option.some.inj hv
    subst hv
    obtain ⟨e1, e2⟩ := y_pr kb
    rw [← e1, ← e2]
    exact z_iret hc hB hr dX12_nights_170
  have L108 : ∀ (nn108 : Nat) (x1 : Int32) (x2 : Int32) (h : z_T) (H : Heap) (locs : List Loc) (ls : Array Slot), z_B G ad n0 s h H locs → lv_has ls 3 [(0, .ref (ad o0)), (1, .int x1), (2, .int x2)] → ∀ vv108, y_lpN (fun q : Int32 × Int32 × z_T => fX12_nights_b108_i o0 q.1 q.2.1 q.2.2) nn108 (x1, x2, h) = some vv108 → vv108 = (r0, h9) → W p l e rm_X12_nights s m args below meth c H locs 0 0 (MQ below (z_Qi G ad h9 n0 s.heap.size r0) args s 0 0 (z_A ad n0 s.heap.size)) (F0 m 108 ls []) := by
    intro nn108
    induction nn108 with
    | zero => intro x1 x2 h H locs ls hB hl vv108 hv kv108; exact absurd hv (fun q => y_lpN_0 q)
    | succ nn108 ih108 =>
      intro x1 x2 h H locs ls hB hl vv108 hv kv108
      obtain ⟨w, hq, kw108⟩ := y_lpN_e hv
      clear hv
      have hv : fX12_nights_b108_i o0 x1 x2 h = some w := hq
      clear hq
      have b159 : ∀ (x1 : Int32) (x2 : Int32) (h : z_T) (H : Heap) (locs : List Loc) (ls : Array Slot), z_B G ad n0 s h H locs → lv_has ls 3 [(0, .ref (ad o0)), (1, .int x1), (2, .int x2)] → ∀ w, fX12_nights_b159 o0 x1 x2 h = some w → y_lq (fun q : Int32 × Int32 × z_T => fX12_nights_b108_i o0 q.1 q.2.1 q.2.2) nn108 vv108 w → W p l e rm_X12_nights s m args below meth c H locs 0 0 (MQ below (z_Qi G ad h9 n0 s.heap.size r0) args s 0 0 (z_A ad n0 s.heap.size)) (F0 m 159 ls []) := by
        intro x1 x2 h H locs ls hB hl w hv kw108
        obtain ⟨v5, ev5, hv⟩ := y_nm_e hv
        refine lv_iinc (v := v5) (lv' := [(2, .int v5), (0, .ref (ad o0)), (1, .int x1)]) hx hb dX12_nights_159 hl (k := 2) rfl (by rw [ev5]; rfl) (by decide) rfl (fun ls hl => ?_)
        refine lv_goto (tgt := 108) hx hb dX12_nights_162 (by decide) ?_
        replace hv := Option.some.inj hv
        subst hv
        exact ih108 x1 v5 h _ _ _ hB (lv_sub hl [1, 2, 0] rfl) _ kw108 kv108
      refine lv_iload_n hx hb dX12_nights_108 rfl (lv_at hl 2 rfl) ?_
      refine lv_aload_n hx hb dX12_nights_109 rfl (lv_at hl 0 rfl) ?_
      obtain ⟨g6, hv⟩ := y_gd_e hv
      refine z_getI hc hB 11 41 g6 (by decide) (by decide) rfl (z_l1 hc qfX12_384) dX12_nights_110 ?_
      refine lv_icmp_ge (tgt := 165) hx hb dX12_nights_113 (by decide) (fun c7 => ?_) (fun c7 => ?_)
      · replace hv := y_br_t hv c7
        obtain ⟨t8, hq, ew⟩ := y_mp_e hv
        clear hv; subst ew
        replace kw108 : t8 = _ := kw108
        subst kw108
        have hv := hq
        clear hq
        exact b165 x1 h _ _ _ hB (lv_sub hl [0, 1] rfl) _ hv kv108
      · replace hv := y_br_f hv c7
        refine lv_iload_n hx hb dX12_nights_116 rfl (lv_at hl 1 rfl) ?_
        refine lv_if_ge (tgt := 165) hx hb dX12_nights_117 (by decide) (fun c9 => ?_) (fun c9 => ?_)
        · replace hv := y_br_t hv c9
          obtain ⟨t10, hq, ew⟩ := y_mp_e hv
          clear hv; subst ew
          replace kw108 : t10 = _ := kw108
          subst kw108
          have hv := hq
          clear hq
          exact b165 x1 h _ _ _ hB (lv_sub hl [0, 1] rfl) _ hv kv108
        · replace hv := y_br_f hv c9
          refine lv_aload_n hx hb dX12_nights_120 rfl (lv_at hl 0 rfl) ?_
          obtain ⟨o11, eo11, hv⟩ := y_bi_e hv
          refine z_getR hc hB 11 43 g6 eo11 (by decide) (by decide) rfl (z_l1 hc qfX12_80) dX12_nights_121 ?_
          refine lv_iconst (v := (0 : Int32)) hx hb dX12_nights_124 (by decide) ?_
          refine lv_aload_n hx hb dX12_nights_125 rfl (lv_at hl 0 rfl) ?_
          refine lv_aload_n hx hb dX12_nights_126 rfl (lv_at hl 0 rfl) ?_
          obtain ⟨o12, eo12, hv⟩ := y_bi_e hv
          refine z_getR hc hB 11 8 g6 eo12 (by decide) (by decide) rfl (z_l1 hc qfX12_40) dX12_nights_127 ?_
          refine lv_iconst (v := (2 : Int32)) hx hb dX12_nights_130 (by decide) ?_
          refine lv_iload_n hx hb dX12_nights_131 rfl (lv_at hl 2 rfl) ?_
          refine lv_imul hx hb dX12_nights_132 ?_
          obtain ⟨g13, hv⟩ := y_gd_e hv
          obtain ⟨i14, hv⟩ := y_gd_e hv
          refine z_iald hc hB g13 i14 dX12_nights_133 ?_
          refine lv_aload_n hx hb dX12_nights_134 rfl (lv_at hl 0 rfl) ?_
          refine z_getR hc hB 11 8 g6 eo12 (by decide) (by decide) rfl (z_l1 hc qfX12_40) dX12_nights_135 ?_
          refine lv_iconst (v := (2 : Int32)) hx hb dX12_nights_138 (by decide) ?_
          refine lv_iload_n hx hb dX12_nights_139 rfl (lv_at hl 2 rfl) ?_
          refine lv_imul hx hb dX12_nights_140 ?_
          refine lv_iconst (v := (1 : Int32)) hx hb dX12_nights_141 (by decide) ?_
          refine lv_iadd hx hb dX12_nights_142 ?_
          obtain ⟨i15, hv⟩ := y_gd_e hv
          refine z_iald hc hB g13 i15 dX12_nights_143 ?_
          obtain ⟨⟨r17, h21⟩, c16, hv⟩ := y_bi_e hv
          refine z_thI hc hB (z_runV hc hB 11 (mm_X12_wrongIn hSK l ad o0 (z_I h o12 ((2 : Int32) * x2).toNatClampNeg) (z_I h o12 (((2 : Int32) * x2) + (1 : Int32)).toNatClampNeg) h c16) md_X12_wrongIn qmX12_406 g6 (by decide) rfl rfl rfl ⟨Nat.le_of_ble_eq_true rfl, Nat.le_of_ble_eq_true rfl⟩ rfl hl.1 rfl (Nat.le_of_ble_eq_true rfl) dX12_nights_144 ⟨Nat.le_of_ble_eq_true rfl, Nat.le_of_ble_eq_true rfl⟩) (fun H locs hB => ?_)
          obtain ⟨g22, hv⟩ := y_gd_e hv
          obtain ⟨i23, hv⟩ := y_gd_e hv
          obtain ⟨h24, eh24, hv⟩ := y_nm_e hv
          refine y_iast hc hB eh24 g22 i23 dX12_nights_147 (fun H locs hB => ?_)
          refine lv_aload_n hx hb dX12_nights_148 rfl (lv_at hl 0 rfl) ?_
          obtain ⟨g25, hv⟩ := y_gd_e hv
          obtain ⟨o26, eo26, hv⟩ := y_bi_e hv
          refine z_getR hc hB 11 43 g25 eo26 (by decide) (by decide) rfl (z_l1 hc qfX12_80) dX12_nights_149 ?_
          refine lv_iconst (v := (0 : Int32)) hx hb dX12_nights_152 (by decide) ?_
          obtain ⟨g27, hv⟩ := y_gd_e hv
          obtain ⟨i28, hv⟩ := y_gd_e hv
          refine z_iald hc hB g27 i28 dX12_nights_153 ?_
          refine lv_if_le (tgt := 159) hx hb dX12_nights_154 (by decide) (fun c29 => ?_) (fun c29 => ?_)
          · replace hv := y_br_t hv c29
            exact b159 x1 x2 h24 _ _ _ hB (lv_sub hl [0, 1, 2] rfl) _ hv kw108
          · replace hv := y_br_f hv c29
            refine lv_iload_n hx hb dX12_nights_157 rfl (lv_at hl 2 rfl) ?_
            refine lv_istore_n (lv' := [(1, .int x2), (0, .ref (ad o0)), (2, .int x2)]) hx hb dX12_nights_158 rfl hl (by decide) rfl (fun ls hl => ?_)
            exact b159 x2 x2 h24 _ _ _ hB (lv_sub hl [1, 0, 2] rfl) _ hv kw108
  have L81 : ∀ (nn81 : Nat) (x1 : Int32) (h : z_T) (H : Heap) (locs : List Loc) (ls : Array Slot), z_B G ad n0 s h H locs → lv_has ls 3 [(0, .ref (ad o0)), (1, .int x1)] → ∀ vv81, y_lpN (fun q : Int32 × z_T => fX12_nights_b81_i o0 q.1 q.2) nn81 (x1, h) = some vv81 → vv81 = (r0, h9) → W p l e rm_X12_nights s m args below meth c H locs 0 0 (MQ below (z_Qi G ad h9 n0 s.heap.size r0) args s 0 0 (z_A ad n0 s.heap.size)) (F0 m 81 ls []) := by
    intro nn81
    induction nn81 with
    | zero => intro x1 h H locs ls hB hl vv81 hv kv81; exact absurd hv (fun q => y_lpN_0 q)
    | succ nn81 ih81 =>
      intro x1 h H locs ls hB hl vv81 hv kv81
      obtain ⟨w, hq, kw81⟩ := y_lpN_e hv
      clear hv
      have hv : fX12_nights_b81_i o0 x1 h = some w := hq
      clear hq
      refine lv_iload_n hx hb dX12_nights_81 rfl (lv_at hl 1 rfl) ?_
      refine lv_iconst (v := (3 : Int32)) hx hb dX12_nights_82 (by decide) ?_
      refine lv_icmp_ge (tgt := 99) hx hb dX12_nights_83 (by decide) (fun c30 => ?_) (fun c30 => ?_)
      · replace hv := y_br_t hv c30
        obtain ⟨t31, hq, ew⟩ := y_mp_e hv
        clear hv; subst ew
        replace kw81 : t31 = _ := kw81
        subst kw81
        have hv := hq
        clear hq
        refine lv_aload_n hx hb dX12_nights_99 rfl (lv_at hl 0 rfl) ?_
        refine lv_iconst (v := (1 : Int32)) hx hb dX12_nights_100 (by decide) ?_
        obtain ⟨g32, hv⟩ := y_gd_e hv
        obtain ⟨h33, eh33, hv⟩ := y_nm_e hv
        refine y_putI hc hB 11 44 eh33 g32 (z_l1 hc qfX12_402) dX12_nights_101 (by decide) (by decide) rfl rfl rfl rfl (fun H locs hB => ?_)
        refine lv_iconst (v := (-1 : Int32)) hx hb dX12_nights_104 (by decide) ?_
        refine lv_istore_n (lv' := [(1, .int (-1 : Int32)), (0, .ref (ad o0))]) hx hb dX12_nights_105 rfl hl (by decide) rfl (fun ls hl => ?_)
        refine lv_iconst (v := (0 : Int32)) hx hb dX12_nights_106 (by decide) ?_
        refine lv_istore_n (lv' := [(2, .int (0 : Int32)), (1, .int (-1 : Int32)), (0, .ref (ad o0))]) hx hb dX12_nights_107 rfl hl (by decide) rfl (fun ls hl => ?_)
        obtain ⟨n, hv⟩ := y_lp_e hv
        exact L108 n (-1 : Int32) (0 : Int32) h33 _ _ _ hB (lv_sub hl [2, 1, 0] rfl) _ hv kv81
      · replace hv := y_br_f hv c30
        refine lv_aload_n hx hb dX12_nights_86 rfl (lv_at hl 0 rfl) ?_
        obtain ⟨g34, hv⟩ := y_gd_e hv
        obtain ⟨o35, eo35, hv⟩ := y_bi_e hv
        refine z_getR hc hB 11 43 g34 eo35 (by decide) (by decide) rfl (z_l1 hc qfX12_80) dX12_nights_87 ?_
        refine lv_iload_n hx hb dX12_nights_90 rfl (lv_at hl 1 rfl) ?_
        refine lv_iconst (v := (0 : Int32)) hx hb dX12_nights_91 (by decide) ?_
        obtain ⟨g36, hv⟩ := y_gd_e hv
        obtain ⟨i37, hv⟩ := y_gd_e hv
        obtain ⟨h38, eh38, hv⟩ := y_nm_e hv
        refine y_iast hc hB eh38 g36 i37 dX12_nights_92 (fun H locs hB => ?_)
        obtain ⟨v39, ev39, hv⟩ := y_nm_e hv
        refine lv_iinc (v := v39) (lv' := [(1, .int v39), (0, .ref (ad o0))]) hx hb dX12_nights_93 hl (k := 1) rfl (by rw [ev39]; rfl) (by decide) rfl (fun ls hl => ?_)
        refine lv_goto (tgt := 81) hx hb dX12_nights_96 (by decide) ?_
        replace hv := Option.some.inj hv
        subst hv
        exact ih81 v39 h38 _ _ _ hB (lv_sub hl [1, 0] rfl) _ kw81 kv81
  have L31 : ∀ (nn31 : Nat) (h : z_T) (H : Heap) (locs : List Loc) (ls : Array Slot), z_B G ad n0 s h H locs → lv_has ls 3 [(0, .ref (ad o0))] → ∀ vv31, y_lpN (fun q : z_T => fX12_nights_b31_i o0 q) nn31 (h) = some vv31 → vv31 = (r0, h9) → W p l e rm_X12_nights s m args below meth c H locs 0 0 (MQ below (z_Qi G ad h9 n0 s.heap.size r0) args s 0 0 (z_A ad n0 s.heap.size)) (F0 m 31 ls []) := by
    intro nn31
    induction nn31 with
    | zero => intro h H locs ls hB hl vv31 hv kv31; exact absurd hv (fun q => y_lpN_0 q)
    | succ nn31 ih31 =>
      intro h H locs ls hB hl vv31 hv kv31
      obtain ⟨w, hq, kw31⟩ := y_lpN_e hv
      clear hv
      have hv : fX12_nights_b31_i o0 h = some w := hq
      clear hq
      refine lv_aload_n hx hb dX12_nights_31 rfl (lv_at hl 0 rfl) ?_
      obtain ⟨g40, hv⟩ := y_gd_e hv
      refine z_getI hc hB 11 11 g40 (by decide) (by decide) rfl (z_l1 hc qfX12_156) dX12_nights_32 ?_
      refine lv_if_eq (tgt := 75) hx hb dX12_nights_35 (by decide) (fun c41 => ?_) (fun c41 => ?_)
      · replace hv := y_br_t hv c41
        obtain ⟨t42, hq, ew⟩ := y_mp_e hv
        clear hv; subst ew
        replace kw31 : t42 = _ := kw31
        subst kw31
        have hv := hq
        clear hq
        refine lv_aload_n hx hb dX12_nights_75 rfl (lv_at hl 0 rfl) ?_
        obtain ⟨h44, c43, hv⟩ := y_bi_e hv
        refine z_thV hc hB (z_runV hc hB 11 (mm_X12_tries hSK l ad o0 h c43) md_X12_tries qmX12_399 g40 (by decide) rfl rfl rfl ⟨Nat.le_of_ble_eq_true rfl, Nat.le_of_ble_eq_true rfl⟩ rfl hl.1 rfl (Nat.le_of_ble_eq_true rfl) dX12_nights_76 ⟨Nat.le_of_ble_eq_true rfl, Nat.le_of_ble_eq_true rfl⟩) (fun H locs hB => ?_)
        refine lv_iconst (v := (0 : Int32)) hx hb dX12_nights_79 (by decide) ?_
        refine lv_istore_n (lv' := [(1, .int (0 : Int32)), (0, .ref (ad o0))]) hx hb dX12_nights_80 rfl hl (by decide) rfl (fun ls hl => ?_)
        obtain ⟨n, hv⟩ := y_lp_e hv
        exact L81 n (0 : Int32) h44 _ _ _ hB (lv_sub hl [1, 0] rfl) _ hv kv31
      · replace hv := y_br_f hv c41
        refine lv_aload_n hx hb dX12_nights_38 rfl (lv_at hl 0 rfl) ?_
        obtain ⟨⟨r46, h50⟩, c45, hv⟩ := y_bi_e hv
        refine z_thI hc hB (z_runV hc hB 11 (mm_X12_nightLine hSK l ad o0 h c45) md_X12_nightLine qmX12_396 g40 (by decide) rfl rfl rfl ⟨Nat.le_of_ble_eq_true rfl, Nat.le_of_ble_eq_true rfl⟩ rfl hl.1 rfl (Nat.le_of_ble_eq_true rfl) dX12_nights_39 ⟨Nat.le_of_ble_eq_true rfl, Nat.le_of_ble_eq_true rfl⟩) (fun H locs hB => ?_)
        refine lv_if_eq (tgt := 54) hx hb dX12_nights_42 (by decide) (fun c51 => ?_) (fun c51 => ?_)
        · replace hv := y_br_t hv c51
          obtain ⟨t52, hq, ew⟩ := y_mp_e hv
          clear hv; subst ew
          replace kw31 : t52 = _ := kw31
          subst kw31
          have hv := hq
          clear hq
          exact b54 h50 _ _ _ hB (lv_sub hl [0] rfl) _ hv kv31
        · replace hv := y_br_f hv c51
          refine lv_aload_n hx hb dX12_nights_45 rfl (lv_at hl 0 rfl) ?_
          refine lv_bipush (v := (59 : Int32)) hx hb dX12_nights_46 (by decide) ?_
          obtain ⟨g59, hv⟩ := y_gd_e hv
          obtain ⟨⟨r54, h58⟩, c53, hv⟩ := y_bi_e hv
          refine z_thI hc hB (z_runV hc hB 11 (mm_X12_sign hSK l ad o0 (59 : Int32) h50 c53) md_X12_sign qmX12_235 g59 (by decide) rfl rfl rfl ⟨Nat.le_of_ble_eq_true rfl, Nat.le_of_ble_eq_true rfl⟩ rfl hl.1 rfl (Nat.le_of_ble_eq_true rfl) dX12_nights_48 ⟨Nat.le_of_ble_eq_true rfl, Nat.le_of_ble_eq_true rfl⟩) (fun H locs hB => ?_)
          refine lv_if_ne (tgt := 62) hx hb dX12_nights_51 (by decide) (fun c60 => ?_) (fun c60 => ?_)
          · replace hv := y_br_f hv c60
            refine lv_aload_n hx hb dX12_nights_62 rfl (lv_at hl 0 rfl) ?_
            refine lv_dup hx hb dX12_nights_63 rfl ?_
            obtain ⟨g61, hv⟩ := y_gd_e hv
            refine z_getI hc hB 11 41 g61 (by decide) (by decide) rfl (z_l1 hc qfX12_384) dX12_nights_64 ?_
            refine lv_iconst (v := (1 : Int32)) hx hb dX12_nights_67 (by decide) ?_
            refine lv_iadd hx hb dX12_nights_68 ?_
            obtain ⟨h62, eh62, hv⟩ := y_nm_e hv
            refine y_putI hc hB 11 41 eh62 g61 (z_l1 hc qfX12_384) dX12_nights_69 (by decide) (by decide) rfl rfl rfl rfl (fun H locs hB => ?_)
            refine lv_goto (tgt := 31) hx hb dX12_nights_72 (by decide) ?_
            replace hv := Option.some.inj hv
            subst hv
            exact ih31 h62 _ _ _ hB (lv_sub hl [0] rfl) _ kw31 kv31
          · replace hv := y_br_t hv c60
            obtain ⟨t63, hq, ew⟩ := y_mp_e hv
            clear hv; subst ew
            replace kw31 : t63 = _ := kw31
            subst kw31
            have hv := hq
            clear hq
            exact b54 h58 _ _ _ hB (lv_sub hl [0] rfl) _ hv kv31
  rw [← kt] at hv
  refine lv_aload_n hx hb dX12_nights_0 rfl (lv_at hl 0 rfl) ?_
  refine lv_iconst (v := (0 : Int32)) hx hb dX12_nights_1 (by decide) ?_
  obtain ⟨g64, hv⟩ := y_gd_e hv
  obtain ⟨h65, eh65, hv⟩ := y_nm_e hv
  refine y_putI hc hB 11 0 eh65 g64 (z_l1 hc qfX12_1) dX12_nights_2 (by decide) (by decide) rfl rfl rfl rfl (fun H locs hB => ?_)
  refine lv_aload_n hx hb dX12_nights_5 rfl (lv_at hl 0 rfl) ?_
  refine lv_sipush (v := (400 : Int32)) hx hb dX12_nights_6 (by decide) ?_
  obtain ⟨h67, c66, hv⟩ := y_bi_e hv
  refine z_thV hc hB (z_runV hc hB 11 (mm_X12_taken hSK l ad o0 (400 : Int32) h65 c66) md_X12_taken qmX12_226 (by rw [eh65]; exact g64) (by decide) rfl rfl rfl ⟨Nat.le_of_ble_eq_true rfl, Nat.le_of_ble_eq_true rfl⟩ rfl hl.1 rfl (Nat.le_of_ble_eq_true rfl) dX12_nights_9 ⟨Nat.le_of_ble_eq_true rfl, Nat.le_of_ble_eq_true rfl⟩) (fun H locs hB => ?_)
  refine lv_aload_n hx hb dX12_nights_12 rfl (lv_at hl 0 rfl) ?_
  refine lv_iconst (v := (0 : Int32)) hx hb dX12_nights_13 (by decide) ?_
  obtain ⟨g68, hv⟩ := y_gd_e hv
  obtain ⟨h69, eh69, hv⟩ := y_nm_e hv
  refine y_putI hc hB 11 15 eh69 g68 (z_l1 hc qfX12_173) dX12_nights_14 (by decide) (by decide) rfl rfl rfl rfl (fun H locs hB => ?_)
  refine lv_aload_n hx hb dX12_nights_17 rfl (lv_at hl 0 rfl) ?_
  refine lv_iconst (v := (0 : Int32)) hx hb dX12_nights_18 (by decide) ?_
  obtain ⟨h70, eh70, hv⟩ := y_nm_e hv
  refine y_putI hc hB 11 41 eh70 (by rw [eh69]; exact g68) (z_l1 hc qfX12_384) dX12_nights_19 (by decide) (by decide) rfl rfl rfl rfl (fun H locs hB => ?_)
  refine lv_aload_n hx hb dX12_nights_22 rfl (lv_at hl 0 rfl) ?_
  refine lv_iconst (v := (0 : Int32)) hx hb dX12_nights_23 (by decide) ?_
  obtain ⟨h71, eh71, hv⟩ := y_nm_e hv
  refine y_putI hc hB 11 42 eh71 (by rw [eh70, eh69]; exact g68) (z_l1 hc qfX12_387) dX12_nights_24 (by decide) (by decide) rfl rfl rfl rfl (fun H locs hB => ?_)
  refine lv_aload_n hx hb dX12_nights_27 rfl (lv_at hl 0 rfl) ?_
  obtain ⟨h73, c72, hv⟩ := y_bi_e hv
  refine z_thV hc hB (z_runV hc hB 11 (mm_X12_go hSK l ad o0 h71 c72) md_X12_go qmX12_185 (by rw [eh71, eh70, eh69]; exact g68) (by decide) rfl rfl rfl ⟨Nat.le_of_ble_eq_true rfl, Nat.le_of_ble_eq_true rfl⟩ rfl hl.1 rfl (Nat.le_of_ble_eq_true rfl) dX12_nights_28 ⟨Nat.le_of_ble_eq_true rfl, Nat.le_of_ble_eq_true rfl⟩) (fun H locs hB => ?_)
  obtain ⟨n, hv⟩ := y_lp_e hv
  exact L31 n h73 _ _ _ hB (lv_sub hl [0] rfl) _ hv kt
theorem dX12_judged_0 : decode cX12_judged 0 = .ok (.aload_n 0, 1) := by decide +kernel
theorem dX12_judged_1 : decode cX12_judged 1 = .ok (.iconst 0, 1) := by decide +kernel
theorem dX12_judged_2 : decode cX12_judged 2 = .ok (.putfield 1, 3) := by decide +kernel
theorem dX12_judged_5 : decode cX12_judged 5 = .ok (.aload_n 0, 1) := by decide +kernel
theorem dX12_judged_6 : decode cX12_judged 6 = .ok (.getfield 402, 3) := by decide +kernel
theorem dX12_judged_9 : decode cX12_judged 9 = .ok (.ifCond .eq 21, 3) := by decide +kernel
theorem dX12_judged_12 : decode cX12_judged 12 = .ok (.iload_n 1, 1) := by decide +kernel
theorem dX12_judged_13 : decode cX12_judged 13 = .ok (.iconst 0, 1) := by decide +kernel
theorem dX12_judged_14 : decode cX12_judged 14 = .ok (.iconst 2, 1) := by decide +kernel
theorem dX12_judged_15 : decode cX12_judged 15 = .ok (.invokestatic 188, 3) := by decide +kernel
theorem dX12_judged_18 : decode cX12_judged 18 = .ok (.ifCond .eq 12, 3) := by decide +kernel
theorem dX12_judged_21 : decode cX12_judged 21 = .ok (.aload_n 0, 1) := by decide +kernel
theorem dX12_judged_22 : decode cX12_judged 22 = .ok (.getfield 80, 3) := by decide +kernel
theorem dX12_judged_25 : decode cX12_judged 25 = .ok (.iload_n 1, 1) := by decide +kernel
theorem dX12_judged_26 : decode cX12_judged 26 = .ok (.iaload, 1) := by decide +kernel
theorem dX12_judged_27 : decode cX12_judged 27 = .ok (.goto 4, 3) := by decide +kernel
theorem dX12_judged_30 : decode cX12_judged 30 = .ok (.iconst (-1), 1) := by decide +kernel
theorem dX12_judged_31 : decode cX12_judged 31 = .ok (.ireturn, 1) := by decide +kernel
abbrev rm_X12_judged : Room := { frames := 1, cells := 0, slots := 0, locals := 22 }
noncomputable def fX12_judged_b30  (h : z_T) : Option (Int32 × z_T) :=
  some ((-1 : Int32), h)
noncomputable def fX12_judged (o0 : Nat) (x1 : Int32) (h : z_T) : Option (Int32 × z_T) :=
  y_gd (z_ok h o0 11) <|
  y_nm (z_sI h o0 0 (0 : Int32)) fun h2 =>
  y_br ((z_I h2 o0 44) = 0)
    (fX12_judged_b30 h2)
    (y_bi (fX12_isIn x1 (0 : Int32) (2 : Int32)) fun r5 =>
    y_br (r5 = 0)
      (fX12_judged_b30 h2)
      (y_bi (z_R h2 o0 43) fun o10 =>
      y_gd (z_ok h2 o10 13) <|
      y_gd (z_ix x1 (z_N h2 o10)) <|
      some ((z_I h2 o10 x1.toNatClampNeg), h2)))
set_option maxHeartbeats 4000000 in
set_option maxRecDepth 100000 in
theorem mm_X12_judged {G : z_Gt} {S : State → Prop} (hSK : z_SK S) (l : Launch) (ad : Nat → Nat) (o0 : Nat) (x1 : Int32) (h : z_T) {r0 : Int32} {h9 : z_T} (hv : fX12_judged o0 x1 h = some (r0, h9)) : z_Mi G S l yX12_judged cX12_judged 2 (.int) rm_X12_judged 0 0 [.ref (ad o0), .int x1] ad h h9 r0 := by
  refine z_ofW hSK (by decide) (Nat.le_of_ble_eq_true rfl) ?_
  intro p e s m args below meth c ls hc hr hnm hB hl
  have hx := hc.1.1
  have hb := hc.1.2.1
  have hown := hc.1.2.2.2.1
  have hts := hc.1.2.2.2.2
  replace hc : z_C G S ad (z_n h) p m c cX12_judged 2 s args RX12 meth := hc
  replace hown : s.vm.findClass RX12 = some m.cls := hown
  replace hl : lv_has ls 2 [(0, .ref (ad o0)), (1, .int x1)] := hl
  show W p l e rm_X12_judged s m args below meth c s.heap [] 0 0 (MQ below (z_Qi G ad h9 (z_n h) s.heap.size r0) args s 0 0 (z_A ad (z_n h) s.heap.size)) (F0 m 0 ls [])
  obtain ⟨rs, kt⟩ : ∃ rs : Int32 × z_T, rs = (r0, h9) := ⟨_, rfl⟩
  generalize hn0 : z_n h = n0 at hc hB ⊢
  have b30 : ∀ (h : z_T) (H : Heap) (locs : List Loc) (ls : Array Slot), z_B G ad n0 s h H locs → lv_has ls 2 [] → ∀ w, fX12_judged_b30 h = some w → w = (r0, h9) → W p l e rm_X12_judged s m args below meth c H locs 0 0 (MQ below (z_Qi G ad h9 n0 s.heap.size r0) args s 0 0 (z_A ad n0 s.heap.size)) (F0 m 30 ls []) := by
    intro h H locs ls hB hl w hv kb
    refine lv_iconst (v := (-1 : Int32)) hx hb dX12_judged_30 (by decide) ?_
    replace hv := Option.some.inj hv
    subst hv
    obtain ⟨e1, e2⟩ := y_pr kb
    rw [← e1, ← e2]
    exact z_iret hc hB hr dX12_judged_31
  rw [← kt] at hv
  refine lv_aload_n hx hb dX12_judged_0 rfl (lv_at hl 0 rfl) ?_
  refine lv_iconst (v := (0 : Int32)) hx hb dX12_judged_1 (by decide) ?_
  obtain ⟨g1, hv⟩ := y_gd_e hv
  obtain ⟨h2, eh2, hv⟩ := y_nm_e hv
  refine y_putI hc hB 11 0 eh2 g1 (z_l1 hc qfX12_1) dX12_judged_2 (by decide) (by decide) rfl rfl rfl rfl (fun H locs hB => ?_)
  refine lv_aload_n hx hb dX12_judged_5 rfl (lv_at hl 0 rfl) ?_
  refine z_getI hc hB 11 44 (by rw [eh2]; exact g1) (by decide) (by decide) rfl (z_l1 hc qfX12_402) dX12_judged_6 ?_
  refine lv_if_eq (tgt := 30) hx hb dX12_judged_9 (by decide) (fun c3 => ?_) (fun c3 => ?_)
  · replace hv := y_br_t hv c3
    exact b30 h2 _ _ _ hB (lv_sub hl [] rfl) _ hv kt
  · replace hv := y_br_f hv c3
    refine lv_iload_n hx hb dX12_judged_12 rfl (lv_at hl 1 rfl) ?_
    refine lv_iconst (v := (0 : Int32)) hx hb dX12_judged_13 (by decide) ?_
    refine lv_iconst (v := (2 : Int32)) hx hb dX12_judged_14 (by decide) ?_
    obtain ⟨r5, c4, hv⟩ := y_bi_e hv
    refine z_thI hc hB (z_runS hc hB (mm_X12_isIn hSK l ad x1 (0 : Int32) (2 : Int32) h2 c4) md_X12_isIn qmX12_188 rfl rfl ⟨Nat.le_of_ble_eq_true rfl, Nat.le_of_ble_eq_true rfl⟩ rfl hl.1 rfl (Nat.le_of_ble_eq_true rfl) dX12_judged_15 ⟨Nat.le_of_ble_eq_true rfl, Nat.le_of_ble_eq_true rfl⟩) (fun H locs hB => ?_)
    refine lv_if_eq (tgt := 30) hx hb dX12_judged_18 (by decide) (fun c9 => ?_) (fun c9 => ?_)
    · replace hv := y_br_t hv c9
      exact b30 h2 _ _ _ hB (lv_sub hl [] rfl) _ hv kt
    · replace hv := y_br_f hv c9
      refine lv_aload_n hx hb dX12_judged_21 rfl (lv_at hl 0 rfl) ?_
      obtain ⟨o10, eo10, hv⟩ := y_bi_e hv
      refine z_getR hc hB 11 43 (by rw [eh2]; exact g1) eo10 (by decide) (by decide) rfl (z_l1 hc qfX12_80) dX12_judged_22 ?_
      refine lv_iload_n hx hb dX12_judged_25 rfl (lv_at hl 1 rfl) ?_
      obtain ⟨g11, hv⟩ := y_gd_e hv
      obtain ⟨i12, hv⟩ := y_gd_e hv
      refine z_iald hc hB g11 i12 dX12_judged_26 ?_
      refine lv_goto (tgt := 31) hx hb dX12_judged_27 (by decide) ?_
      replace hv := Option.some.inj hv
      subst hv
      obtain ⟨e1, e2⟩ := y_pr kt
      rw [← e1, ← e2]
      exact z_iret hc hB hr dX12_judged_31
theorem qfX12_412 : Cond.fieldLink RX12 412 "DreamTestsModel" "seed" "I" ∈ z_ws := List.mem_filter.mpr ⟨List.mem_append_right _ (List.mem_of_getElem? (i := 1346) (by decide +kernel)), rfl⟩
theorem qkX12_415 : Cond.constant RX12 415 (1103515245 : Int32) ∈ z_ws := List.mem_filter.mpr ⟨List.mem_append_right _ (List.mem_of_getElem? (i := 1850) (by decide +kernel)), rfl⟩
theorem dX12_draw_0 : decode cX12_draw 0 = .ok (.aload_n 0, 1) := by decide +kernel
theorem dX12_draw_1 : decode cX12_draw 1 = .ok (.aload_n 0, 1) := by decide +kernel
theorem dX12_draw_2 : decode cX12_draw 2 = .ok (.getfield 412, 3) := by decide +kernel
theorem dX12_draw_5 : decode cX12_draw 5 = .ok (.ldc_w 415, 3) := by decide +kernel
theorem dX12_draw_8 : decode cX12_draw 8 = .ok (.imul, 1) := by decide +kernel
theorem dX12_draw_9 : decode cX12_draw 9 = .ok (.sipush 12345, 3) := by decide +kernel
theorem dX12_draw_12 : decode cX12_draw 12 = .ok (.iadd, 1) := by decide +kernel
theorem dX12_draw_13 : decode cX12_draw 13 = .ok (.putfield 412, 3) := by decide +kernel
theorem dX12_draw_16 : decode cX12_draw 16 = .ok (.aload_n 0, 1) := by decide +kernel
theorem dX12_draw_17 : decode cX12_draw 17 = .ok (.getfield 412, 3) := by decide +kernel
theorem dX12_draw_20 : decode cX12_draw 20 = .ok (.bipush 8, 2) := by decide +kernel
theorem dX12_draw_22 : decode cX12_draw 22 = .ok (.iushr, 1) := by decide +kernel
theorem dX12_draw_23 : decode cX12_draw 23 = .ok (.iload_n 1, 1) := by decide +kernel
theorem dX12_draw_24 : decode cX12_draw 24 = .ok (.irem, 1) := by decide +kernel
theorem dX12_draw_25 : decode cX12_draw 25 = .ok (.ireturn, 1) := by decide +kernel
abbrev rm_X12_draw : Room := { frames := 0, cells := 0, slots := 0, locals := 0 }
noncomputable def fX12_draw (o0 : Nat) (x1 : Int32) (h : z_T) : Option (Int32 × z_T) :=
  y_gd (z_ok h o0 11) <|
  y_nm (z_sI h o0 46 (((z_I h o0 46) * (1103515245 : Int32)) + (12345 : Int32))) fun h2 =>
  y_gd (!decide (x1 = 0)) <|
  some (((((z_I h2 o0 46)).toUInt32 >>> (((8 : Int32)).toUInt32 &&& Int32.toUInt32 31)).toInt32 - (((z_I h2 o0 46)).toUInt32 >>> (((8 : Int32)).toUInt32 &&& Int32.toUInt32 31)).toInt32 / x1 * x1), h2)
set_option maxHeartbeats 4000000 in
set_option maxRecDepth 100000 in
theorem mm_X12_draw {G : z_Gt} {S : State → Prop} (hSK : z_SK S) (l : Launch) (ad : Nat → Nat) (o0 : Nat) (x1 : Int32) (h : z_T) {r0 : Int32} {h9 : z_T} (hv : fX12_draw o0 x1 h = some (r0, h9)) : z_Mi G S l yX12_draw cX12_draw 2 (.int) rm_X12_draw 0 0 [.ref (ad o0), .int x1] ad h h9 r0 := by
  refine z_ofW hSK (by decide) (Nat.le_of_ble_eq_true rfl) ?_
  intro p e s m args below meth c ls hc hr hnm hB hl
  have hx := hc.1.1
  have hb := hc.1.2.1
  have hown := hc.1.2.2.2.1
  have hts := hc.1.2.2.2.2
  replace hc : z_C G S ad (z_n h) p m c cX12_draw 2 s args RX12 meth := hc
  replace hown : s.vm.findClass RX12 = some m.cls := hown
  replace hl : lv_has ls 2 [(0, .ref (ad o0)), (1, .int x1)] := hl
  show W p l e rm_X12_draw s m args below meth c s.heap [] 0 0 (MQ below (z_Qi G ad h9 (z_n h) s.heap.size r0) args s 0 0 (z_A ad (z_n h) s.heap.size)) (F0 m 0 ls [])
  obtain ⟨rs, kt⟩ : ∃ rs : Int32 × z_T, rs = (r0, h9) := ⟨_, rfl⟩
  generalize hn0 : z_n h = n0 at hc hB ⊢
  rw [← kt] at hv
  refine lv_aload_n hx hb dX12_draw_0 rfl (lv_at hl 0 rfl) ?_
  refine lv_aload_n hx hb dX12_draw_1 rfl (lv_at hl 0 rfl) ?_
  obtain ⟨g1, hv⟩ := y_gd_e hv
  refine z_getI hc hB 11 46 g1 (by decide) (by decide) rfl (z_l1 hc qfX12_412) dX12_draw_2 ?_
  refine lv_ldcw (v := (1103515245 : Int32)) hx hb hown (hts _ qkX12_415) dX12_draw_5 ?_
  refine lv_imul hx hb dX12_draw_8 ?_
  refine lv_sipush (v := (12345 : Int32)) hx hb dX12_draw_9 (by decide) ?_
  refine lv_iadd hx hb dX12_draw_12 ?_
  obtain ⟨h2, eh2, hv⟩ := y_nm_e hv
  refine y_putI hc hB 11 46 eh2 g1 (z_l1 hc qfX12_412) dX12_draw_13 (by decide) (by decide) rfl rfl rfl rfl (fun H locs hB => ?_)
  refine lv_aload_n hx hb dX12_draw_16 rfl (lv_at hl 0 rfl) ?_
  refine z_getI hc hB 11 46 (by rw [eh2]; exact g1) (by decide) (by decide) rfl (z_l1 hc qfX12_412) dX12_draw_17 ?_
  refine lv_bipush (v := (8 : Int32)) hx hb dX12_draw_20 (by decide) ?_
  refine lv_iushr hx hb dX12_draw_22 rfl ?_
  refine lv_iload_n hx hb dX12_draw_23 rfl (lv_at hl 1 rfl) ?_
  obtain ⟨z3, hv⟩ := y_gd_e hv
  refine lv_irem hx hb dX12_draw_24 (y_ne z3) ?_
  replace hv := Option.some.inj hv
  subst hv
  obtain ⟨e1, e2⟩ := y_pr kt
  rw [← e1, ← e2]
  exact z_iret hc hB hr dX12_draw_25
theorem qmX12_416 : Cond.methodLink RX12 416 yX12_draw ∈ z_ws := List.mem_filter.mpr ⟨List.mem_append_right _ (List.mem_of_getElem? (i := 1846) (by decide +kernel)), rfl⟩
theorem qc_X12_draw : Cond.code yX12_draw cX12_draw 2 (some .int) ∈ z_ws := List.mem_filter.mpr ⟨List.mem_append_right _ (List.mem_of_getElem? (i := 1849) (by decide +kernel)), rfl⟩
theorem qi_X12_draw : Cond.instanceMethod yX12_draw ∈ z_ws := List.mem_filter.mpr ⟨List.mem_append_right _ (List.mem_of_getElem? (i := 1848) (by decide +kernel)), rfl⟩
theorem qs_X12_draw : Cond.selects RX12 yX12_draw yX12_draw ∈ z_ws := List.mem_filter.mpr ⟨List.mem_append_left _ (List.mem_of_getElem? (i := 84) (by decide +kernel)), rfl⟩
theorem md_X12_draw : z_mdV yX12_draw cX12_draw 2 (some .int) 1 := ⟨⟨qn_RX12, qc_X12_draw, ⟨by decide +kernel, by decide +kernel, by decide +kernel⟩⟩, qi_X12_draw, qs_X12_draw⟩
theorem dX12_draws_0 : decode cX12_draws 0 = .ok (.aload_n 0, 1) := by decide +kernel
theorem dX12_draws_1 : decode cX12_draws 1 = .ok (.iload_n 2, 1) := by decide +kernel
theorem dX12_draws_2 : decode cX12_draws 2 = .ok (.putfield 412, 3) := by decide +kernel
theorem dX12_draws_5 : decode cX12_draws 5 = .ok (.aload_n 0, 1) := by decide +kernel
theorem dX12_draws_6 : decode cX12_draws 6 = .ok (.aload_n 0, 1) := by decide +kernel
theorem dX12_draws_7 : decode cX12_draws 7 = .ok (.invokevirtual 304, 3) := by decide +kernel
theorem dX12_draws_10 : decode cX12_draws 10 = .ok (.invokevirtual 416, 3) := by decide +kernel
theorem dX12_draws_13 : decode cX12_draws 13 = .ok (.istore_n 3, 1) := by decide +kernel
theorem dX12_draws_14 : decode cX12_draws 14 = .ok (.iconst 0, 1) := by decide +kernel
theorem dX12_draws_15 : decode cX12_draws 15 = .ok (.istore 4, 2) := by decide +kernel
theorem dX12_draws_17 : decode cX12_draws 17 = .ok (.iload_n 3, 1) := by decide +kernel
theorem dX12_draws_18 : decode cX12_draws 18 = .ok (.aload_n 0, 1) := by decide +kernel
theorem dX12_draws_19 : decode cX12_draws 19 = .ok (.iload 4, 2) := by decide +kernel
theorem dX12_draws_21 : decode cX12_draws 21 = .ok (.invokevirtual 256, 3) := by decide +kernel
theorem dX12_draws_24 : decode cX12_draws 24 = .ok (.if_icmp .lt 18, 3) := by decide +kernel
theorem dX12_draws_27 : decode cX12_draws 27 = .ok (.iload_n 3, 1) := by decide +kernel
theorem dX12_draws_28 : decode cX12_draws 28 = .ok (.aload_n 0, 1) := by decide +kernel
theorem dX12_draws_29 : decode cX12_draws 29 = .ok (.iload 4, 2) := by decide +kernel
theorem dX12_draws_31 : decode cX12_draws 31 = .ok (.invokevirtual 256, 3) := by decide +kernel
theorem dX12_draws_34 : decode cX12_draws 34 = .ok (.isub, 1) := by decide +kernel
theorem dX12_draws_35 : decode cX12_draws 35 = .ok (.istore_n 3, 1) := by decide +kernel
theorem dX12_draws_36 : decode cX12_draws 36 = .ok (.iinc 4 1, 3) := by decide +kernel
theorem dX12_draws_39 : decode cX12_draws 39 = .ok (.goto (-22), 3) := by decide +kernel
theorem dX12_draws_42 : decode cX12_draws 42 = .ok (.aload_n 0, 1) := by decide +kernel
theorem dX12_draws_43 : decode cX12_draws 43 = .ok (.getfield 33, 3) := by decide +kernel
theorem dX12_draws_46 : decode cX12_draws 46 = .ok (.bipush 36, 2) := by decide +kernel
theorem dX12_draws_48 : decode cX12_draws 48 = .ok (.iconst 0, 1) := by decide +kernel
theorem dX12_draws_49 : decode cX12_draws 49 = .ok (.iastore, 1) := by decide +kernel
theorem dX12_draws_50 : decode cX12_draws 50 = .ok (.iconst 0, 1) := by decide +kernel
theorem dX12_draws_51 : decode cX12_draws 51 = .ok (.istore 5, 2) := by decide +kernel
theorem dX12_draws_53 : decode cX12_draws 53 = .ok (.iload 5, 2) := by decide +kernel
theorem dX12_draws_55 : decode cX12_draws 55 = .ok (.iload_n 1, 1) := by decide +kernel
theorem dX12_draws_56 : decode cX12_draws 56 = .ok (.if_icmp .ge 58, 3) := by decide +kernel
theorem dX12_draws_59 : decode cX12_draws 59 = .ok (.aload_n 0, 1) := by decide +kernel
theorem dX12_draws_60 : decode cX12_draws 60 = .ok (.aload_n 0, 1) := by decide +kernel
theorem dX12_draws_61 : decode cX12_draws 61 = .ok (.getfield 33, 3) := by decide +kernel
theorem dX12_draws_64 : decode cX12_draws 64 = .ok (.iconst 0, 1) := by decide +kernel
theorem dX12_draws_65 : decode cX12_draws 65 = .ok (.iaload, 1) := by decide +kernel
theorem dX12_draws_66 : decode cX12_draws 66 = .ok (.invokevirtual 416, 3) := by decide +kernel
theorem dX12_draws_69 : decode cX12_draws 69 = .ok (.istore 6, 2) := by decide +kernel
theorem dX12_draws_71 : decode cX12_draws 71 = .ok (.aload_n 0, 1) := by decide +kernel
theorem dX12_draws_72 : decode cX12_draws 72 = .ok (.bipush 9, 2) := by decide +kernel
theorem dX12_draws_74 : decode cX12_draws 74 = .ok (.invokevirtual 416, 3) := by decide +kernel
theorem dX12_draws_77 : decode cX12_draws 77 = .ok (.aload_n 0, 1) := by decide +kernel
theorem dX12_draws_78 : decode cX12_draws 78 = .ok (.iload 4, 2) := by decide +kernel
theorem dX12_draws_80 : decode cX12_draws 80 = .ok (.iload 6, 2) := by decide +kernel
theorem dX12_draws_82 : decode cX12_draws 82 = .ok (.iload 5, 2) := by decide +kernel
theorem dX12_draws_84 : decode cX12_draws 84 = .ok (.invokevirtual 260, 3) := by decide +kernel
theorem dX12_draws_87 : decode cX12_draws 87 = .ok (.if_icmp .ge 7, 3) := by decide +kernel
theorem dX12_draws_90 : decode cX12_draws 90 = .ok (.iconst 1, 1) := by decide +kernel
theorem dX12_draws_91 : decode cX12_draws 91 = .ok (.goto 4, 3) := by decide +kernel
theorem dX12_draws_94 : decode cX12_draws 94 = .ok (.iconst 0, 1) := by decide +kernel
theorem dX12_draws_95 : decode cX12_draws 95 = .ok (.istore 7, 2) := by decide +kernel
theorem dX12_draws_97 : decode cX12_draws 97 = .ok (.aload_n 0, 1) := by decide +kernel
theorem dX12_draws_98 : decode cX12_draws 98 = .ok (.iconst 2, 1) := by decide +kernel
theorem dX12_draws_99 : decode cX12_draws 99 = .ok (.iload 6, 2) := by decide +kernel
theorem dX12_draws_101 : decode cX12_draws 101 = .ok (.imul, 1) := by decide +kernel
theorem dX12_draws_102 : decode cX12_draws 102 = .ok (.iload 7, 2) := by decide +kernel
theorem dX12_draws_104 : decode cX12_draws 104 = .ok (.iadd, 1) := by decide +kernel
theorem dX12_draws_105 : decode cX12_draws 105 = .ok (.invokevirtual 393, 3) := by decide +kernel
theorem dX12_draws_108 : decode cX12_draws 108 = .ok (.iinc 5 1, 3) := by decide +kernel
theorem dX12_draws_111 : decode cX12_draws 111 = .ok (.goto (-58), 3) := by decide +kernel
theorem dX12_draws_114 : decode cX12_draws 114 = .ok (.iload 4, 2) := by decide +kernel
theorem dX12_draws_116 : decode cX12_draws 116 = .ok (.ireturn, 1) := by decide +kernel
abbrev rm_X12_draws : Room := { frames := 3, cells := 0, slots := 0, locals := 66 }
noncomputable def fX12_draws_b95 (o0 : Nat) (x1 : Int32) (x4 : Int32) (x5 : Int32) (x6 : Int32) (s0 : Int32) (h : z_T) : Option ((Int32 × z_T) ⊕ (Int32 × z_T)) :=
  y_gd (z_ok h o0 11) <|
  y_bi (fX12_adds o0 (((2 : Int32) * x6) + s0) h) fun h2 =>
  y_nm (x5 + 1) fun v4 =>
  some (.inl (v4, h2))
noncomputable def fX12_draws_b53_i (o0 : Nat) (x1 : Int32) (x4 : Int32) (x5 : Int32) (h : z_T) : Option ((Int32 × z_T) ⊕ (Int32 × z_T)) :=
  y_br (x1 ≤ x5)
    (y_mp <|
    some (x4, h))
    (y_gd (z_ok h o0 11) <|
    y_bi (z_R h o0 6) fun o8 =>
    y_gd (z_ok h o8 13) <|
    y_gd (z_ix (0 : Int32) (z_N h o8)) <|
    y_bi (fX12_draw o0 (z_I h o8 (0 : Int32).toNatClampNeg) h) fun ⟨r12, h16⟩ =>
    y_gd (z_ok h16 o0 11) <|
    y_bi (fX12_draw o0 (9 : Int32) h16) fun ⟨r18, h22⟩ =>
    y_gd (z_ok h22 o0 11) <|
    y_bi (fX12_oddsOf o0 x4 r12 x5 h22) fun r25 =>
    y_br (r25 ≤ r18)
      (fX12_draws_b95 o0 x1 x4 x5 r12 (0 : Int32) h22)
      (fX12_draws_b95 o0 x1 x4 x5 r12 (1 : Int32) h22))
noncomputable def fX12_draws_b53 (o0 : Nat) (x1 : Int32) (x4 : Int32) (x5 : Int32) (h : z_T) : Option (Int32 × z_T) := y_lp (fun q : Int32 × z_T => fX12_draws_b53_i o0 x1 x4 q.1 q.2) (x5, h)
noncomputable def fX12_draws_b17_i (o0 : Nat) (x1 : Int32) (h : z_T) (x3 : Int32) (x4 : Int32) : Option ((Int32 × Int32) ⊕ (Int32 × z_T)) :=
  y_gd (z_ok h o0 11) <|
  y_bi (fX12_weightOf o0 x4 h) fun r32 =>
  y_br (x3 < r32)
    (y_mp <|
    y_bi (z_R h o0 6) fun o39 =>
    y_gd (z_ok h o39 13) <|
    y_gd (z_ix (36 : Int32) (z_N h o39)) <|
    y_nm (z_sI h o39 (36 : Int32).toNatClampNeg (0 : Int32)) fun h42 =>
    fX12_draws_b53 o0 x1 x4 (0 : Int32) h42)
    (y_bi (fX12_weightOf o0 x4 h) fun r44 =>
    y_nm ((x3 - r44)) fun v48 =>
    y_nm (x4 + 1) fun v49 =>
    some (.inl (v48, v49)))
noncomputable def fX12_draws_b17 (o0 : Nat) (x1 : Int32) (x3 : Int32) (x4 : Int32) (h : z_T) : Option (Int32 × z_T) := y_lp (fun q : Int32 × Int32 => fX12_draws_b17_i o0 x1 h q.1 q.2) (x3, x4)
noncomputable def fX12_draws (o0 : Nat) (x1 : Int32) (x2 : Int32) (h : z_T) : Option (Int32 × z_T) :=
  y_gd (z_ok h o0 11) <|
  y_nm (z_sI h o0 46 x2) fun h51 =>
  y_bi (fX12_allWeights o0 h51) fun r53 =>
  y_bi (fX12_draw o0 r53 h51) fun ⟨r58, h62⟩ =>
  fX12_draws_b17 o0 x1 r58 (0 : Int32) h62
set_option maxHeartbeats 4000000 in
set_option maxRecDepth 100000 in
theorem mm_X12_draws {G : z_Gt} {S : State → Prop} (hSK : z_SK S) (l : Launch) (ad : Nat → Nat) (o0 : Nat) (x1 : Int32) (x2 : Int32) (h : z_T) {r0 : Int32} {h9 : z_T} (hv : fX12_draws o0 x1 x2 h = some (r0, h9)) : z_Mi G S l yX12_draws cX12_draws 8 (.int) rm_X12_draws 0 0 [.ref (ad o0), .int x1, .int x2] ad h h9 r0 := by
  refine z_ofW hSK (by decide) (Nat.le_of_ble_eq_true rfl) ?_
  intro p e s m args below meth c ls hc hr hnm hB hl
  have hx := hc.1.1
  have hb := hc.1.2.1
  have hown := hc.1.2.2.2.1
  have hts := hc.1.2.2.2.2
  replace hc : z_C G S ad (z_n h) p m c cX12_draws 8 s args RX12 meth := hc
  replace hown : s.vm.findClass RX12 = some m.cls := hown
  replace hl : lv_has ls 8 [(0, .ref (ad o0)), (1, .int x1), (2, .int x2)] := hl
  show W p l e rm_X12_draws s m args below meth c s.heap [] 0 0 (MQ below (z_Qi G ad h9 (z_n h) s.heap.size r0) args s 0 0 (z_A ad (z_n h) s.heap.size)) (F0 m 0 ls [])
  obtain ⟨rs, kt⟩ : ∃ rs : Int32 × z_T, rs = (r0, h9) := ⟨_, rfl⟩
  generalize hn0 : z_n h = n0 at hc hB ⊢
  have L53 : ∀ (x4 : Int32) (nn53 : Nat) (x5 : Int32) (h : z_T) (H : Heap) (locs : List Loc) (ls : Array Slot), z_B G ad n0 s h H locs → lv_has ls 8 [(0, .ref (ad o0)), (1, .int x1), (4, .int x4), (5, .int x5)] → ∀ vv53, y_lpN (fun q : Int32 × z_T => fX12_draws_b53_i o0 x1 x4 q.1 q.2) nn53 (x5, h) = some vv53 → vv53 = (r0, h9) → W p l e rm_X12_draws s m args below meth c H locs 0 0 (MQ below (z_Qi G ad h9 n0 s.heap.size r0) args s 0 0 (z_A ad n0 s.heap.size)) (F0 m 53 ls []) := by
    intro x4 nn53
    induction nn53 with
    | zero => intro x5 h H locs ls hB hl vv53 hv kv53; exact absurd hv (fun q => y_lpN_0 q)
    | succ nn53 ih53 =>
      intro x5 h H locs ls hB hl vv53 hv kv53
      obtain ⟨w, hq, kw53⟩ := y_lpN_e hv
      clear hv
      have hv : fX12_draws_b53_i o0 x1 x4 x5 h = some w := hq
      clear hq
      have b95 : ∀ (x5 : Int32) (x6 : Int32) (s0 : Int32) (h : z_T) (H : Heap) (locs : List Loc) (ls : Array Slot), z_B G ad n0 s h H locs → lv_has ls 8 [(0, .ref (ad o0)), (1, .int x1), (4, .int x4), (5, .int x5), (6, .int x6)] → ∀ w, fX12_draws_b95 o0 x1 x4 x5 x6 s0 h = some w → y_lq (fun q : Int32 × z_T => fX12_draws_b53_i o0 x1 x4 q.1 q.2) nn53 vv53 w → W p l e rm_X12_draws s m args below meth c H locs 0 0 (MQ below (z_Qi G ad h9 n0 s.heap.size r0) args s 0 0 (z_A ad n0 s.heap.size)) (F0 m 95 ls [.int s0]) := by
        intro x5 x6 s0 h H locs ls hB hl w hv kw53
        refine lv_istore (lv' := [(7, .int s0), (0, .ref (ad o0)), (1, .int x1), (4, .int x4), (5, .int x5), (6, .int x6)]) hx hb dX12_draws_95 hl (by decide) rfl (fun ls hl => ?_)
        refine lv_aload_n hx hb dX12_draws_97 rfl (lv_at hl 1 rfl) ?_
        refine lv_iconst (v := (2 : Int32)) hx hb dX12_draws_98 (by decide) ?_
        refine lv_iload hx hb dX12_draws_99 (lv_at hl 5 rfl) ?_
        refine lv_imul hx hb dX12_draws_101 ?_
        refine lv_iload hx hb dX12_draws_102 (lv_at hl 0 rfl) ?_
        refine lv_iadd hx hb dX12_draws_104 ?_
        obtain ⟨g3, hv⟩ := y_gd_e hv
        obtain ⟨h2, c1, hv⟩ := y_bi_e hv
        refine z_thV hc hB (z_runV hc hB 11 (mm_X12_adds hSK l ad o0 (((2 : Int32) * x6) + s0) h c1) md_X12_adds qmX12_393 g3 (by decide) rfl rfl rfl ⟨Nat.le_of_ble_eq_true rfl, Nat.le_of_ble_eq_true rfl⟩ rfl hl.1 rfl (Nat.le_of_ble_eq_true rfl) dX12_draws_105 ⟨Nat.le_of_ble_eq_true rfl, Nat.le_of_ble_eq_true rfl⟩) (fun H locs hB => ?_)
        obtain ⟨v4, ev4, hv⟩ := y_nm_e hv
        refine lv_iinc (v := v4) (lv' := [(5, .int v4), (7, .int s0), (0, .ref (ad o0)), (1, .int x1), (4, .int x4), (6, .int x6)]) hx hb dX12_draws_108 hl (k := 4) rfl (by rw [ev4]; rfl) (by decide) rfl (fun ls hl => ?_)
        refine lv_goto (tgt := 53) hx hb dX12_draws_111 (by decide) ?_
        replace hv := Option.some.inj hv
        subst hv
        exact ih53 v4 h2 _ _ _ hB (lv_sub hl [2, 3, 4, 0] rfl) _ kw53 kv53
      refine lv_iload hx hb dX12_draws_53 (lv_at hl 3 rfl) ?_
      refine lv_iload_n hx hb dX12_draws_55 rfl (lv_at hl 1 rfl) ?_
      refine lv_icmp_ge (tgt := 114) hx hb dX12_draws_56 (by decide) (fun c5 => ?_) (fun c5 => ?_)
      · replace hv := y_br_t hv c5
        obtain ⟨t6, hq, ew⟩ := y_mp_e hv
        clear hv; subst ew
        replace kw53 : t6 = _ := kw53
        subst kw53
        have hv := hq
        clear hq
        refine lv_iload hx hb dX12_draws_114 (lv_at hl 2 rfl) ?_
        replace hv := Option.some.inj hv
        subst hv
        obtain ⟨e1, e2⟩ := y_pr kv53
        rw [← e1, ← e2]
        exact z_iret hc hB hr dX12_draws_116
      · replace hv := y_br_f hv c5
        refine lv_aload_n hx hb dX12_draws_59 rfl (lv_at hl 0 rfl) ?_
        refine lv_aload_n hx hb dX12_draws_60 rfl (lv_at hl 0 rfl) ?_
        obtain ⟨g7, hv⟩ := y_gd_e hv
        obtain ⟨o8, eo8, hv⟩ := y_bi_e hv
        refine z_getR hc hB 11 6 g7 eo8 (by decide) (by decide) rfl (z_l1 hc qfX12_33) dX12_draws_61 ?_
        refine lv_iconst (v := (0 : Int32)) hx hb dX12_draws_64 (by decide) ?_
        obtain ⟨g9, hv⟩ := y_gd_e hv
        obtain ⟨i10, hv⟩ := y_gd_e hv
        refine z_iald hc hB g9 i10 dX12_draws_65 ?_
        obtain ⟨⟨r12, h16⟩, c11, hv⟩ := y_bi_e hv
        refine z_thI hc hB (z_runV hc hB 11 (mm_X12_draw hSK l ad o0 (z_I h o8 (0 : Int32).toNatClampNeg) h c11) md_X12_draw qmX12_416 g7 (by decide) rfl rfl rfl ⟨Nat.le_of_ble_eq_true rfl, Nat.le_of_ble_eq_true rfl⟩ rfl hl.1 rfl (Nat.le_of_ble_eq_true rfl) dX12_draws_66 ⟨Nat.le_of_ble_eq_true rfl, Nat.le_of_ble_eq_true rfl⟩) (fun H locs hB => ?_)
        refine lv_istore (lv' := [(6, .int r12), (0, .ref (ad o0)), (1, .int x1), (4, .int x4), (5, .int x5)]) hx hb dX12_draws_69 hl (by decide) rfl (fun ls hl => ?_)
        refine lv_aload_n hx hb dX12_draws_71 rfl (lv_at hl 1 rfl) ?_
        refine lv_bipush (v := (9 : Int32)) hx hb dX12_draws_72 (by decide) ?_
        obtain ⟨g23, hv⟩ := y_gd_e hv
        obtain ⟨⟨r18, h22⟩, c17, hv⟩ := y_bi_e hv
        refine z_thI hc hB (z_runV hc hB 11 (mm_X12_draw hSK l ad o0 (9 : Int32) h16 c17) md_X12_draw qmX12_416 g23 (by decide) rfl rfl rfl ⟨Nat.le_of_ble_eq_true rfl, Nat.le_of_ble_eq_true rfl⟩ rfl hl.1 rfl (Nat.le_of_ble_eq_true rfl) dX12_draws_74 ⟨Nat.le_of_ble_eq_true rfl, Nat.le_of_ble_eq_true rfl⟩) (fun H locs hB => ?_)
        refine lv_aload_n hx hb dX12_draws_77 rfl (lv_at hl 1 rfl) ?_
        refine lv_iload hx hb dX12_draws_78 (lv_at hl 3 rfl) ?_
        refine lv_iload hx hb dX12_draws_80 (lv_at hl 0 rfl) ?_
        refine lv_iload hx hb dX12_draws_82 (lv_at hl 4 rfl) ?_
        obtain ⟨g29, hv⟩ := y_gd_e hv
        obtain ⟨r25, c24, hv⟩ := y_bi_e hv
        refine z_thI hc hB (z_runV hc hB 11 (mm_X12_oddsOf hSK l ad o0 x4 r12 x5 h22 c24) md_X12_oddsOf qmX12_260 g29 (by decide) rfl rfl rfl ⟨Nat.le_of_ble_eq_true rfl, Nat.le_of_ble_eq_true rfl⟩ rfl hl.1 rfl (Nat.le_of_ble_eq_true rfl) dX12_draws_84 ⟨Nat.le_of_ble_eq_true rfl, Nat.le_of_ble_eq_true rfl⟩) (fun H locs hB => ?_)
        refine lv_icmp_ge (tgt := 94) hx hb dX12_draws_87 (by decide) (fun c30 => ?_) (fun c30 => ?_)
        · replace hv := y_br_t hv c30
          refine lv_iconst (v := (0 : Int32)) hx hb dX12_draws_94 (by decide) ?_
          exact b95 x5 r12 (0 : Int32) h22 _ _ _ hB (lv_sub hl [1, 2, 3, 4, 0] rfl) _ hv kw53
        · replace hv := y_br_f hv c30
          refine lv_iconst (v := (1 : Int32)) hx hb dX12_draws_90 (by decide) ?_
          refine lv_goto (tgt := 95) hx hb dX12_draws_91 (by decide) ?_
          exact b95 x5 r12 (1 : Int32) h22 _ _ _ hB (lv_sub hl [1, 2, 3, 4, 0] rfl) _ hv kw53
  have L17 : ∀ (h : z_T) (nn17 : Nat) (x3 : Int32) (x4 : Int32) (H : Heap) (locs : List Loc) (ls : Array Slot), z_B G ad n0 s h H locs → lv_has ls 8 [(0, .ref (ad o0)), (1, .int x1), (3, .int x3), (4, .int x4)] → ∀ vv17, y_lpN (fun q : Int32 × Int32 => fX12_draws_b17_i o0 x1 h q.1 q.2) nn17 (x3, x4) = some vv17 → vv17 = (r0, h9) → W p l e rm_X12_draws s m args below meth c H locs 0 0 (MQ below (z_Qi G ad h9 n0 s.heap.size r0) args s 0 0 (z_A ad n0 s.heap.size)) (F0 m 17 ls []) := by
    intro h nn17
    induction nn17 with
    | zero => intro x3 x4 H locs ls hB hl vv17 hv kv17; exact absurd hv (fun q => y_lpN_0 q)
    | succ nn17 ih17 =>
      intro x3 x4 H locs ls hB hl vv17 hv kv17
      obtain ⟨w, hq, kw17⟩ := y_lpN_e hv
      clear hv
      have hv : fX12_draws_b17_i o0 x1 h x3 x4 = some w := hq
      clear hq
      refine lv_iload_n hx hb dX12_draws_17 rfl (lv_at hl 2 rfl) ?_
      refine lv_aload_n hx hb dX12_draws_18 rfl (lv_at hl 0 rfl) ?_
      refine lv_iload hx hb dX12_draws_19 (lv_at hl 3 rfl) ?_
      obtain ⟨g36, hv⟩ := y_gd_e hv
      obtain ⟨r32, c31, hv⟩ := y_bi_e hv
      refine z_thI hc hB (z_runV hc hB 11 (mm_X12_weightOf hSK l ad o0 x4 h c31) md_X12_weightOf qmX12_256 g36 (by decide) rfl rfl rfl ⟨Nat.le_of_ble_eq_true rfl, Nat.le_of_ble_eq_true rfl⟩ rfl hl.1 rfl (Nat.le_of_ble_eq_true rfl) dX12_draws_21 ⟨Nat.le_of_ble_eq_true rfl, Nat.le_of_ble_eq_true rfl⟩) (fun H locs hB => ?_)
      refine lv_icmp_lt (tgt := 42) hx hb dX12_draws_24 (by decide) (fun c37 => ?_) (fun c37 => ?_)
      · replace hv := y_br_t hv c37
        obtain ⟨t38, hq, ew⟩ := y_mp_e hv
        clear hv; subst ew
        replace kw17 : t38 = _ := kw17
        subst kw17
        have hv := hq
        clear hq
        refine lv_aload_n hx hb dX12_draws_42 rfl (lv_at hl 0 rfl) ?_
        obtain ⟨o39, eo39, hv⟩ := y_bi_e hv
        refine z_getR hc hB 11 6 g36 eo39 (by decide) (by decide) rfl (z_l1 hc qfX12_33) dX12_draws_43 ?_
        refine lv_bipush (v := (36 : Int32)) hx hb dX12_draws_46 (by decide) ?_
        refine lv_iconst (v := (0 : Int32)) hx hb dX12_draws_48 (by decide) ?_
        obtain ⟨g40, hv⟩ := y_gd_e hv
        obtain ⟨i41, hv⟩ := y_gd_e hv
        obtain ⟨h42, eh42, hv⟩ := y_nm_e hv
        refine y_iast hc hB eh42 g40 i41 dX12_draws_49 (fun H locs hB => ?_)
        refine lv_iconst (v := (0 : Int32)) hx hb dX12_draws_50 (by decide) ?_
        refine lv_istore (lv' := [(5, .int (0 : Int32)), (0, .ref (ad o0)), (1, .int x1), (3, .int x3), (4, .int x4)]) hx hb dX12_draws_51 hl (by decide) rfl (fun ls hl => ?_)
        obtain ⟨n, hv⟩ := y_lp_e hv
        exact L53 x4 n (0 : Int32) h42 _ _ _ hB (lv_sub hl [1, 2, 4, 0] rfl) _ hv kv17
      · replace hv := y_br_f hv c37
        refine lv_iload_n hx hb dX12_draws_27 rfl (lv_at hl 2 rfl) ?_
        refine lv_aload_n hx hb dX12_draws_28 rfl (lv_at hl 0 rfl) ?_
        refine lv_iload hx hb dX12_draws_29 (lv_at hl 3 rfl) ?_
        obtain ⟨r44, c43, hv⟩ := y_bi_e hv
        refine z_thI hc hB (z_runV hc hB 11 (mm_X12_weightOf hSK l ad o0 x4 h c43) md_X12_weightOf qmX12_256 g36 (by decide) rfl rfl rfl ⟨Nat.le_of_ble_eq_true rfl, Nat.le_of_ble_eq_true rfl⟩ rfl hl.1 rfl (Nat.le_of_ble_eq_true rfl) dX12_draws_31 ⟨Nat.le_of_ble_eq_true rfl, Nat.le_of_ble_eq_true rfl⟩) (fun H locs hB => ?_)
        refine lv_isub hx hb dX12_draws_34 ?_
        obtain ⟨v48, ev48, hv⟩ := y_nm_e hv
        rw [← ev48]
        refine lv_istore_n (lv' := [(3, .int v48), (0, .ref (ad o0)), (1, .int x1), (4, .int x4)]) hx hb dX12_draws_35 rfl hl (by decide) rfl (fun ls hl => ?_)
        obtain ⟨v49, ev49, hv⟩ := y_nm_e hv
        refine lv_iinc (v := v49) (lv' := [(4, .int v49), (3, .int v48), (0, .ref (ad o0)), (1, .int x1)]) hx hb dX12_draws_36 hl (k := 3) rfl (by rw [ev49]; rfl) (by decide) rfl (fun ls hl => ?_)
        refine lv_goto (tgt := 17) hx hb dX12_draws_39 (by decide) ?_
        replace hv := Option.some.inj hv
        subst hv
        exact ih17 v48 v49 _ _ _ hB (lv_sub hl [2, 3, 1, 0] rfl) _ kw17 kv17
  rw [← kt] at hv
  refine lv_aload_n hx hb dX12_draws_0 rfl (lv_at hl 0 rfl) ?_
  refine lv_iload_n hx hb dX12_draws_1 rfl (lv_at hl 2 rfl) ?_
  obtain ⟨g50, hv⟩ := y_gd_e hv
  obtain ⟨h51, eh51, hv⟩ := y_nm_e hv
  refine y_putI hc hB 11 46 eh51 g50 (z_l1 hc qfX12_412) dX12_draws_2 (by decide) (by decide) rfl rfl rfl rfl (fun H locs hB => ?_)
  refine lv_aload_n hx hb dX12_draws_5 rfl (lv_at hl 0 rfl) ?_
  refine lv_aload_n hx hb dX12_draws_6 rfl (lv_at hl 0 rfl) ?_
  obtain ⟨r53, c52, hv⟩ := y_bi_e hv
  refine z_thI hc hB (z_runV hc hB 11 (mm_X12_allWeights hSK l ad o0 h51 c52) md_X12_allWeights qmX12_304 (by rw [eh51]; exact g50) (by decide) rfl rfl rfl ⟨Nat.le_of_ble_eq_true rfl, Nat.le_of_ble_eq_true rfl⟩ rfl hl.1 rfl (Nat.le_of_ble_eq_true rfl) dX12_draws_7 ⟨Nat.le_of_ble_eq_true rfl, Nat.le_of_ble_eq_true rfl⟩) (fun H locs hB => ?_)
  obtain ⟨⟨r58, h62⟩, c57, hv⟩ := y_bi_e hv
  refine z_thI hc hB (z_runV hc hB 11 (mm_X12_draw hSK l ad o0 r53 h51 c57) md_X12_draw qmX12_416 (by rw [eh51]; exact g50) (by decide) rfl rfl rfl ⟨Nat.le_of_ble_eq_true rfl, Nat.le_of_ble_eq_true rfl⟩ rfl hl.1 rfl (Nat.le_of_ble_eq_true rfl) dX12_draws_10 ⟨Nat.le_of_ble_eq_true rfl, Nat.le_of_ble_eq_true rfl⟩) (fun H locs hB => ?_)
  refine lv_istore_n (lv' := [(3, .int r58), (0, .ref (ad o0)), (1, .int x1), (2, .int x2)]) hx hb dX12_draws_13 rfl hl (by decide) rfl (fun ls hl => ?_)
  refine lv_iconst (v := (0 : Int32)) hx hb dX12_draws_14 (by decide) ?_
  refine lv_istore (lv' := [(4, .int (0 : Int32)), (3, .int r58), (0, .ref (ad o0)), (1, .int x1), (2, .int x2)]) hx hb dX12_draws_15 hl (by decide) rfl (fun ls hl => ?_)
  obtain ⟨n, hv⟩ := y_lp_e hv
  exact L17 h62 n r58 (0 : Int32) _ _ _ hB (lv_sub hl [2, 3, 1, 0] rfl) _ hv kt
theorem dX12_areDrawn_0 : decode cX12_areDrawn 0 = .ok (.iload_n 1, 1) := by decide +kernel
theorem dX12_areDrawn_1 : decode cX12_areDrawn 1 = .ok (.iconst 0, 1) := by decide +kernel
theorem dX12_areDrawn_2 : decode cX12_areDrawn 2 = .ok (.bipush 12, 2) := by decide +kernel
theorem dX12_areDrawn_4 : decode cX12_areDrawn 4 = .ok (.invokestatic 188, 3) := by decide +kernel
theorem dX12_areDrawn_7 : decode cX12_areDrawn 7 = .ok (.ifCond .eq 20, 3) := by decide +kernel
theorem dX12_areDrawn_10 : decode cX12_areDrawn 10 = .ok (.iload_n 1, 1) := by decide +kernel
theorem dX12_areDrawn_11 : decode cX12_areDrawn 11 = .ok (.ifCond .eq 12, 3) := by decide +kernel
theorem dX12_areDrawn_14 : decode cX12_areDrawn 14 = .ok (.aload_n 0, 1) := by decide +kernel
theorem dX12_areDrawn_15 : decode cX12_areDrawn 15 = .ok (.getfield 33, 3) := by decide +kernel
theorem dX12_areDrawn_18 : decode cX12_areDrawn 18 = .ok (.iconst 0, 1) := by decide +kernel
theorem dX12_areDrawn_19 : decode cX12_areDrawn 19 = .ok (.iaload, 1) := by decide +kernel
theorem dX12_areDrawn_20 : decode cX12_areDrawn 20 = .ok (.ifCond .le 7, 3) := by decide +kernel
theorem dX12_areDrawn_23 : decode cX12_areDrawn 23 = .ok (.iconst 1, 1) := by decide +kernel
theorem dX12_areDrawn_24 : decode cX12_areDrawn 24 = .ok (.goto 4, 3) := by decide +kernel
theorem dX12_areDrawn_27 : decode cX12_areDrawn 27 = .ok (.iconst 0, 1) := by decide +kernel
theorem dX12_areDrawn_28 : decode cX12_areDrawn 28 = .ok (.ireturn, 1) := by decide +kernel
abbrev rm_X12_areDrawn : Room := { frames := 1, cells := 0, slots := 0, locals := 22 }
noncomputable def fX12_areDrawn_b23  (h : z_T) : Option (Int32) :=
  some (1 : Int32)
noncomputable def fX12_areDrawn_b27  (h : z_T) : Option (Int32) :=
  some (0 : Int32)
noncomputable def fX12_areDrawn (o0 : Nat) (x1 : Int32) (h : z_T) : Option (Int32) :=
  y_bi (fX12_isIn x1 (0 : Int32) (12 : Int32)) fun r2 =>
  y_br (r2 = 0)
    (fX12_areDrawn_b27 h)
    (y_br (x1 = 0)
      (fX12_areDrawn_b23 h)
      (y_gd (z_ok h o0 11) <|
      y_bi (z_R h o0 6) fun o9 =>
      y_gd (z_ok h o9 13) <|
      y_gd (z_ix (0 : Int32) (z_N h o9)) <|
      y_br ((z_I h o9 (0 : Int32).toNatClampNeg) ≤ 0)
        (fX12_areDrawn_b27 h)
        (fX12_areDrawn_b23 h)))
set_option maxHeartbeats 4000000 in
set_option maxRecDepth 100000 in
theorem mm_X12_areDrawn {G : z_Gt} {S : State → Prop} (hSK : z_SK S) (l : Launch) (ad : Nat → Nat) (o0 : Nat) (x1 : Int32) (h : z_T) {r0 : Int32} (hv : fX12_areDrawn o0 x1 h = some r0) : z_Mi G S l yX12_areDrawn cX12_areDrawn 2 (.boolean) rm_X12_areDrawn 0 0 [.ref (ad o0), .int x1] ad h h r0 := by
  refine z_ofW hSK (by decide) (Nat.le_of_ble_eq_true rfl) ?_
  intro p e s m args below meth c ls hc hr hnm hB hl
  have hx := hc.1.1
  have hb := hc.1.2.1
  have hown := hc.1.2.2.2.1
  have hts := hc.1.2.2.2.2
  replace hc : z_C G S ad (z_n h) p m c cX12_areDrawn 2 s args RX12 meth := hc
  replace hown : s.vm.findClass RX12 = some m.cls := hown
  replace hl : lv_has ls 2 [(0, .ref (ad o0)), (1, .int x1)] := hl
  show W p l e rm_X12_areDrawn s m args below meth c s.heap [] 0 0 (MQ below (z_Qi G ad h (z_n h) s.heap.size r0) args s 0 0 (z_A ad (z_n h) s.heap.size)) (F0 m 0 ls [])
  obtain ⟨rs, kt⟩ : ∃ rs : Int32, rs = r0 := ⟨_, rfl⟩
  generalize hn0 : z_n h = n0 at hc hB ⊢
  have b23 : ∀ (H : Heap) (locs : List Loc) (ls : Array Slot), z_B G ad n0 s h H locs → lv_has ls 2 [] → ∀ w, fX12_areDrawn_b23 h = some w → w = r0 → W p l e rm_X12_areDrawn s m args below meth c H locs 0 0 (MQ below (z_Qi G ad h n0 s.heap.size r0) args s 0 0 (z_A ad n0 s.heap.size)) (F0 m 23 ls []) := by
    intro H locs ls hB hl w hv kb
    refine lv_iconst (v := (1 : Int32)) hx hb dX12_areDrawn_23 (by decide) ?_
    refine lv_goto (tgt := 28) hx hb dX12_areDrawn_24 (by decide) ?_
    replace hv := Option.some.inj hv
    subst hv
    rw [← kb]
    exact z_zret hc hB hr rfl dX12_areDrawn_28
  have b27 : ∀ (H : Heap) (locs : List Loc) (ls : Array Slot), z_B G ad n0 s h H locs → lv_has ls 2 [] → ∀ w, fX12_areDrawn_b27 h = some w → w = r0 → W p l e rm_X12_areDrawn s m args below meth c H locs 0 0 (MQ below (z_Qi G ad h n0 s.heap.size r0) args s 0 0 (z_A ad n0 s.heap.size)) (F0 m 27 ls []) := by
    intro H locs ls hB hl w hv kb
    refine lv_iconst (v := (0 : Int32)) hx hb dX12_areDrawn_27 (by decide) ?_
    replace hv := Option.some.inj hv
    subst hv
    rw [← kb]
    exact z_zret hc hB hr rfl dX12_areDrawn_28
  rw [← kt] at hv
  refine lv_iload_n hx hb dX12_areDrawn_0 rfl (lv_at hl 1 rfl) ?_
  refine lv_iconst (v := (0 : Int32)) hx hb dX12_areDrawn_1 (by decide) ?_
  refine lv_bipush (v := (12 : Int32)) hx hb dX12_areDrawn_2 (by decide) ?_
  obtain ⟨r2, c1, hv⟩ := y_bi_e hv
  refine z_thI hc hB (z_runS hc hB (mm_X12_isIn hSK l ad x1 (0 : Int32) (12 : Int32) h c1) md_X12_isIn qmX12_188 rfl rfl ⟨Nat.le_of_ble_eq_true rfl, Nat.le_of_ble_eq_true rfl⟩ rfl hl.1 rfl (Nat.le_of_ble_eq_true rfl) dX12_areDrawn_4 ⟨Nat.le_of_ble_eq_true rfl, Nat.le_of_ble_eq_true rfl⟩) (fun H locs hB => ?_)
  refine lv_if_eq (tgt := 27) hx hb dX12_areDrawn_7 (by decide) (fun c6 => ?_) (fun c6 => ?_)
  · replace hv := y_br_t hv c6
    exact b27 _ _ _ hB (lv_sub hl [] rfl) _ hv kt
  · replace hv := y_br_f hv c6
    refine lv_iload_n hx hb dX12_areDrawn_10 rfl (lv_at hl 1 rfl) ?_
    refine lv_if_eq (tgt := 23) hx hb dX12_areDrawn_11 (by decide) (fun c7 => ?_) (fun c7 => ?_)
    · replace hv := y_br_t hv c7
      exact b23 _ _ _ hB (lv_sub hl [] rfl) _ hv kt
    · replace hv := y_br_f hv c7
      refine lv_aload_n hx hb dX12_areDrawn_14 rfl (lv_at hl 0 rfl) ?_
      obtain ⟨g8, hv⟩ := y_gd_e hv
      obtain ⟨o9, eo9, hv⟩ := y_bi_e hv
      refine z_getR hc hB 11 6 g8 eo9 (by decide) (by decide) rfl (z_l1 hc qfX12_33) dX12_areDrawn_15 ?_
      refine lv_iconst (v := (0 : Int32)) hx hb dX12_areDrawn_18 (by decide) ?_
      obtain ⟨g10, hv⟩ := y_gd_e hv
      obtain ⟨i11, hv⟩ := y_gd_e hv
      refine z_iald hc hB g10 i11 dX12_areDrawn_19 ?_
      refine lv_if_le (tgt := 27) hx hb dX12_areDrawn_20 (by decide) (fun c12 => ?_) (fun c12 => ?_)
      · replace hv := y_br_t hv c12
        exact b27 _ _ _ hB (lv_sub hl [] rfl) _ hv kt
      · replace hv := y_br_f hv c12
        exact b23 _ _ _ hB (lv_sub hl [] rfl) _ hv kt
theorem qmX12_419 : Cond.methodLink RX12 419 yX12_areDrawn ∈ z_ws := List.mem_filter.mpr ⟨List.mem_append_right _ (List.mem_of_getElem? (i := 1838) (by decide +kernel)), rfl⟩
theorem qc_X12_areDrawn : Cond.code yX12_areDrawn cX12_areDrawn 2 (some .boolean) ∈ z_ws := List.mem_filter.mpr ⟨List.mem_append_right _ (List.mem_of_getElem? (i := 1841) (by decide +kernel)), rfl⟩
theorem qi_X12_areDrawn : Cond.instanceMethod yX12_areDrawn ∈ z_ws := List.mem_filter.mpr ⟨List.mem_append_right _ (List.mem_of_getElem? (i := 1840) (by decide +kernel)), rfl⟩
theorem qs_X12_areDrawn : Cond.selects RX12 yX12_areDrawn yX12_areDrawn ∈ z_ws := List.mem_filter.mpr ⟨List.mem_append_left _ (List.mem_of_getElem? (i := 82) (by decide +kernel)), rfl⟩
theorem md_X12_areDrawn : z_mdV yX12_areDrawn cX12_areDrawn 2 (some .boolean) 1 := ⟨⟨qn_RX12, qc_X12_areDrawn, ⟨by decide +kernel, by decide +kernel, by decide +kernel⟩⟩, qi_X12_areDrawn, qs_X12_areDrawn⟩
theorem qmX12_422 : Cond.methodLink RX12 422 yX12_draws ∈ z_ws := List.mem_filter.mpr ⟨List.mem_append_right _ (List.mem_of_getElem? (i := 1842) (by decide +kernel)), rfl⟩
theorem qc_X12_draws : Cond.code yX12_draws cX12_draws 8 (some .int) ∈ z_ws := List.mem_filter.mpr ⟨List.mem_append_right _ (List.mem_of_getElem? (i := 1845) (by decide +kernel)), rfl⟩
theorem qi_X12_draws : Cond.instanceMethod yX12_draws ∈ z_ws := List.mem_filter.mpr ⟨List.mem_append_right _ (List.mem_of_getElem? (i := 1844) (by decide +kernel)), rfl⟩
theorem qs_X12_draws : Cond.selects RX12 yX12_draws yX12_draws ∈ z_ws := List.mem_filter.mpr ⟨List.mem_append_left _ (List.mem_of_getElem? (i := 83) (by decide +kernel)), rfl⟩
theorem md_X12_draws : z_mdV yX12_draws cX12_draws 8 (some .int) 2 := ⟨⟨qn_RX12, qc_X12_draws, ⟨by decide +kernel, by decide +kernel, by decide +kernel⟩⟩, qi_X12_draws, qs_X12_draws⟩
theorem dX12_drawn_0 : decode cX12_drawn 0 = .ok (.aload_n 0, 1) := by decide +kernel
theorem dX12_drawn_1 : decode cX12_drawn 1 = .ok (.iconst 0, 1) := by decide +kernel
theorem dX12_drawn_2 : decode cX12_drawn 2 = .ok (.putfield 1, 3) := by decide +kernel
theorem dX12_drawn_5 : decode cX12_drawn 5 = .ok (.aload_n 0, 1) := by decide +kernel
theorem dX12_drawn_6 : decode cX12_drawn 6 = .ok (.iload_n 1, 1) := by decide +kernel
theorem dX12_drawn_7 : decode cX12_drawn 7 = .ok (.invokevirtual 419, 3) := by decide +kernel
theorem dX12_drawn_10 : decode cX12_drawn 10 = .ok (.ifCond .ne 5, 3) := by decide +kernel
theorem dX12_drawn_13 : decode cX12_drawn 13 = .ok (.iconst (-1), 1) := by decide +kernel
theorem dX12_drawn_14 : decode cX12_drawn 14 = .ok (.ireturn, 1) := by decide +kernel
theorem dX12_drawn_15 : decode cX12_drawn 15 = .ok (.aload_n 0, 1) := by decide +kernel
theorem dX12_drawn_16 : decode cX12_drawn 16 = .ok (.invokevirtual 268, 3) := by decide +kernel
theorem dX12_drawn_19 : decode cX12_drawn 19 = .ok (.aload_n 0, 1) := by decide +kernel
theorem dX12_drawn_20 : decode cX12_drawn 20 = .ok (.iload_n 1, 1) := by decide +kernel
theorem dX12_drawn_21 : decode cX12_drawn 21 = .ok (.iload_n 2, 1) := by decide +kernel
theorem dX12_drawn_22 : decode cX12_drawn 22 = .ok (.invokevirtual 422, 3) := by decide +kernel
theorem dX12_drawn_25 : decode cX12_drawn 25 = .ok (.ireturn, 1) := by decide +kernel
abbrev rm_X12_drawn : Room := { frames := 4, cells := 0, slots := 0, locals := 93 }
noncomputable def fX12_drawn (o0 : Nat) (x1 : Int32) (x2 : Int32) (h : z_T) : Option (Int32 × z_T) :=
  y_gd (z_ok h o0 11) <|
  y_nm (z_sI h o0 0 (0 : Int32)) fun h2 =>
  y_bi (fX12_areDrawn o0 x1 h2) fun r4 =>
  y_br (r4 = 0)
    (some ((-1 : Int32), h2))
    (y_bi (fX12_keep o0 h2) fun h10 =>
    y_gd (z_ok h10 o0 11) <|
    y_bi (fX12_draws o0 x1 x2 h10) fun ⟨r12, h16⟩ =>
    some (r12, h16))
set_option maxHeartbeats 4000000 in
set_option maxRecDepth 100000 in
theorem mm_X12_drawn {G : z_Gt} {S : State → Prop} (hSK : z_SK S) (l : Launch) (ad : Nat → Nat) (o0 : Nat) (x1 : Int32) (x2 : Int32) (h : z_T) {r0 : Int32} {h9 : z_T} (hv : fX12_drawn o0 x1 x2 h = some (r0, h9)) : z_Mi G S l yX12_drawn cX12_drawn 3 (.int) rm_X12_drawn 0 0 [.ref (ad o0), .int x1, .int x2] ad h h9 r0 := by
  refine z_ofW hSK (by decide) (Nat.le_of_ble_eq_true rfl) ?_
  intro p e s m args below meth c ls hc hr hnm hB hl
  have hx := hc.1.1
  have hb := hc.1.2.1
  have hown := hc.1.2.2.2.1
  have hts := hc.1.2.2.2.2
  replace hc : z_C G S ad (z_n h) p m c cX12_drawn 3 s args RX12 meth := hc
  replace hown : s.vm.findClass RX12 = some m.cls := hown
  replace hl : lv_has ls 3 [(0, .ref (ad o0)), (1, .int x1), (2, .int x2)] := hl
  show W p l e rm_X12_drawn s m args below meth c s.heap [] 0 0 (MQ below (z_Qi G ad h9 (z_n h) s.heap.size r0) args s 0 0 (z_A ad (z_n h) s.heap.size)) (F0 m 0 ls [])
  obtain ⟨rs, kt⟩ : ∃ rs : Int32 × z_T, rs = (r0, h9) := ⟨_, rfl⟩
  generalize hn0 : z_n h = n0 at hc hB ⊢
  rw [← kt] at hv
  refine lv_aload_n hx hb dX12_drawn_0 rfl (lv_at hl 0 rfl) ?_
  refine lv_iconst (v := (0 : Int32)) hx hb dX12_drawn_1 (by decide) ?_
  obtain ⟨g1, hv⟩ := y_gd_e hv
  obtain ⟨h2, eh2, hv⟩ := y_nm_e hv
  refine y_putI hc hB 11 0 eh2 g1 (z_l1 hc qfX12_1) dX12_drawn_2 (by decide) (by decide) rfl rfl rfl rfl (fun H locs hB => ?_)
  refine lv_aload_n hx hb dX12_drawn_5 rfl (lv_at hl 0 rfl) ?_
  refine lv_iload_n hx hb dX12_drawn_6 rfl (lv_at hl 1 rfl) ?_
  obtain ⟨r4, c3, hv⟩ := y_bi_e hv
  refine z_thI hc hB (z_runV hc hB 11 (mm_X12_areDrawn hSK l ad o0 x1 h2 c3) md_X12_areDrawn qmX12_419 (by rw [eh2]; exact g1) (by decide) rfl rfl rfl ⟨Nat.le_of_ble_eq_true rfl, Nat.le_of_ble_eq_true rfl⟩ rfl hl.1 rfl (Nat.le_of_ble_eq_true rfl) dX12_drawn_7 ⟨Nat.le_of_ble_eq_true rfl, Nat.le_of_ble_eq_true rfl⟩) (fun H locs hB => ?_)
  refine lv_if_ne (tgt := 15) hx hb dX12_drawn_10 (by decide) (fun c8 => ?_) (fun c8 => ?_)
  · replace hv := y_br_f hv c8
    refine lv_aload_n hx hb dX12_drawn_15 rfl (lv_at hl 0 rfl) ?_
    obtain ⟨h10, c9, hv⟩ := y_bi_e hv
    refine z_thV hc hB (z_runV hc hB 11 (mm_X12_keep hSK l ad o0 h2 c9) md_X12_keep qmX12_268 (by rw [eh2]; exact g1) (by decide) rfl rfl rfl ⟨Nat.le_of_ble_eq_true rfl, Nat.le_of_ble_eq_true rfl⟩ rfl hl.1 rfl (Nat.le_of_ble_eq_true rfl) dX12_drawn_16 ⟨Nat.le_of_ble_eq_true rfl, Nat.le_of_ble_eq_true rfl⟩) (fun H locs hB => ?_)
    refine lv_aload_n hx hb dX12_drawn_19 rfl (lv_at hl 0 rfl) ?_
    refine lv_iload_n hx hb dX12_drawn_20 rfl (lv_at hl 1 rfl) ?_
    refine lv_iload_n hx hb dX12_drawn_21 rfl (lv_at hl 2 rfl) ?_
    obtain ⟨g17, hv⟩ := y_gd_e hv
    obtain ⟨⟨r12, h16⟩, c11, hv⟩ := y_bi_e hv
    refine z_thI hc hB (z_runV hc hB 11 (mm_X12_draws hSK l ad o0 x1 x2 h10 c11) md_X12_draws qmX12_422 g17 (by decide) rfl rfl rfl ⟨Nat.le_of_ble_eq_true rfl, Nat.le_of_ble_eq_true rfl⟩ rfl hl.1 rfl (Nat.le_of_ble_eq_true rfl) dX12_drawn_22 ⟨Nat.le_of_ble_eq_true rfl, Nat.le_of_ble_eq_true rfl⟩) (fun H locs hB => ?_)
    replace hv := Option.some.inj hv
    subst hv
    obtain ⟨e1, e2⟩ := y_pr kt
    rw [← e1, ← e2]
    exact z_iret hc hB hr dX12_drawn_25
  · replace hv := y_br_t hv c8
    refine lv_iconst (v := (-1 : Int32)) hx hb dX12_drawn_13 (by decide) ?_
    replace hv := Option.some.inj hv
    subst hv
    obtain ⟨e1, e2⟩ := y_pr kt
    rw [← e1, ← e2]
    exact z_iret hc hB hr dX12_drawn_14
theorem dX12_wrongs_0 : decode cX12_wrongs 0 = .ok (.aload_n 0, 1) := by decide +kernel
theorem dX12_wrongs_1 : decode cX12_wrongs 1 = .ok (.iconst 0, 1) := by decide +kernel
theorem dX12_wrongs_2 : decode cX12_wrongs 2 = .ok (.putfield 1, 3) := by decide +kernel
theorem dX12_wrongs_5 : decode cX12_wrongs 5 = .ok (.iload_n 1, 1) := by decide +kernel
theorem dX12_wrongs_6 : decode cX12_wrongs 6 = .ok (.iconst 1, 1) := by decide +kernel
theorem dX12_wrongs_7 : decode cX12_wrongs 7 = .ok (.bipush 60, 2) := by decide +kernel
theorem dX12_wrongs_9 : decode cX12_wrongs 9 = .ok (.invokestatic 188, 3) := by decide +kernel
theorem dX12_wrongs_12 : decode cX12_wrongs 12 = .ok (.ifCond .eq 11, 3) := by decide +kernel
theorem dX12_wrongs_15 : decode cX12_wrongs 15 = .ok (.aload_n 0, 1) := by decide +kernel
theorem dX12_wrongs_16 : decode cX12_wrongs 16 = .ok (.iload_n 2, 1) := by decide +kernel
theorem dX12_wrongs_17 : decode cX12_wrongs 17 = .ok (.invokevirtual 419, 3) := by decide +kernel
theorem dX12_wrongs_20 : decode cX12_wrongs 20 = .ok (.ifCond .ne 5, 3) := by decide +kernel
theorem dX12_wrongs_23 : decode cX12_wrongs 23 = .ok (.iconst (-1), 1) := by decide +kernel
theorem dX12_wrongs_24 : decode cX12_wrongs 24 = .ok (.ireturn, 1) := by decide +kernel
theorem dX12_wrongs_25 : decode cX12_wrongs 25 = .ok (.aload_n 0, 1) := by decide +kernel
theorem dX12_wrongs_26 : decode cX12_wrongs 26 = .ok (.invokevirtual 399, 3) := by decide +kernel
theorem dX12_wrongs_29 : decode cX12_wrongs 29 = .ok (.iconst 0, 1) := by decide +kernel
theorem dX12_wrongs_30 : decode cX12_wrongs 30 = .ok (.istore 4, 2) := by decide +kernel
theorem dX12_wrongs_32 : decode cX12_wrongs 32 = .ok (.iconst 0, 1) := by decide +kernel
theorem dX12_wrongs_33 : decode cX12_wrongs 33 = .ok (.istore 5, 2) := by decide +kernel
theorem dX12_wrongs_35 : decode cX12_wrongs 35 = .ok (.iload 5, 2) := by decide +kernel
theorem dX12_wrongs_37 : decode cX12_wrongs 37 = .ok (.iload_n 1, 1) := by decide +kernel
theorem dX12_wrongs_38 : decode cX12_wrongs 38 = .ok (.if_icmp .ge 43, 3) := by decide +kernel
theorem dX12_wrongs_41 : decode cX12_wrongs 41 = .ok (.iload 4, 2) := by decide +kernel
theorem dX12_wrongs_43 : decode cX12_wrongs 43 = .ok (.aload_n 0, 1) := by decide +kernel
theorem dX12_wrongs_44 : decode cX12_wrongs 44 = .ok (.iload_n 2, 1) := by decide +kernel
theorem dX12_wrongs_45 : decode cX12_wrongs 45 = .ok (.iload_n 3, 1) := by decide +kernel
theorem dX12_wrongs_46 : decode cX12_wrongs 46 = .ok (.iload 5, 2) := by decide +kernel
theorem dX12_wrongs_48 : decode cX12_wrongs 48 = .ok (.iadd, 1) := by decide +kernel
theorem dX12_wrongs_49 : decode cX12_wrongs 49 = .ok (.invokevirtual 422, 3) := by decide +kernel
theorem dX12_wrongs_52 : decode cX12_wrongs 52 = .ok (.ifCond .ne 7, 3) := by decide +kernel
theorem dX12_wrongs_55 : decode cX12_wrongs 55 = .ok (.iconst 1, 1) := by decide +kernel
theorem dX12_wrongs_56 : decode cX12_wrongs 56 = .ok (.goto 4, 3) := by decide +kernel
theorem dX12_wrongs_59 : decode cX12_wrongs 59 = .ok (.iconst 0, 1) := by decide +kernel
theorem dX12_wrongs_60 : decode cX12_wrongs 60 = .ok (.aload_n 0, 1) := by decide +kernel
theorem dX12_wrongs_61 : decode cX12_wrongs 61 = .ok (.invokevirtual 286, 3) := by decide +kernel
theorem dX12_wrongs_64 : decode cX12_wrongs 64 = .ok (.if_icmp .ne 7, 3) := by decide +kernel
theorem dX12_wrongs_67 : decode cX12_wrongs 67 = .ok (.iconst 0, 1) := by decide +kernel
theorem dX12_wrongs_68 : decode cX12_wrongs 68 = .ok (.goto 4, 3) := by decide +kernel
theorem dX12_wrongs_71 : decode cX12_wrongs 71 = .ok (.iconst 1, 1) := by decide +kernel
theorem dX12_wrongs_72 : decode cX12_wrongs 72 = .ok (.iadd, 1) := by decide +kernel
theorem dX12_wrongs_73 : decode cX12_wrongs 73 = .ok (.istore 4, 2) := by decide +kernel
theorem dX12_wrongs_75 : decode cX12_wrongs 75 = .ok (.iinc 5 1, 3) := by decide +kernel
theorem dX12_wrongs_78 : decode cX12_wrongs 78 = .ok (.goto (-43), 3) := by decide +kernel
theorem dX12_wrongs_81 : decode cX12_wrongs 81 = .ok (.aload_n 0, 1) := by decide +kernel
theorem dX12_wrongs_82 : decode cX12_wrongs 82 = .ok (.invokevirtual 409, 3) := by decide +kernel
theorem dX12_wrongs_85 : decode cX12_wrongs 85 = .ok (.iload 4, 2) := by decide +kernel
theorem dX12_wrongs_87 : decode cX12_wrongs 87 = .ok (.ireturn, 1) := by decide +kernel
abbrev rm_X12_wrongs : Room := { frames := 5, cells := 0, slots := 0, locals := 114 }
noncomputable def fX12_wrongs_b72 (o0 : Nat) (x1 : Int32) (x2 : Int32) (x3 : Int32) (x5 : Int32) (s0 : Int32) (s1 : Int32) (h : z_T) : Option ((Int32 × Int32 × z_T) ⊕ (Int32 × z_T)) :=
  y_nm ((s0 + s1)) fun v1 =>
  y_nm (x5 + 1) fun v2 =>
  some (.inl (v1, v2, h))
noncomputable def fX12_wrongs_b60 (o0 : Nat) (x1 : Int32) (x2 : Int32) (x3 : Int32) (x5 : Int32) (s0 : Int32) (s1 : Int32) (h : z_T) : Option ((Int32 × Int32 × z_T) ⊕ (Int32 × z_T)) :=
  y_gd (z_ok h o0 11) <|
  y_bi (fX12_isUp o0 h) fun ⟨r4, h8⟩ =>
  y_br (s1 = r4)
    (fX12_wrongs_b72 o0 x1 x2 x3 x5 s0 (0 : Int32) h8)
    (fX12_wrongs_b72 o0 x1 x2 x3 x5 s0 (1 : Int32) h8)
noncomputable def fX12_wrongs_b35_i (o0 : Nat) (x1 : Int32) (x2 : Int32) (x3 : Int32) (x4 : Int32) (x5 : Int32) (h : z_T) : Option ((Int32 × Int32 × z_T) ⊕ (Int32 × z_T)) :=
  y_br (x1 ≤ x5)
    (y_mp <|
    y_gd (z_ok h o0 11) <|
    y_bi (fX12_back o0 h) fun h14 =>
    some (x4, h14))
    (y_gd (z_ok h o0 11) <|
    y_bi (fX12_draws o0 x2 (x3 + x5) h) fun ⟨r17, h21⟩ =>
    y_br (r17 = 0)
      (fX12_wrongs_b60 o0 x1 x2 x3 x5 x4 (1 : Int32) h21)
      (fX12_wrongs_b60 o0 x1 x2 x3 x5 x4 (0 : Int32) h21))
noncomputable def fX12_wrongs_b35 (o0 : Nat) (x1 : Int32) (x2 : Int32) (x3 : Int32) (x4 : Int32) (x5 : Int32) (h : z_T) : Option (Int32 × z_T) := y_lp (fun q : Int32 × Int32 × z_T => fX12_wrongs_b35_i o0 x1 x2 x3 q.1 q.2.1 q.2.2) (x4, x5, h)
noncomputable def fX12_wrongs (o0 : Nat) (x1 : Int32) (x2 : Int32) (x3 : Int32) (h : z_T) : Option (Int32 × z_T) :=
  y_gd (z_ok h o0 11) <|
  y_nm (z_sI h o0 0 (0 : Int32)) fun h25 =>
  y_bi (fX12_isIn x1 (1 : Int32) (60 : Int32)) fun r27 =>
  y_br (r27 = 0)
    (some ((-1 : Int32), h25))
    (y_bi (fX12_areDrawn o0 x2 h25) fun r33 =>
    y_br (r33 = 0)
      (some ((-1 : Int32), h25))
      (y_bi (fX12_tries o0 h25) fun h39 =>
      fX12_wrongs_b35 o0 x1 x2 x3 (0 : Int32) (0 : Int32) h39))
set_option maxHeartbeats 4000000 in
set_option maxRecDepth 100000 in
theorem mm_X12_wrongs {G : z_Gt} {S : State → Prop} (hSK : z_SK S) (l : Launch) (ad : Nat → Nat) (o0 : Nat) (x1 : Int32) (x2 : Int32) (x3 : Int32) (h : z_T) {r0 : Int32} {h9 : z_T} (hv : fX12_wrongs o0 x1 x2 x3 h = some (r0, h9)) : z_Mi G S l yX12_wrongs cX12_wrongs 6 (.int) rm_X12_wrongs 0 0 [.ref (ad o0), .int x1, .int x2, .int x3] ad h h9 r0 := by
  refine z_ofW hSK (by decide) (Nat.le_of_ble_eq_true rfl) ?_
  intro p e s m args below meth c ls hc hr hnm hB hl
  have hx := hc.1.1
  have hb := hc.1.2.1
  have hown := hc.1.2.2.2.1
  have hts := hc.1.2.2.2.2
  replace hc : z_C G S ad (z_n h) p m c cX12_wrongs 6 s args RX12 meth := hc
  replace hown : s.vm.findClass RX12 = some m.cls := hown
  replace hl : lv_has ls 6 [(0, .ref (ad o0)), (1, .int x1), (2, .int x2), (3, .int x3)] := hl
  show W p l e rm_X12_wrongs s m args below meth c s.heap [] 0 0 (MQ below (z_Qi G ad h9 (z_n h) s.heap.size r0) args s 0 0 (z_A ad (z_n h) s.heap.size)) (F0 m 0 ls [])
  obtain ⟨rs, kt⟩ : ∃ rs : Int32 × z_T, rs = (r0, h9) := ⟨_, rfl⟩
  generalize hn0 : z_n h = n0 at hc hB ⊢
  have L35 : ∀ (nn35 : Nat) (x4 : Int32) (x5 : Int32) (h : z_T) (H : Heap) (locs : List Loc) (ls : Array Slot), z_B G ad n0 s h H locs → lv_has ls 6 [(0, .ref (ad o0)), (1, .int x1), (2, .int x2), (3, .int x3), (4, .int x4), (5, .int x5)] → ∀ vv35, y_lpN (fun q : Int32 × Int32 × z_T => fX12_wrongs_b35_i o0 x1 x2 x3 q.1 q.2.1 q.2.2) nn35 (x4, x5, h) = some vv35 → vv35 = (r0, h9) → W p l e rm_X12_wrongs s m args below meth c H locs 0 0 (MQ below (z_Qi G ad h9 n0 s.heap.size r0) args s 0 0 (z_A ad n0 s.heap.size)) (F0 m 35 ls []) := by
    intro nn35
    induction nn35 with
    | zero => intro x4 x5 h H locs ls hB hl vv35 hv kv35; exact absurd hv (fun q => y_lpN_0 q)
    | succ nn35 ih35 =>
      intro x4 x5 h H locs ls hB hl vv35 hv kv35
      obtain ⟨w, hq, kw35⟩ := y_lpN_e hv
      clear hv
      have hv : fX12_wrongs_b35_i o0 x1 x2 x3 x4 x5 h = some w := hq
      clear hq
      have b72 : ∀ (x5 : Int32) (s0 : Int32) (s1 : Int32) (h : z_T) (H : Heap) (locs : List Loc) (ls : Array Slot), z_B G ad n0 s h H locs → lv_has ls 6 [(0, .ref (ad o0)), (1, .int x1), (2, .int x2), (3, .int x3), (5, .int x5)] → ∀ w, fX12_wrongs_b72 o0 x1 x2 x3 x5 s0 s1 h = some w → y_lq (fun q : Int32 × Int32 × z_T => fX12_wrongs_b35_i o0 x1 x2 x3 q.1 q.2.1 q.2.2) nn35 vv35 w → W p l e rm_X12_wrongs s m args below meth c H locs 0 0 (MQ below (z_Qi G ad h9 n0 s.heap.size r0) args s 0 0 (z_A ad n0 s.heap.size)) (F0 m 72 ls [.int s1, .int s0]) := by
        intro x5 s0 s1 h H locs ls hB hl w hv kw35
        refine lv_iadd hx hb dX12_wrongs_72 ?_
        obtain ⟨v1, ev1, hv⟩ := y_nm_e hv
        rw [← ev1]
        refine lv_istore (lv' := [(4, .int v1), (0, .ref (ad o0)), (1, .int x1), (2, .int x2), (3, .int x3), (5, .int x5)]) hx hb dX12_wrongs_73 hl (by decide) rfl (fun ls hl => ?_)
        obtain ⟨v2, ev2, hv⟩ := y_nm_e hv
        refine lv_iinc (v := v2) (lv' := [(5, .int v2), (4, .int v1), (0, .ref (ad o0)), (1, .int x1), (2, .int x2), (3, .int x3)]) hx hb dX12_wrongs_75 hl (k := 5) rfl (by rw [ev2]; rfl) (by decide) rfl (fun ls hl => ?_)
        refine lv_goto (tgt := 35) hx hb dX12_wrongs_78 (by decide) ?_
        replace hv := Option.some.inj hv
        subst hv
        exact ih35 v1 v2 h _ _ _ hB (lv_sub hl [2, 3, 4, 5, 1, 0] rfl) _ kw35 kv35
      have b60 : ∀ (x5 : Int32) (s0 : Int32) (s1 : Int32) (h : z_T) (H : Heap) (locs : List Loc) (ls : Array Slot), z_B G ad n0 s h H locs → lv_has ls 6 [(0, .ref (ad o0)), (1, .int x1), (2, .int x2), (3, .int x3), (5, .int x5)] → ∀ w, fX12_wrongs_b60 o0 x1 x2 x3 x5 s0 s1 h = some w → y_lq (fun q : Int32 × Int32 × z_T => fX12_wrongs_b35_i o0 x1 x2 x3 q.1 q.2.1 q.2.2) nn35 vv35 w → W p l e rm_X12_wrongs s m args below meth c H locs 0 0 (MQ below (z_Qi G ad h9 n0 s.heap.size r0) args s 0 0 (z_A ad n0 s.heap.size)) (F0 m 60 ls [.int s1, .int s0]) := by
        intro x5 s0 s1 h H locs ls hB hl w hv kw35
        refine lv_aload_n hx hb dX12_wrongs_60 rfl (lv_at hl 0 rfl) ?_
        obtain ⟨g9, hv⟩ := y_gd_e hv
        obtain ⟨⟨r4, h8⟩, c3, hv⟩ := y_bi_e hv
        refine z_thI hc hB (z_runV hc hB 11 (mm_X12_isUp hSK l ad o0 h c3) md_X12_isUp qmX12_286 g9 (by decide) rfl rfl rfl ⟨Nat.le_of_ble_eq_true rfl, Nat.le_of_ble_eq_true rfl⟩ rfl hl.1 rfl (Nat.le_of_ble_eq_true rfl) dX12_wrongs_61 ⟨Nat.le_of_ble_eq_true rfl, Nat.le_of_ble_eq_true rfl⟩) (fun H locs hB => ?_)
        refine lv_icmp_ne (tgt := 71) hx hb dX12_wrongs_64 (by decide) (fun c10 => ?_) (fun c10 => ?_)
        · replace hv := y_br_f hv c10
          refine lv_iconst (v := (1 : Int32)) hx hb dX12_wrongs_71 (by decide) ?_
          exact b72 x5 s0 (1 : Int32) h8 _ _ _ hB (lv_sub hl [0, 1, 2, 3, 4] rfl) _ hv kw35
        · replace hv := y_br_t hv c10
          refine lv_iconst (v := (0 : Int32)) hx hb dX12_wrongs_67 (by decide) ?_
          refine lv_goto (tgt := 72) hx hb dX12_wrongs_68 (by decide) ?_
          exact b72 x5 s0 (0 : Int32) h8 _ _ _ hB (lv_sub hl [0, 1, 2, 3, 4] rfl) _ hv kw35
      refine lv_iload hx hb dX12_wrongs_35 (lv_at hl 5 rfl) ?_
      refine lv_iload_n hx hb dX12_wrongs_37 rfl (lv_at hl 1 rfl) ?_
      refine lv_icmp_ge (tgt := 81) hx hb dX12_wrongs_38 (by decide) (fun c11 => ?_) (fun c11 => ?_)
      · replace hv := y_br_t hv c11
        obtain ⟨t12, hq, ew⟩ := y_mp_e hv
        clear hv; subst ew
        replace kw35 : t12 = _ := kw35
        subst kw35
        have hv := hq
        clear hq
        refine lv_aload_n hx hb dX12_wrongs_81 rfl (lv_at hl 0 rfl) ?_
        obtain ⟨g15, hv⟩ := y_gd_e hv
        obtain ⟨h14, c13, hv⟩ := y_bi_e hv
        refine z_thV hc hB (z_runV hc hB 11 (mm_X12_back hSK l ad o0 h c13) md_X12_back qmX12_409 g15 (by decide) rfl rfl rfl ⟨Nat.le_of_ble_eq_true rfl, Nat.le_of_ble_eq_true rfl⟩ rfl hl.1 rfl (Nat.le_of_ble_eq_true rfl) dX12_wrongs_82 ⟨Nat.le_of_ble_eq_true rfl, Nat.le_of_ble_eq_true rfl⟩) (fun H locs hB => ?_)
        refine lv_iload hx hb dX12_wrongs_85 (lv_at hl 4 rfl) ?_
        replace hv := Option.some.inj hv
        subst hv
        obtain ⟨e1, e2⟩ := y_pr kv35
        rw [← e1, ← e2]
        exact z_iret hc hB hr dX12_wrongs_87
      · replace hv := y_br_f hv c11
        refine lv_iload hx hb dX12_wrongs_41 (lv_at hl 4 rfl) ?_
        refine lv_aload_n hx hb dX12_wrongs_43 rfl (lv_at hl 0 rfl) ?_
        refine lv_iload_n hx hb dX12_wrongs_44 rfl (lv_at hl 2 rfl) ?_
        refine lv_iload_n hx hb dX12_wrongs_45 rfl (lv_at hl 3 rfl) ?_
        refine lv_iload hx hb dX12_wrongs_46 (lv_at hl 5 rfl) ?_
        refine lv_iadd hx hb dX12_wrongs_48 ?_
        obtain ⟨g22, hv⟩ := y_gd_e hv
        obtain ⟨⟨r17, h21⟩, c16, hv⟩ := y_bi_e hv
        refine z_thI hc hB (z_runV hc hB 11 (mm_X12_draws hSK l ad o0 x2 (x3 + x5) h c16) md_X12_draws qmX12_422 g22 (by decide) rfl rfl rfl ⟨Nat.le_of_ble_eq_true rfl, Nat.le_of_ble_eq_true rfl⟩ rfl hl.1 rfl (Nat.le_of_ble_eq_true rfl) dX12_wrongs_49 ⟨Nat.le_of_ble_eq_true rfl, Nat.le_of_ble_eq_true rfl⟩) (fun H locs hB => ?_)
        refine lv_if_ne (tgt := 59) hx hb dX12_wrongs_52 (by decide) (fun c23 => ?_) (fun c23 => ?_)
        · replace hv := y_br_f hv c23
          refine lv_iconst (v := (0 : Int32)) hx hb dX12_wrongs_59 (by decide) ?_
          exact b60 x5 x4 (0 : Int32) h21 _ _ _ hB (lv_sub hl [0, 1, 2, 3, 5] rfl) _ hv kw35
        · replace hv := y_br_t hv c23
          refine lv_iconst (v := (1 : Int32)) hx hb dX12_wrongs_55 (by decide) ?_
          refine lv_goto (tgt := 60) hx hb dX12_wrongs_56 (by decide) ?_
          exact b60 x5 x4 (1 : Int32) h21 _ _ _ hB (lv_sub hl [0, 1, 2, 3, 5] rfl) _ hv kw35
  rw [← kt] at hv
  refine lv_aload_n hx hb dX12_wrongs_0 rfl (lv_at hl 0 rfl) ?_
  refine lv_iconst (v := (0 : Int32)) hx hb dX12_wrongs_1 (by decide) ?_
  obtain ⟨g24, hv⟩ := y_gd_e hv
  obtain ⟨h25, eh25, hv⟩ := y_nm_e hv
  refine y_putI hc hB 11 0 eh25 g24 (z_l1 hc qfX12_1) dX12_wrongs_2 (by decide) (by decide) rfl rfl rfl rfl (fun H locs hB => ?_)
  refine lv_iload_n hx hb dX12_wrongs_5 rfl (lv_at hl 1 rfl) ?_
  refine lv_iconst (v := (1 : Int32)) hx hb dX12_wrongs_6 (by decide) ?_
  refine lv_bipush (v := (60 : Int32)) hx hb dX12_wrongs_7 (by decide) ?_
  obtain ⟨r27, c26, hv⟩ := y_bi_e hv
  refine z_thI hc hB (z_runS hc hB (mm_X12_isIn hSK l ad x1 (1 : Int32) (60 : Int32) h25 c26) md_X12_isIn qmX12_188 rfl rfl ⟨Nat.le_of_ble_eq_true rfl, Nat.le_of_ble_eq_true rfl⟩ rfl hl.1 rfl (Nat.le_of_ble_eq_true rfl) dX12_wrongs_9 ⟨Nat.le_of_ble_eq_true rfl, Nat.le_of_ble_eq_true rfl⟩) (fun H locs hB => ?_)
  refine lv_if_eq (tgt := 23) hx hb dX12_wrongs_12 (by decide) (fun c31 => ?_) (fun c31 => ?_)
  · replace hv := y_br_t hv c31
    refine lv_iconst (v := (-1 : Int32)) hx hb dX12_wrongs_23 (by decide) ?_
    replace hv := Option.some.inj hv
    subst hv
    obtain ⟨e1, e2⟩ := y_pr kt
    rw [← e1, ← e2]
    exact z_iret hc hB hr dX12_wrongs_24
  · replace hv := y_br_f hv c31
    refine lv_aload_n hx hb dX12_wrongs_15 rfl (lv_at hl 0 rfl) ?_
    refine lv_iload_n hx hb dX12_wrongs_16 rfl (lv_at hl 2 rfl) ?_
    obtain ⟨r33, c32, hv⟩ := y_bi_e hv
    refine z_thI hc hB (z_runV hc hB 11 (mm_X12_areDrawn hSK l ad o0 x2 h25 c32) md_X12_areDrawn qmX12_419 (by rw [eh25]; exact g24) (by decide) rfl rfl rfl ⟨Nat.le_of_ble_eq_true rfl, Nat.le_of_ble_eq_true rfl⟩ rfl hl.1 rfl (Nat.le_of_ble_eq_true rfl) dX12_wrongs_17 ⟨Nat.le_of_ble_eq_true rfl, Nat.le_of_ble_eq_true rfl⟩) (fun H locs hB => ?_)
    refine lv_if_ne (tgt := 25) hx hb dX12_wrongs_20 (by decide) (fun c37 => ?_) (fun c37 => ?_)
    · replace hv := y_br_f hv c37
      refine lv_aload_n hx hb dX12_wrongs_25 rfl (lv_at hl 0 rfl) ?_
      obtain ⟨h39, c38, hv⟩ := y_bi_e hv
      refine z_thV hc hB (z_runV hc hB 11 (mm_X12_tries hSK l ad o0 h25 c38) md_X12_tries qmX12_399 (by rw [eh25]; exact g24) (by decide) rfl rfl rfl ⟨Nat.le_of_ble_eq_true rfl, Nat.le_of_ble_eq_true rfl⟩ rfl hl.1 rfl (Nat.le_of_ble_eq_true rfl) dX12_wrongs_26 ⟨Nat.le_of_ble_eq_true rfl, Nat.le_of_ble_eq_true rfl⟩) (fun H locs hB => ?_)
      refine lv_iconst (v := (0 : Int32)) hx hb dX12_wrongs_29 (by decide) ?_
      refine lv_istore (lv' := [(4, .int (0 : Int32)), (0, .ref (ad o0)), (1, .int x1), (2, .int x2), (3, .int x3)]) hx hb dX12_wrongs_30 hl (by decide) rfl (fun ls hl => ?_)
      refine lv_iconst (v := (0 : Int32)) hx hb dX12_wrongs_32 (by decide) ?_
      refine lv_istore (lv' := [(5, .int (0 : Int32)), (4, .int (0 : Int32)), (0, .ref (ad o0)), (1, .int x1), (2, .int x2), (3, .int x3)]) hx hb dX12_wrongs_33 hl (by decide) rfl (fun ls hl => ?_)
      obtain ⟨n, hv⟩ := y_lp_e hv
      exact L35 n (0 : Int32) (0 : Int32) h39 _ _ _ hB (lv_sub hl [2, 3, 4, 5, 1, 0] rfl) _ hv kt
    · replace hv := y_br_t hv c37
      refine lv_iconst (v := (-1 : Int32)) hx hb dX12_wrongs_23 (by decide) ?_
      replace hv := Option.some.inj hv
      subst hv
      obtain ⟨e1, e2⟩ := y_pr kt
      rw [← e1, ← e2]
      exact z_iret hc hB hr dX12_wrongs_24
theorem qfX12_425 : Cond.fieldLink RX12 425 "DreamTestsModel" "codes" "I" ∈ z_ws := List.mem_filter.mpr ⟨List.mem_append_right _ (List.mem_of_getElem? (i := 1348) (by decide +kernel)), rfl⟩
theorem dX12_code_0 : decode cX12_code 0 = .ok (.aload_n 0, 1) := by decide +kernel
theorem dX12_code_1 : decode cX12_code 1 = .ok (.getfield 40, 3) := by decide +kernel
theorem dX12_code_4 : decode cX12_code 4 = .ok (.iconst 3, 1) := by decide +kernel
theorem dX12_code_5 : decode cX12_code 5 = .ok (.aload_n 0, 1) := by decide +kernel
theorem dX12_code_6 : decode cX12_code 6 = .ok (.getfield 425, 3) := by decide +kernel
theorem dX12_code_9 : decode cX12_code 9 = .ok (.imul, 1) := by decide +kernel
theorem dX12_code_10 : decode cX12_code 10 = .ok (.iload_n 1, 1) := by decide +kernel
theorem dX12_code_11 : decode cX12_code 11 = .ok (.iastore, 1) := by decide +kernel
theorem dX12_code_12 : decode cX12_code 12 = .ok (.aload_n 0, 1) := by decide +kernel
theorem dX12_code_13 : decode cX12_code 13 = .ok (.getfield 40, 3) := by decide +kernel
theorem dX12_code_16 : decode cX12_code 16 = .ok (.iconst 3, 1) := by decide +kernel
theorem dX12_code_17 : decode cX12_code 17 = .ok (.aload_n 0, 1) := by decide +kernel
theorem dX12_code_18 : decode cX12_code 18 = .ok (.getfield 425, 3) := by decide +kernel
theorem dX12_code_21 : decode cX12_code 21 = .ok (.imul, 1) := by decide +kernel
theorem dX12_code_22 : decode cX12_code 22 = .ok (.iconst 1, 1) := by decide +kernel
theorem dX12_code_23 : decode cX12_code 23 = .ok (.iadd, 1) := by decide +kernel
theorem dX12_code_24 : decode cX12_code 24 = .ok (.iload_n 2, 1) := by decide +kernel
theorem dX12_code_25 : decode cX12_code 25 = .ok (.iastore, 1) := by decide +kernel
theorem dX12_code_26 : decode cX12_code 26 = .ok (.aload_n 0, 1) := by decide +kernel
theorem dX12_code_27 : decode cX12_code 27 = .ok (.getfield 40, 3) := by decide +kernel
theorem dX12_code_30 : decode cX12_code 30 = .ok (.iconst 3, 1) := by decide +kernel
theorem dX12_code_31 : decode cX12_code 31 = .ok (.aload_n 0, 1) := by decide +kernel
theorem dX12_code_32 : decode cX12_code 32 = .ok (.getfield 425, 3) := by decide +kernel
theorem dX12_code_35 : decode cX12_code 35 = .ok (.imul, 1) := by decide +kernel
theorem dX12_code_36 : decode cX12_code 36 = .ok (.iconst 2, 1) := by decide +kernel
theorem dX12_code_37 : decode cX12_code 37 = .ok (.iadd, 1) := by decide +kernel
theorem dX12_code_38 : decode cX12_code 38 = .ok (.iload_n 3, 1) := by decide +kernel
theorem dX12_code_39 : decode cX12_code 39 = .ok (.iastore, 1) := by decide +kernel
theorem dX12_code_40 : decode cX12_code 40 = .ok (.aload_n 0, 1) := by decide +kernel
theorem dX12_code_41 : decode cX12_code 41 = .ok (.dup, 1) := by decide +kernel
theorem dX12_code_42 : decode cX12_code 42 = .ok (.getfield 425, 3) := by decide +kernel
theorem dX12_code_45 : decode cX12_code 45 = .ok (.iconst 1, 1) := by decide +kernel
theorem dX12_code_46 : decode cX12_code 46 = .ok (.iadd, 1) := by decide +kernel
theorem dX12_code_47 : decode cX12_code 47 = .ok (.putfield 425, 3) := by decide +kernel
theorem dX12_code_50 : decode cX12_code 50 = .ok (.return_, 1) := by decide +kernel
abbrev rm_X12_code : Room := { frames := 0, cells := 0, slots := 0, locals := 0 }
noncomputable def fX12_code (o0 : Nat) (x1 : Int32) (x2 : Int32) (x3 : Int32) (h : z_T) : Option (z_T) :=
  y_gd (z_ok h o0 11) <|
  y_bi (z_R h o0 8) fun o2 =>
  y_gd (z_ok h o2 13) <|
  y_gd (z_ix ((3 : Int32) * (z_I h o0 48)) (z_N h o2)) <|
  y_nm (z_sI h o2 ((3 : Int32) * (z_I h o0 48)).toNatClampNeg x1) fun h5 =>
  y_gd (z_ix (((3 : Int32) * (z_I h5 o0 48)) + (1 : Int32)) (z_N h5 o2)) <|
  y_nm (z_sI h5 o2 (((3 : Int32) * (z_I h5 o0 48)) + (1 : Int32)).toNatClampNeg x2) fun h7 =>
  y_gd (z_ix (((3 : Int32) * (z_I h7 o0 48)) + (2 : Int32)) (z_N h7 o2)) <|
  y_nm (z_sI h7 o2 (((3 : Int32) * (z_I h7 o0 48)) + (2 : Int32)).toNatClampNeg x3) fun h9 =>
  y_nm (z_sI h9 o0 48 ((z_I h9 o0 48) + (1 : Int32))) fun h10 =>
  some h10
set_option maxHeartbeats 4000000 in
set_option maxRecDepth 100000 in
theorem mm_X12_code {G : z_Gt} {S : State → Prop} (hSK : z_SK S) (l : Launch) (ad : Nat → Nat) (o0 : Nat) (x1 : Int32) (x2 : Int32) (x3 : Int32) (h : z_T) {h9 : z_T} (hv : fX12_code o0 x1 x2 x3 h = some h9) : z_Mv G S l yX12_code cX12_code 4 rm_X12_code 0 0 [.ref (ad o0), .int x1, .int x2, .int x3] ad h h9 := by
  refine z_ofW hSK (by decide) (Nat.le_of_ble_eq_true rfl) ?_
  intro p e s m args below meth c ls hc hr hnm hB hl
  have hx := hc.1.1
  have hb := hc.1.2.1
  have hown := hc.1.2.2.2.1
  have hts := hc.1.2.2.2.2
  replace hc : z_C G S ad (z_n h) p m c cX12_code 4 s args RX12 meth := hc
  replace hown : s.vm.findClass RX12 = some m.cls := hown
  replace hl : lv_has ls 4 [(0, .ref (ad o0)), (1, .int x1), (2, .int x2), (3, .int x3)] := hl
  show W p l e rm_X12_code s m args below meth c s.heap [] 0 0 (MQ below (z_Qv G ad h9 (z_n h) s.heap.size) args s 0 0 (z_A ad (z_n h) s.heap.size)) (F0 m 0 ls [])
  obtain ⟨rs, kt⟩ : ∃ rs : z_T, rs = h9 := ⟨_, rfl⟩
  generalize hn0 : z_n h = n0 at hc hB ⊢
  rw [← kt] at hv
  refine lv_aload_n hx hb dX12_code_0 rfl (lv_at hl 0 rfl) ?_
  obtain ⟨g1, hv⟩ := y_gd_e hv
  obtain ⟨o2, eo2, hv⟩ := y_bi_e hv
  refine z_getR hc hB 11 8 g1 eo2 (by decide) (by decide) rfl (z_l1 hc qfX12_40) dX12_code_1 ?_
  refine lv_iconst (v := (3 : Int32)) hx hb dX12_code_4 (by decide) ?_
  refine lv_aload_n hx hb dX12_code_5 rfl (lv_at hl 0 rfl) ?_
  refine z_getI hc hB 11 48 g1 (by decide) (by decide) rfl (z_l1 hc qfX12_425) dX12_code_6 ?_
  refine lv_imul hx hb dX12_code_9 ?_
  refine lv_iload_n hx hb dX12_code_10 rfl (lv_at hl 1 rfl) ?_
  obtain ⟨g3, hv⟩ := y_gd_e hv
  obtain ⟨i4, hv⟩ := y_gd_e hv
  obtain ⟨h5, eh5, hv⟩ := y_nm_e hv
  refine y_iast hc hB eh5 g3 i4 dX12_code_11 (fun H locs hB => ?_)
  refine lv_aload_n hx hb dX12_code_12 rfl (lv_at hl 0 rfl) ?_
  refine z_getR hc hB 11 8 (by rw [eh5]; exact g1) (by rw [eh5]; exact eo2) (by decide) (by decide) rfl (z_l1 hc qfX12_40) dX12_code_13 ?_
  refine lv_iconst (v := (3 : Int32)) hx hb dX12_code_16 (by decide) ?_
  refine lv_aload_n hx hb dX12_code_17 rfl (lv_at hl 0 rfl) ?_
  refine z_getI hc hB 11 48 (by rw [eh5]; exact g1) (by decide) (by decide) rfl (z_l1 hc qfX12_425) dX12_code_18 ?_
  refine lv_imul hx hb dX12_code_21 ?_
  refine lv_iconst (v := (1 : Int32)) hx hb dX12_code_22 (by decide) ?_
  refine lv_iadd hx hb dX12_code_23 ?_
  refine lv_iload_n hx hb dX12_code_24 rfl (lv_at hl 2 rfl) ?_
  obtain ⟨i6, hv⟩ := y_gd_e hv
  obtain ⟨h7, eh7, hv⟩ := y_nm_e hv
  refine y_iast hc hB eh7 (by rw [eh5]; exact g3) i6 dX12_code_25 (fun H locs hB => ?_)
  refine lv_aload_n hx hb dX12_code_26 rfl (lv_at hl 0 rfl) ?_
  refine z_getR hc hB 11 8 (by rw [eh7, eh5]; exact g1) (by rw [eh7, eh5]; exact eo2) (by decide) (by decide) rfl (z_l1 hc qfX12_40) dX12_code_27 ?_
  refine lv_iconst (v := (3 : Int32)) hx hb dX12_code_30 (by decide) ?_
  refine lv_aload_n hx hb dX12_code_31 rfl (lv_at hl 0 rfl) ?_
  refine z_getI hc hB 11 48 (by rw [eh7, eh5]; exact g1) (by decide) (by decide) rfl (z_l1 hc qfX12_425) dX12_code_32 ?_
  refine lv_imul hx hb dX12_code_35 ?_
  refine lv_iconst (v := (2 : Int32)) hx hb dX12_code_36 (by decide) ?_
  refine lv_iadd hx hb dX12_code_37 ?_
  refine lv_iload_n hx hb dX12_code_38 rfl (lv_at hl 3 rfl) ?_
  obtain ⟨i8, hv⟩ := y_gd_e hv
  obtain ⟨h9, eh9, hv⟩ := y_nm_e hv
  refine y_iast hc hB eh9 (by rw [eh7, eh5]; exact g3) i8 dX12_code_39 (fun H locs hB => ?_)
  refine lv_aload_n hx hb dX12_code_40 rfl (lv_at hl 0 rfl) ?_
  refine lv_dup hx hb dX12_code_41 rfl ?_
  refine z_getI hc hB 11 48 (by rw [eh9, eh7, eh5]; exact g1) (by decide) (by decide) rfl (z_l1 hc qfX12_425) dX12_code_42 ?_
  refine lv_iconst (v := (1 : Int32)) hx hb dX12_code_45 (by decide) ?_
  refine lv_iadd hx hb dX12_code_46 ?_
  obtain ⟨h10, eh10, hv⟩ := y_nm_e hv
  refine y_putI hc hB 11 48 eh10 (by rw [eh9, eh7, eh5]; exact g1) (z_l1 hc qfX12_425) dX12_code_47 (by decide) (by decide) rfl rfl rfl rfl (fun H locs hB => ?_)
  replace hv := Option.some.inj hv
  subst hv
  rw [← kt]
  exact z_vret hc hB hr dX12_code_50
theorem qfX12_428 : Cond.fieldLink RX12 428 "DreamTestsModel" "top" "I" ∈ z_ws := List.mem_filter.mpr ⟨List.mem_append_right _ (List.mem_of_getElem? (i := 1350) (by decide +kernel)), rfl⟩
theorem qfX12_83 : Cond.fieldLink RX12 83 "DreamTestsModel" "stack" "[I" ∈ z_ws := List.mem_filter.mpr ⟨List.mem_append_right _ (List.mem_of_getElem? (i := 1347) (by decide +kernel)), rfl⟩
theorem qmX12_431 : Cond.methodLink RX12 431 yX12_code ∈ z_ws := List.mem_filter.mpr ⟨List.mem_append_right _ (List.mem_of_getElem? (i := 1863) (by decide +kernel)), rfl⟩
theorem qc_X12_code : Cond.code yX12_code cX12_code 4 none ∈ z_ws := List.mem_filter.mpr ⟨List.mem_append_right _ (List.mem_of_getElem? (i := 1866) (by decide +kernel)), rfl⟩
theorem qi_X12_code : Cond.instanceMethod yX12_code ∈ z_ws := List.mem_filter.mpr ⟨List.mem_append_right _ (List.mem_of_getElem? (i := 1865) (by decide +kernel)), rfl⟩
theorem qs_X12_code : Cond.selects RX12 yX12_code yX12_code ∈ z_ws := List.mem_filter.mpr ⟨List.mem_append_left _ (List.mem_of_getElem? (i := 86) (by decide +kernel)), rfl⟩
theorem md_X12_code : z_mdV yX12_code cX12_code 4 none 3 := ⟨⟨qn_RX12, qc_X12_code, ⟨by decide +kernel, by decide +kernel, by decide +kernel⟩⟩, qi_X12_code, qs_X12_code⟩
theorem dX12_joins_0 : decode cX12_joins 0 = .ok (.aload_n 0, 1) := by decide +kernel
theorem dX12_joins_1 : decode cX12_joins 1 = .ok (.getfield 428, 3) := by decide +kernel
theorem dX12_joins_4 : decode cX12_joins 4 = .ok (.ifCond .le 69, 3) := by decide +kernel
theorem dX12_joins_7 : decode cX12_joins 7 = .ok (.aload_n 0, 1) := by decide +kernel
theorem dX12_joins_8 : decode cX12_joins 8 = .ok (.getfield 83, 3) := by decide +kernel
theorem dX12_joins_11 : decode cX12_joins 11 = .ok (.aload_n 0, 1) := by decide +kernel
theorem dX12_joins_12 : decode cX12_joins 12 = .ok (.getfield 428, 3) := by decide +kernel
theorem dX12_joins_15 : decode cX12_joins 15 = .ok (.iconst 1, 1) := by decide +kernel
theorem dX12_joins_16 : decode cX12_joins 16 = .ok (.isub, 1) := by decide +kernel
theorem dX12_joins_17 : decode cX12_joins 17 = .ok (.iaload, 1) := by decide +kernel
theorem dX12_joins_18 : decode cX12_joins 18 = .ok (.bipush 21, 2) := by decide +kernel
theorem dX12_joins_20 : decode cX12_joins 20 = .ok (.if_icmp .eq 25, 3) := by decide +kernel
theorem dX12_joins_23 : decode cX12_joins 23 = .ok (.aload_n 0, 1) := by decide +kernel
theorem dX12_joins_24 : decode cX12_joins 24 = .ok (.getfield 83, 3) := by decide +kernel
theorem dX12_joins_27 : decode cX12_joins 27 = .ok (.aload_n 0, 1) := by decide +kernel
theorem dX12_joins_28 : decode cX12_joins 28 = .ok (.getfield 428, 3) := by decide +kernel
theorem dX12_joins_31 : decode cX12_joins 31 = .ok (.iconst 1, 1) := by decide +kernel
theorem dX12_joins_32 : decode cX12_joins 32 = .ok (.isub, 1) := by decide +kernel
theorem dX12_joins_33 : decode cX12_joins 33 = .ok (.iaload, 1) := by decide +kernel
theorem dX12_joins_34 : decode cX12_joins 34 = .ok (.bipush 22, 2) := by decide +kernel
theorem dX12_joins_36 : decode cX12_joins 36 = .ok (.if_icmp .ne 37, 3) := by decide +kernel
theorem dX12_joins_39 : decode cX12_joins 39 = .ok (.iload_n 1, 1) := by decide +kernel
theorem dX12_joins_40 : decode cX12_joins 40 = .ok (.bipush 22, 2) := by decide +kernel
theorem dX12_joins_42 : decode cX12_joins 42 = .ok (.if_icmp .ne 31, 3) := by decide +kernel
theorem dX12_joins_45 : decode cX12_joins 45 = .ok (.aload_n 0, 1) := by decide +kernel
theorem dX12_joins_46 : decode cX12_joins 46 = .ok (.dup, 1) := by decide +kernel
theorem dX12_joins_47 : decode cX12_joins 47 = .ok (.getfield 428, 3) := by decide +kernel
theorem dX12_joins_50 : decode cX12_joins 50 = .ok (.iconst 1, 1) := by decide +kernel
theorem dX12_joins_51 : decode cX12_joins 51 = .ok (.isub, 1) := by decide +kernel
theorem dX12_joins_52 : decode cX12_joins 52 = .ok (.putfield 428, 3) := by decide +kernel
theorem dX12_joins_55 : decode cX12_joins 55 = .ok (.aload_n 0, 1) := by decide +kernel
theorem dX12_joins_56 : decode cX12_joins 56 = .ok (.aload_n 0, 1) := by decide +kernel
theorem dX12_joins_57 : decode cX12_joins 57 = .ok (.getfield 83, 3) := by decide +kernel
theorem dX12_joins_60 : decode cX12_joins 60 = .ok (.aload_n 0, 1) := by decide +kernel
theorem dX12_joins_61 : decode cX12_joins 61 = .ok (.getfield 428, 3) := by decide +kernel
theorem dX12_joins_64 : decode cX12_joins 64 = .ok (.iaload, 1) := by decide +kernel
theorem dX12_joins_65 : decode cX12_joins 65 = .ok (.iconst 0, 1) := by decide +kernel
theorem dX12_joins_66 : decode cX12_joins 66 = .ok (.iconst 0, 1) := by decide +kernel
theorem dX12_joins_67 : decode cX12_joins 67 = .ok (.invokevirtual 431, 3) := by decide +kernel
theorem dX12_joins_70 : decode cX12_joins 70 = .ok (.goto (-70), 3) := by decide +kernel
theorem dX12_joins_73 : decode cX12_joins 73 = .ok (.return_, 1) := by decide +kernel
abbrev rm_X12_joins : Room := { frames := 1, cells := 0, slots := 0, locals := 23 }
noncomputable def fX12_joins_b45 (o0 : Nat) (x1 : Int32) (h : z_T) : Option ((z_T) ⊕ (z_T)) :=
  y_gd (z_ok h o0 11) <|
  y_nm (z_sI h o0 50 ((z_I h o0 50) - (1 : Int32))) fun h2 =>
  y_bi (z_R h2 o0 47) fun o3 =>
  y_gd (z_ok h2 o3 13) <|
  y_gd (z_ix (z_I h2 o0 50) (z_N h2 o3)) <|
  y_bi (fX12_code o0 (z_I h2 o3 (z_I h2 o0 50).toNatClampNeg) (0 : Int32) (0 : Int32) h2) fun h7 =>
  some (.inl (h7))
noncomputable def fX12_joins_b0_i (o0 : Nat) (x1 : Int32) (h : z_T) : Option ((z_T) ⊕ (z_T)) :=
  y_gd (z_ok h o0 11) <|
  y_br ((z_I h o0 50) ≤ 0)
    (y_mp <|
    some h)
    (y_bi (z_R h o0 47) fun o11 =>
    y_gd (z_ok h o11 13) <|
    y_gd (z_ix ((z_I h o0 50) - (1 : Int32)) (z_N h o11)) <|
    y_br ((z_I h o11 ((z_I h o0 50) - (1 : Int32)).toNatClampNeg) = (21 : Int32))
      (fX12_joins_b45 o0 x1 h)
      (y_gd (z_ix ((z_I h o0 50) - (1 : Int32)) (z_N h o11)) <|
      y_br ((z_I h o11 ((z_I h o0 50) - (1 : Int32)).toNatClampNeg) = (22 : Int32))
        (y_br (x1 = (22 : Int32))
          (fX12_joins_b45 o0 x1 h)
          (y_mp <|
          some h))
        (y_mp <|
        some h)))
noncomputable def fX12_joins_b0 (o0 : Nat) (x1 : Int32) (h : z_T) : Option (z_T) := y_lp (fun q : z_T => fX12_joins_b0_i o0 x1 q) (h)
noncomputable def fX12_joins (o0 : Nat) (x1 : Int32) (h : z_T) : Option (z_T) :=
  fX12_joins_b0 o0 x1 h
set_option maxHeartbeats 4000000 in
set_option maxRecDepth 100000 in
theorem mm_X12_joins {G : z_Gt} {S : State → Prop} (hSK : z_SK S) (l : Launch) (ad : Nat → Nat) (o0 : Nat) (x1 : Int32) (h : z_T) {h9 : z_T} (hv : fX12_joins o0 x1 h = some h9) : z_Mv G S l yX12_joins cX12_joins 2 rm_X12_joins 0 0 [.ref (ad o0), .int x1] ad h h9 := by
  refine z_ofW hSK (by decide) (Nat.le_of_ble_eq_true rfl) ?_
  intro p e s m args below meth c ls hc hr hnm hB hl
  have hx := hc.1.1
  have hb := hc.1.2.1
  have hown := hc.1.2.2.2.1
  have hts := hc.1.2.2.2.2
  replace hc : z_C G S ad (z_n h) p m c cX12_joins 2 s args RX12 meth := hc
  replace hown : s.vm.findClass RX12 = some m.cls := hown
  replace hl : lv_has ls 2 [(0, .ref (ad o0)), (1, .int x1)] := hl
  show W p l e rm_X12_joins s m args below meth c s.heap [] 0 0 (MQ below (z_Qv G ad h9 (z_n h) s.heap.size) args s 0 0 (z_A ad (z_n h) s.heap.size)) (F0 m 0 ls [])
  obtain ⟨rs, kt⟩ : ∃ rs : z_T, rs = h9 := ⟨_, rfl⟩
  generalize hn0 : z_n h = n0 at hc hB ⊢
  have L0 : ∀ (nn0 : Nat) (h : z_T) (H : Heap) (locs : List Loc) (ls : Array Slot), z_B G ad n0 s h H locs → lv_has ls 2 [(0, .ref (ad o0)), (1, .int x1)] → ∀ vv0, y_lpN (fun q : z_T => fX12_joins_b0_i o0 x1 q) nn0 (h) = some vv0 → vv0 = h9 → W p l e rm_X12_joins s m args below meth c H locs 0 0 (MQ below (z_Qv G ad h9 n0 s.heap.size) args s 0 0 (z_A ad n0 s.heap.size)) (F0 m 0 ls []) := by
    intro nn0
    induction nn0 with
    | zero => intro h H locs ls hB hl vv0 hv kv0; exact absurd hv (fun q => y_lpN_0 q)
    | succ nn0 ih0 =>
      intro h H locs ls hB hl vv0 hv kv0
      obtain ⟨w, hq, kw0⟩ := y_lpN_e hv
      clear hv
      have hv : fX12_joins_b0_i o0 x1 h = some w := hq
      clear hq
      have b45 : ∀ (h : z_T) (H : Heap) (locs : List Loc) (ls : Array Slot), z_B G ad n0 s h H locs → lv_has ls 2 [(0, .ref (ad o0)), (1, .int x1)] → ∀ w, fX12_joins_b45 o0 x1 h = some w → y_lq (fun q : z_T => fX12_joins_b0_i o0 x1 q) nn0 vv0 w → W p l e rm_X12_joins s m args below meth c H locs 0 0 (MQ below (z_Qv G ad h9 n0 s.heap.size) args s 0 0 (z_A ad n0 s.heap.size)) (F0 m 45 ls []) := by
        intro h H locs ls hB hl w hv kw0
        refine lv_aload_n hx hb dX12_joins_45 rfl (lv_at hl 0 rfl) ?_
        refine lv_dup hx hb dX12_joins_46 rfl ?_
        obtain ⟨g1, hv⟩ := y_gd_e hv
        refine z_getI hc hB 11 50 g1 (by decide) (by decide) rfl (z_l1 hc qfX12_428) dX12_joins_47 ?_
        refine lv_iconst (v := (1 : Int32)) hx hb dX12_joins_50 (by decide) ?_
        refine lv_isub hx hb dX12_joins_51 ?_
        obtain ⟨h2, eh2, hv⟩ := y_nm_e hv
        refine y_putI hc hB 11 50 eh2 g1 (z_l1 hc qfX12_428) dX12_joins_52 (by decide) (by decide) rfl rfl rfl rfl (fun H locs hB => ?_)
        refine lv_aload_n hx hb dX12_joins_55 rfl (lv_at hl 0 rfl) ?_
        refine lv_aload_n hx hb dX12_joins_56 rfl (lv_at hl 0 rfl) ?_
        obtain ⟨o3, eo3, hv⟩ := y_bi_e hv
        refine z_getR hc hB 11 47 (by rw [eh2]; exact g1) eo3 (by decide) (by decide) rfl (z_l1 hc qfX12_83) dX12_joins_57 ?_
        refine lv_aload_n hx hb dX12_joins_60 rfl (lv_at hl 0 rfl) ?_
        refine z_getI hc hB 11 50 (by rw [eh2]; exact g1) (by decide) (by decide) rfl (z_l1 hc qfX12_428) dX12_joins_61 ?_
        obtain ⟨g4, hv⟩ := y_gd_e hv
        obtain ⟨i5, hv⟩ := y_gd_e hv
        refine z_iald hc hB g4 i5 dX12_joins_64 ?_
        refine lv_iconst (v := (0 : Int32)) hx hb dX12_joins_65 (by decide) ?_
        refine lv_iconst (v := (0 : Int32)) hx hb dX12_joins_66 (by decide) ?_
        obtain ⟨h7, c6, hv⟩ := y_bi_e hv
        refine z_thV hc hB (z_runV hc hB 11 (mm_X12_code hSK l ad o0 (z_I h2 o3 (z_I h2 o0 50).toNatClampNeg) (0 : Int32) (0 : Int32) h2 c6) md_X12_code qmX12_431 (by rw [eh2]; exact g1) (by decide) rfl rfl rfl ⟨Nat.le_of_ble_eq_true rfl, Nat.le_of_ble_eq_true rfl⟩ rfl hl.1 rfl (Nat.le_of_ble_eq_true rfl) dX12_joins_67 ⟨Nat.le_of_ble_eq_true rfl, Nat.le_of_ble_eq_true rfl⟩) (fun H locs hB => ?_)
        refine lv_goto (tgt := 0) hx hb dX12_joins_70 (by decide) ?_
        replace hv := Option.some.inj hv
        subst hv
        exact ih0 h7 _ _ _ hB (lv_sub hl [0, 1] rfl) _ kw0 kv0
      refine lv_aload_n hx hb dX12_joins_0 rfl (lv_at hl 0 rfl) ?_
      obtain ⟨g8, hv⟩ := y_gd_e hv
      refine z_getI hc hB 11 50 g8 (by decide) (by decide) rfl (z_l1 hc qfX12_428) dX12_joins_1 ?_
      refine lv_if_le (tgt := 73) hx hb dX12_joins_4 (by decide) (fun c9 => ?_) (fun c9 => ?_)
      · replace hv := y_br_t hv c9
        obtain ⟨t10, hq, ew⟩ := y_mp_e hv
        clear hv; subst ew
        replace kw0 : t10 = _ := kw0
        subst kw0
        have hv := hq
        clear hq
        replace hv := Option.some.inj hv
        subst hv
        rw [← kv0]
        exact z_vret hc hB hr dX12_joins_73
      · replace hv := y_br_f hv c9
        refine lv_aload_n hx hb dX12_joins_7 rfl (lv_at hl 0 rfl) ?_
        obtain ⟨o11, eo11, hv⟩ := y_bi_e hv
        refine z_getR hc hB 11 47 g8 eo11 (by decide) (by decide) rfl (z_l1 hc qfX12_83) dX12_joins_8 ?_
        refine lv_aload_n hx hb dX12_joins_11 rfl (lv_at hl 0 rfl) ?_
        refine z_getI hc hB 11 50 g8 (by decide) (by decide) rfl (z_l1 hc qfX12_428) dX12_joins_12 ?_
        refine lv_iconst (v := (1 : Int32)) hx hb dX12_joins_15 (by decide) ?_
        refine lv_isub hx hb dX12_joins_16 ?_
        obtain ⟨g12, hv⟩ := y_gd_e hv
        obtain ⟨i13, hv⟩ := y_gd_e hv
        refine z_iald hc hB g12 i13 dX12_joins_17 ?_
        refine lv_bipush (v := (21 : Int32)) hx hb dX12_joins_18 (by decide) ?_
        refine lv_icmp_eq (tgt := 45) hx hb dX12_joins_20 (by decide) (fun c14 => ?_) (fun c14 => ?_)
        · replace hv := y_br_t hv c14
          exact b45 h _ _ _ hB (lv_sub hl [0, 1] rfl) _ hv kw0
        · replace hv := y_br_f hv c14
          refine lv_aload_n hx hb dX12_joins_23 rfl (lv_at hl 0 rfl) ?_
          refine z_getR hc hB 11 47 g8 eo11 (by decide) (by decide) rfl (z_l1 hc qfX12_83) dX12_joins_24 ?_
          refine lv_aload_n hx hb dX12_joins_27 rfl (lv_at hl 0 rfl) ?_
          refine z_getI hc hB 11 50 g8 (by decide) (by decide) rfl (z_l1 hc qfX12_428) dX12_joins_28 ?_
          refine lv_iconst (v := (1 : Int32)) hx hb dX12_joins_31 (by decide) ?_
          refine lv_isub hx hb dX12_joins_32 ?_
          obtain ⟨i15, hv⟩ := y_gd_e hv
          refine z_iald hc hB g12 i15 dX12_joins_33 ?_
          refine lv_bipush (v := (22 : Int32)) hx hb dX12_joins_34 (by decide) ?_
          refine lv_icmp_ne (tgt := 73) hx hb dX12_joins_36 (by decide) (fun c16 => ?_) (fun c16 => ?_)
          · replace hv := y_br_f hv c16
            obtain ⟨t17, hq, ew⟩ := y_mp_e hv
            clear hv; subst ew
            replace kw0 : t17 = _ := kw0
            subst kw0
            have hv := hq
            clear hq
            replace hv := Option.some.inj hv
            subst hv
            rw [← kv0]
            exact z_vret hc hB hr dX12_joins_73
          · replace hv := y_br_t hv c16
            refine lv_iload_n hx hb dX12_joins_39 rfl (lv_at hl 1 rfl) ?_
            refine lv_bipush (v := (22 : Int32)) hx hb dX12_joins_40 (by decide) ?_
            refine lv_icmp_ne (tgt := 73) hx hb dX12_joins_42 (by decide) (fun c18 => ?_) (fun c18 => ?_)
            · replace hv := y_br_f hv c18
              obtain ⟨t19, hq, ew⟩ := y_mp_e hv
              clear hv; subst ew
              replace kw0 : t19 = _ := kw0
              subst kw0
              have hv := hq
              clear hq
              replace hv := Option.some.inj hv
              subst hv
              rw [← kv0]
              exact z_vret hc hB hr dX12_joins_73
            · replace hv := y_br_t hv c18
              exact b45 h _ _ _ hB (lv_sub hl [0, 1] rfl) _ hv kw0
  rw [← kt] at hv
  obtain ⟨n, hv⟩ := y_lp_e hv
  exact L0 n h _ _ _ hB (lv_sub hl [0, 1] rfl) _ hv kt
theorem qfX12_435 : Cond.fieldLink RX12 435 "DreamTestsModel" "deep" "I" ∈ z_ws := List.mem_filter.mpr ⟨List.mem_append_right _ (List.mem_of_getElem? (i := 1351) (by decide +kernel)), rfl⟩
theorem dX12_nots_0 : decode cX12_nots 0 = .ok (.aload_n 0, 1) := by decide +kernel
theorem dX12_nots_1 : decode cX12_nots 1 = .ok (.getfield 428, 3) := by decide +kernel
theorem dX12_nots_4 : decode cX12_nots 4 = .ok (.ifCond .le 50, 3) := by decide +kernel
theorem dX12_nots_7 : decode cX12_nots 7 = .ok (.aload_n 0, 1) := by decide +kernel
theorem dX12_nots_8 : decode cX12_nots 8 = .ok (.getfield 83, 3) := by decide +kernel
theorem dX12_nots_11 : decode cX12_nots 11 = .ok (.aload_n 0, 1) := by decide +kernel
theorem dX12_nots_12 : decode cX12_nots 12 = .ok (.getfield 428, 3) := by decide +kernel
theorem dX12_nots_15 : decode cX12_nots 15 = .ok (.iconst 1, 1) := by decide +kernel
theorem dX12_nots_16 : decode cX12_nots 16 = .ok (.isub, 1) := by decide +kernel
theorem dX12_nots_17 : decode cX12_nots 17 = .ok (.iaload, 1) := by decide +kernel
theorem dX12_nots_18 : decode cX12_nots 18 = .ok (.bipush 20, 2) := by decide +kernel
theorem dX12_nots_20 : decode cX12_nots 20 = .ok (.if_icmp .ne 34, 3) := by decide +kernel
theorem dX12_nots_23 : decode cX12_nots 23 = .ok (.aload_n 0, 1) := by decide +kernel
theorem dX12_nots_24 : decode cX12_nots 24 = .ok (.dup, 1) := by decide +kernel
theorem dX12_nots_25 : decode cX12_nots 25 = .ok (.getfield 428, 3) := by decide +kernel
theorem dX12_nots_28 : decode cX12_nots 28 = .ok (.iconst 1, 1) := by decide +kernel
theorem dX12_nots_29 : decode cX12_nots 29 = .ok (.isub, 1) := by decide +kernel
theorem dX12_nots_30 : decode cX12_nots 30 = .ok (.putfield 428, 3) := by decide +kernel
theorem dX12_nots_33 : decode cX12_nots 33 = .ok (.aload_n 0, 1) := by decide +kernel
theorem dX12_nots_34 : decode cX12_nots 34 = .ok (.dup, 1) := by decide +kernel
theorem dX12_nots_35 : decode cX12_nots 35 = .ok (.getfield 435, 3) := by decide +kernel
theorem dX12_nots_38 : decode cX12_nots 38 = .ok (.iconst 1, 1) := by decide +kernel
theorem dX12_nots_39 : decode cX12_nots 39 = .ok (.isub, 1) := by decide +kernel
theorem dX12_nots_40 : decode cX12_nots 40 = .ok (.putfield 435, 3) := by decide +kernel
theorem dX12_nots_43 : decode cX12_nots 43 = .ok (.aload_n 0, 1) := by decide +kernel
theorem dX12_nots_44 : decode cX12_nots 44 = .ok (.bipush 20, 2) := by decide +kernel
theorem dX12_nots_46 : decode cX12_nots 46 = .ok (.iconst 0, 1) := by decide +kernel
theorem dX12_nots_47 : decode cX12_nots 47 = .ok (.iconst 0, 1) := by decide +kernel
theorem dX12_nots_48 : decode cX12_nots 48 = .ok (.invokevirtual 431, 3) := by decide +kernel
theorem dX12_nots_51 : decode cX12_nots 51 = .ok (.goto (-51), 3) := by decide +kernel
theorem dX12_nots_54 : decode cX12_nots 54 = .ok (.return_, 1) := by decide +kernel
abbrev rm_X12_nots : Room := { frames := 1, cells := 0, slots := 0, locals := 23 }
noncomputable def fX12_nots_b0_i (o0 : Nat) (h : z_T) : Option ((z_T) ⊕ (z_T)) :=
  y_gd (z_ok h o0 11) <|
  y_br ((z_I h o0 50) ≤ 0)
    (y_mp <|
    some h)
    (y_bi (z_R h o0 47) fun o4 =>
    y_gd (z_ok h o4 13) <|
    y_gd (z_ix ((z_I h o0 50) - (1 : Int32)) (z_N h o4)) <|
    y_br ((z_I h o4 ((z_I h o0 50) - (1 : Int32)).toNatClampNeg) = (20 : Int32))
      (y_nm (z_sI h o0 50 ((z_I h o0 50) - (1 : Int32))) fun h9 =>
      y_nm (z_sI h9 o0 51 ((z_I h9 o0 51) - (1 : Int32))) fun h10 =>
      y_bi (fX12_code o0 (20 : Int32) (0 : Int32) (0 : Int32) h10) fun h12 =>
      some (.inl (h12)))
      (y_mp <|
      some h))
noncomputable def fX12_nots_b0 (o0 : Nat) (h : z_T) : Option (z_T) := y_lp (fun q : z_T => fX12_nots_b0_i o0 q) (h)
noncomputable def fX12_nots (o0 : Nat) (h : z_T) : Option (z_T) :=
  fX12_nots_b0 o0 h
set_option maxHeartbeats 4000000 in
set_option maxRecDepth 100000 in
theorem mm_X12_nots {G : z_Gt} {S : State → Prop} (hSK : z_SK S) (l : Launch) (ad : Nat → Nat) (o0 : Nat) (h : z_T) {h9 : z_T} (hv : fX12_nots o0 h = some h9) : z_Mv G S l yX12_nots cX12_nots 1 rm_X12_nots 0 0 [.ref (ad o0)] ad h h9 := by
  refine z_ofW hSK (by decide) (Nat.le_of_ble_eq_true rfl) ?_
  intro p e s m args below meth c ls hc hr hnm hB hl
  have hx := hc.1.1
  have hb := hc.1.2.1
  have hown := hc.1.2.2.2.1
  have hts := hc.1.2.2.2.2
  replace hc : z_C G S ad (z_n h) p m c cX12_nots 1 s args RX12 meth := hc
  replace hown : s.vm.findClass RX12 = some m.cls := hown
  replace hl : lv_has ls 1 [(0, .ref (ad o0))] := hl
  show W p l e rm_X12_nots s m args below meth c s.heap [] 0 0 (MQ below (z_Qv G ad h9 (z_n h) s.heap.size) args s 0 0 (z_A ad (z_n h) s.heap.size)) (F0 m 0 ls [])
  obtain ⟨rs, kt⟩ : ∃ rs : z_T, rs = h9 := ⟨_, rfl⟩
  generalize hn0 : z_n h = n0 at hc hB ⊢
  have L0 : ∀ (nn0 : Nat) (h : z_T) (H : Heap) (locs : List Loc) (ls : Array Slot), z_B G ad n0 s h H locs → lv_has ls 1 [(0, .ref (ad o0))] → ∀ vv0, y_lpN (fun q : z_T => fX12_nots_b0_i o0 q) nn0 (h) = some vv0 → vv0 = h9 → W p l e rm_X12_nots s m args below meth c H locs 0 0 (MQ below (z_Qv G ad h9 n0 s.heap.size) args s 0 0 (z_A ad n0 s.heap.size)) (F0 m 0 ls []) := by
    intro nn0
    induction nn0 with
    | zero => intro h H locs ls hB hl vv0 hv kv0; exact absurd hv (fun q => y_lpN_0 q)
    | succ nn0 ih0 =>
      intro h H locs ls hB hl vv0 hv kv0
      obtain ⟨w, hq, kw0⟩ := y_lpN_e hv
      clear hv
      have hv : fX12_nots_b0_i o0 h = some w := hq
      clear hq
      refine lv_aload_n hx hb dX12_nots_0 rfl (lv_at hl 0 rfl) ?_
      obtain ⟨g1, hv⟩ := y_gd_e hv
      refine z_getI hc hB 11 50 g1 (by decide) (by decide) rfl (z_l1 hc qfX12_428) dX12_nots_1 ?_
      refine lv_if_le (tgt := 54) hx hb dX12_nots_4 (by decide) (fun c2 => ?_) (fun c2 => ?_)
      · replace hv := y_br_t hv c2
        obtain ⟨t3, hq, ew⟩ := y_mp_e hv
        clear hv; subst ew
        replace kw0 : t3 = _ := kw0
        subst kw0
        have hv := hq
        clear hq
        replace hv := Option.some.inj hv
        subst hv
        rw [← kv0]
        exact z_vret hc hB hr dX12_nots_54
      · replace hv := y_br_f hv c2
        refine lv_aload_n hx hb dX12_nots_7 rfl (lv_at hl 0 rfl) ?_
        obtain ⟨o4, eo4, hv⟩ := y_bi_e hv
        refine z_getR hc hB 11 47 g1 eo4 (by decide) (by decide) rfl (z_l1 hc qfX12_83) dX12_nots_8 ?_
        refine lv_aload_n hx hb dX12_nots_11 rfl (lv_at hl 0 rfl) ?_
        refine z_getI hc hB 11 50 g1 (by decide) (by decide) rfl (z_l1 hc qfX12_428) dX12_nots_12 ?_
        refine lv_iconst (v := (1 : Int32)) hx hb dX12_nots_15 (by decide) ?_
        refine lv_isub hx hb dX12_nots_16 ?_
        obtain ⟨g5, hv⟩ := y_gd_e hv
        obtain ⟨i6, hv⟩ := y_gd_e hv
        refine z_iald hc hB g5 i6 dX12_nots_17 ?_
        refine lv_bipush (v := (20 : Int32)) hx hb dX12_nots_18 (by decide) ?_
        refine lv_icmp_ne (tgt := 54) hx hb dX12_nots_20 (by decide) (fun c7 => ?_) (fun c7 => ?_)
        · replace hv := y_br_f hv c7
          obtain ⟨t8, hq, ew⟩ := y_mp_e hv
          clear hv; subst ew
          replace kw0 : t8 = _ := kw0
          subst kw0
          have hv := hq
          clear hq
          replace hv := Option.some.inj hv
          subst hv
          rw [← kv0]
          exact z_vret hc hB hr dX12_nots_54
        · replace hv := y_br_t hv c7
          refine lv_aload_n hx hb dX12_nots_23 rfl (lv_at hl 0 rfl) ?_
          refine lv_dup hx hb dX12_nots_24 rfl ?_
          refine z_getI hc hB 11 50 g1 (by decide) (by decide) rfl (z_l1 hc qfX12_428) dX12_nots_25 ?_
          refine lv_iconst (v := (1 : Int32)) hx hb dX12_nots_28 (by decide) ?_
          refine lv_isub hx hb dX12_nots_29 ?_
          obtain ⟨h9, eh9, hv⟩ := y_nm_e hv
          refine y_putI hc hB 11 50 eh9 g1 (z_l1 hc qfX12_428) dX12_nots_30 (by decide) (by decide) rfl rfl rfl rfl (fun H locs hB => ?_)
          refine lv_aload_n hx hb dX12_nots_33 rfl (lv_at hl 0 rfl) ?_
          refine lv_dup hx hb dX12_nots_34 rfl ?_
          refine z_getI hc hB 11 51 (by rw [eh9]; exact g1) (by decide) (by decide) rfl (z_l1 hc qfX12_435) dX12_nots_35 ?_
          refine lv_iconst (v := (1 : Int32)) hx hb dX12_nots_38 (by decide) ?_
          refine lv_isub hx hb dX12_nots_39 ?_
          obtain ⟨h10, eh10, hv⟩ := y_nm_e hv
          refine y_putI hc hB 11 51 eh10 (by rw [eh9]; exact g1) (z_l1 hc qfX12_435) dX12_nots_40 (by decide) (by decide) rfl rfl rfl rfl (fun H locs hB => ?_)
          refine lv_aload_n hx hb dX12_nots_43 rfl (lv_at hl 0 rfl) ?_
          refine lv_bipush (v := (20 : Int32)) hx hb dX12_nots_44 (by decide) ?_
          refine lv_iconst (v := (0 : Int32)) hx hb dX12_nots_46 (by decide) ?_
          refine lv_iconst (v := (0 : Int32)) hx hb dX12_nots_47 (by decide) ?_
          obtain ⟨h12, c11, hv⟩ := y_bi_e hv
          refine z_thV hc hB (z_runV hc hB 11 (mm_X12_code hSK l ad o0 (20 : Int32) (0 : Int32) (0 : Int32) h10 c11) md_X12_code qmX12_431 (by rw [eh10, eh9]; exact g1) (by decide) rfl rfl rfl ⟨Nat.le_of_ble_eq_true rfl, Nat.le_of_ble_eq_true rfl⟩ rfl hl.1 rfl (Nat.le_of_ble_eq_true rfl) dX12_nots_48 ⟨Nat.le_of_ble_eq_true rfl, Nat.le_of_ble_eq_true rfl⟩) (fun H locs hB => ?_)
          refine lv_goto (tgt := 0) hx hb dX12_nots_51 (by decide) ?_
          replace hv := Option.some.inj hv
          subst hv
          exact ih0 h12 _ _ _ hB (lv_sub hl [0] rfl) _ kw0 kv0
  rw [← kt] at hv
  obtain ⟨n, hv⟩ := y_lp_e hv
  exact L0 n h _ _ _ hB (lv_sub hl [0] rfl) _ hv kt
theorem qkX12_131 : Cond.constantLong RX12 131 (1735356260 : Int64) ∈ z_ws := List.mem_filter.mpr ⟨List.mem_append_right _ (List.mem_of_getElem? (i := 1290) (by decide +kernel)), rfl⟩
theorem qkX12_135 : Cond.constantLong RX12 135 (418548245860 : Int64) ∈ z_ws := List.mem_filter.mpr ⟨List.mem_append_right _ (List.mem_of_getElem? (i := 1292) (by decide +kernel)), rfl⟩
theorem qkX12_133 : Cond.constantLong RX12 133 (1801810036 : Int64) ∈ z_ws := List.mem_filter.mpr ⟨List.mem_append_right _ (List.mem_of_getElem? (i := 1291) (by decide +kernel)), rfl⟩
theorem qkX12_137 : Cond.constantLong RX12 137 (491495845235 : Int64) ∈ z_ws := List.mem_filter.mpr ⟨List.mem_append_right _ (List.mem_of_getElem? (i := 1293) (by decide +kernel)), rfl⟩
theorem qkX12_139 : Cond.constantLong RX12 139 (110442489933171 : Int64) ∈ z_ws := List.mem_filter.mpr ⟨List.mem_append_right _ (List.mem_of_getElem? (i := 1294) (by decide +kernel)), rfl⟩
theorem qkX12_141 : Cond.constantLong RX12 141 (482854658917 : Int64) ∈ z_ws := List.mem_filter.mpr ⟨List.mem_append_right _ (List.mem_of_getElem? (i := 1295) (by decide +kernel)), rfl⟩
theorem dX12_leafOf_0 : decode cX12_leafOf 0 = .ok (.aload_n 0, 1) := by decide +kernel
theorem dX12_leafOf_1 : decode cX12_leafOf 1 = .ok (.ldc2_w 131, 3) := by decide +kernel
theorem dX12_leafOf_4 : decode cX12_leafOf 4 = .ok (.invokevirtual 203, 3) := by decide +kernel
theorem dX12_leafOf_7 : decode cX12_leafOf 7 = .ok (.ifCond .eq 7, 3) := by decide +kernel
theorem dX12_leafOf_10 : decode cX12_leafOf 10 = .ok (.iconst 0, 1) := by decide +kernel
theorem dX12_leafOf_11 : decode cX12_leafOf 11 = .ok (.goto 74, 3) := by decide +kernel
theorem dX12_leafOf_14 : decode cX12_leafOf 14 = .ok (.aload_n 0, 1) := by decide +kernel
theorem dX12_leafOf_15 : decode cX12_leafOf 15 = .ok (.ldc2_w 135, 3) := by decide +kernel
theorem dX12_leafOf_18 : decode cX12_leafOf 18 = .ok (.invokevirtual 203, 3) := by decide +kernel
theorem dX12_leafOf_21 : decode cX12_leafOf 21 = .ok (.ifCond .eq 7, 3) := by decide +kernel
theorem dX12_leafOf_24 : decode cX12_leafOf 24 = .ok (.iconst 1, 1) := by decide +kernel
theorem dX12_leafOf_25 : decode cX12_leafOf 25 = .ok (.goto 60, 3) := by decide +kernel
theorem dX12_leafOf_28 : decode cX12_leafOf 28 = .ok (.aload_n 0, 1) := by decide +kernel
theorem dX12_leafOf_29 : decode cX12_leafOf 29 = .ok (.ldc2_w 133, 3) := by decide +kernel
theorem dX12_leafOf_32 : decode cX12_leafOf 32 = .ok (.invokevirtual 203, 3) := by decide +kernel
theorem dX12_leafOf_35 : decode cX12_leafOf 35 = .ok (.ifCond .eq 7, 3) := by decide +kernel
theorem dX12_leafOf_38 : decode cX12_leafOf 38 = .ok (.iconst 2, 1) := by decide +kernel
theorem dX12_leafOf_39 : decode cX12_leafOf 39 = .ok (.goto 46, 3) := by decide +kernel
theorem dX12_leafOf_42 : decode cX12_leafOf 42 = .ok (.aload_n 0, 1) := by decide +kernel
theorem dX12_leafOf_43 : decode cX12_leafOf 43 = .ok (.ldc2_w 137, 3) := by decide +kernel
theorem dX12_leafOf_46 : decode cX12_leafOf 46 = .ok (.invokevirtual 203, 3) := by decide +kernel
theorem dX12_leafOf_49 : decode cX12_leafOf 49 = .ok (.ifCond .eq 7, 3) := by decide +kernel
theorem dX12_leafOf_52 : decode cX12_leafOf 52 = .ok (.iconst 3, 1) := by decide +kernel
theorem dX12_leafOf_53 : decode cX12_leafOf 53 = .ok (.goto 32, 3) := by decide +kernel
theorem dX12_leafOf_56 : decode cX12_leafOf 56 = .ok (.aload_n 0, 1) := by decide +kernel
theorem dX12_leafOf_57 : decode cX12_leafOf 57 = .ok (.ldc2_w 139, 3) := by decide +kernel
theorem dX12_leafOf_60 : decode cX12_leafOf 60 = .ok (.invokevirtual 203, 3) := by decide +kernel
theorem dX12_leafOf_63 : decode cX12_leafOf 63 = .ok (.ifCond .eq 7, 3) := by decide +kernel
theorem dX12_leafOf_66 : decode cX12_leafOf 66 = .ok (.iconst 4, 1) := by decide +kernel
theorem dX12_leafOf_67 : decode cX12_leafOf 67 = .ok (.goto 18, 3) := by decide +kernel
theorem dX12_leafOf_70 : decode cX12_leafOf 70 = .ok (.aload_n 0, 1) := by decide +kernel
theorem dX12_leafOf_71 : decode cX12_leafOf 71 = .ok (.ldc2_w 141, 3) := by decide +kernel
theorem dX12_leafOf_74 : decode cX12_leafOf 74 = .ok (.invokevirtual 203, 3) := by decide +kernel
theorem dX12_leafOf_77 : decode cX12_leafOf 77 = .ok (.ifCond .eq 7, 3) := by decide +kernel
theorem dX12_leafOf_80 : decode cX12_leafOf 80 = .ok (.iconst 5, 1) := by decide +kernel
theorem dX12_leafOf_81 : decode cX12_leafOf 81 = .ok (.goto 4, 3) := by decide +kernel
theorem dX12_leafOf_84 : decode cX12_leafOf 84 = .ok (.iconst (-1), 1) := by decide +kernel
theorem dX12_leafOf_85 : decode cX12_leafOf 85 = .ok (.ireturn, 1) := by decide +kernel
abbrev rm_X12_leafOf : Room := { frames := 1, cells := 0, slots := 0, locals := 22 }
noncomputable def fX12_leafOf (o0 : Nat) (h : z_T) : Option (Int32) :=
  y_gd (z_ok h o0 11) <|
  y_bi (fX12_isWord o0 (1735356260 : Int64) h) fun r2 =>
  y_br (r2 = 0)
    (y_bi (fX12_isWord o0 (418548245860 : Int64) h) fun r9 =>
    y_br (r9 = 0)
      (y_bi (fX12_isWord o0 (1801810036 : Int64) h) fun r15 =>
      y_br (r15 = 0)
        (y_bi (fX12_isWord o0 (491495845235 : Int64) h) fun r21 =>
        y_br (r21 = 0)
          (y_bi (fX12_isWord o0 (110442489933171 : Int64) h) fun r27 =>
          y_br (r27 = 0)
            (y_bi (fX12_isWord o0 (482854658917 : Int64) h) fun r33 =>
            y_br (r33 = 0)
              (some (-1 : Int32))
              (some (5 : Int32)))
            (some (4 : Int32)))
          (some (3 : Int32)))
        (some (2 : Int32)))
      (some (1 : Int32)))
    (some (0 : Int32))
set_option maxHeartbeats 4000000 in
set_option maxRecDepth 100000 in
theorem mm_X12_leafOf {G : z_Gt} {S : State → Prop} (hSK : z_SK S) (l : Launch) (ad : Nat → Nat) (o0 : Nat) (h : z_T) {r0 : Int32} (hv : fX12_leafOf o0 h = some r0) : z_Mi G S l yX12_leafOf cX12_leafOf 1 (.int) rm_X12_leafOf 0 0 [.ref (ad o0)] ad h h r0 := by
  refine z_ofW hSK (by decide) (Nat.le_of_ble_eq_true rfl) ?_
  intro p e s m args below meth c ls hc hr hnm hB hl
  have hx := hc.1.1
  have hb := hc.1.2.1
  have hown := hc.1.2.2.2.1
  have hts := hc.1.2.2.2.2
  replace hc : z_C G S ad (z_n h) p m c cX12_leafOf 1 s args RX12 meth := hc
  replace hown : s.vm.findClass RX12 = some m.cls := hown
  replace hl : lv_has ls 1 [(0, .ref (ad o0))] := hl
  show W p l e rm_X12_leafOf s m args below meth c s.heap [] 0 0 (MQ below (z_Qi G ad h (z_n h) s.heap.size r0) args s 0 0 (z_A ad (z_n h) s.heap.size)) (F0 m 0 ls [])
  obtain ⟨rs, kt⟩ : ∃ rs : Int32, rs = r0 := ⟨_, rfl⟩
  generalize hn0 : z_n h = n0 at hc hB ⊢
  rw [← kt] at hv
  refine lv_aload_n hx hb dX12_leafOf_0 rfl (lv_at hl 0 rfl) ?_
  refine lv_ldc2 (v := (1735356260 : Int64)) hx hb hown (hts _ qkX12_131) dX12_leafOf_1 ?_
  obtain ⟨g6, hv⟩ := y_gd_e hv
  obtain ⟨r2, c1, hv⟩ := y_bi_e hv
  refine z_thI hc hB (z_runV hc hB 11 (mm_X12_isWord hSK l ad o0 (1735356260 : Int64) h c1) md_X12_isWord qmX12_203 g6 (by decide) rfl rfl rfl ⟨Nat.le_of_ble_eq_true rfl, Nat.le_of_ble_eq_true rfl⟩ rfl hl.1 rfl (Nat.le_of_ble_eq_true rfl) dX12_leafOf_4 ⟨Nat.le_of_ble_eq_true rfl, Nat.le_of_ble_eq_true rfl⟩) (fun H locs hB => ?_)
  refine lv_if_eq (tgt := 14) hx hb dX12_leafOf_7 (by decide) (fun c7 => ?_) (fun c7 => ?_)
  · replace hv := y_br_t hv c7
    refine lv_aload_n hx hb dX12_leafOf_14 rfl (lv_at hl 0 rfl) ?_
    refine lv_ldc2 (v := (418548245860 : Int64)) hx hb hown (hts _ qkX12_135) dX12_leafOf_15 ?_
    obtain ⟨r9, c8, hv⟩ := y_bi_e hv
    refine z_thI hc hB (z_runV hc hB 11 (mm_X12_isWord hSK l ad o0 (418548245860 : Int64) h c8) md_X12_isWord qmX12_203 g6 (by decide) rfl rfl rfl ⟨Nat.le_of_ble_eq_true rfl, Nat.le_of_ble_eq_true rfl⟩ rfl hl.1 rfl (Nat.le_of_ble_eq_true rfl) dX12_leafOf_18 ⟨Nat.le_of_ble_eq_true rfl, Nat.le_of_ble_eq_true rfl⟩) (fun H locs hB => ?_)
    refine lv_if_eq (tgt := 28) hx hb dX12_leafOf_21 (by decide) (fun c13 => ?_) (fun c13 => ?_)
    · replace hv := y_br_t hv c13
      refine lv_aload_n hx hb dX12_leafOf_28 rfl (lv_at hl 0 rfl) ?_
      refine lv_ldc2 (v := (1801810036 : Int64)) hx hb hown (hts _ qkX12_133) dX12_leafOf_29 ?_
      obtain ⟨r15, c14, hv⟩ := y_bi_e hv
      refine z_thI hc hB (z_runV hc hB 11 (mm_X12_isWord hSK l ad o0 (1801810036 : Int64) h c14) md_X12_isWord qmX12_203 g6 (by decide) rfl rfl rfl ⟨Nat.le_of_ble_eq_true rfl, Nat.le_of_ble_eq_true rfl⟩ rfl hl.1 rfl (Nat.le_of_ble_eq_true rfl) dX12_leafOf_32 ⟨Nat.le_of_ble_eq_true rfl, Nat.le_of_ble_eq_true rfl⟩) (fun H locs hB => ?_)
      refine lv_if_eq (tgt := 42) hx hb dX12_leafOf_35 (by decide) (fun c19 => ?_) (fun c19 => ?_)
      · replace hv := y_br_t hv c19
        refine lv_aload_n hx hb dX12_leafOf_42 rfl (lv_at hl 0 rfl) ?_
        refine lv_ldc2 (v := (491495845235 : Int64)) hx hb hown (hts _ qkX12_137) dX12_leafOf_43 ?_
        obtain ⟨r21, c20, hv⟩ := y_bi_e hv
        refine z_thI hc hB (z_runV hc hB 11 (mm_X12_isWord hSK l ad o0 (491495845235 : Int64) h c20) md_X12_isWord qmX12_203 g6 (by decide) rfl rfl rfl ⟨Nat.le_of_ble_eq_true rfl, Nat.le_of_ble_eq_true rfl⟩ rfl hl.1 rfl (Nat.le_of_ble_eq_true rfl) dX12_leafOf_46 ⟨Nat.le_of_ble_eq_true rfl, Nat.le_of_ble_eq_true rfl⟩) (fun H locs hB => ?_)
        refine lv_if_eq (tgt := 56) hx hb dX12_leafOf_49 (by decide) (fun c25 => ?_) (fun c25 => ?_)
        · replace hv := y_br_t hv c25
          refine lv_aload_n hx hb dX12_leafOf_56 rfl (lv_at hl 0 rfl) ?_
          refine lv_ldc2 (v := (110442489933171 : Int64)) hx hb hown (hts _ qkX12_139) dX12_leafOf_57 ?_
          obtain ⟨r27, c26, hv⟩ := y_bi_e hv
          refine z_thI hc hB (z_runV hc hB 11 (mm_X12_isWord hSK l ad o0 (110442489933171 : Int64) h c26) md_X12_isWord qmX12_203 g6 (by decide) rfl rfl rfl ⟨Nat.le_of_ble_eq_true rfl, Nat.le_of_ble_eq_true rfl⟩ rfl hl.1 rfl (Nat.le_of_ble_eq_true rfl) dX12_leafOf_60 ⟨Nat.le_of_ble_eq_true rfl, Nat.le_of_ble_eq_true rfl⟩) (fun H locs hB => ?_)
          refine lv_if_eq (tgt := 70) hx hb dX12_leafOf_63 (by decide) (fun c31 => ?_) (fun c31 => ?_)
          · replace hv := y_br_t hv c31
            refine lv_aload_n hx hb dX12_leafOf_70 rfl (lv_at hl 0 rfl) ?_
            refine lv_ldc2 (v := (482854658917 : Int64)) hx hb hown (hts _ qkX12_141) dX12_leafOf_71 ?_
            obtain ⟨r33, c32, hv⟩ := y_bi_e hv
            refine z_thI hc hB (z_runV hc hB 11 (mm_X12_isWord hSK l ad o0 (482854658917 : Int64) h c32) md_X12_isWord qmX12_203 g6 (by decide) rfl rfl rfl ⟨Nat.le_of_ble_eq_true rfl, Nat.le_of_ble_eq_true rfl⟩ rfl hl.1 rfl (Nat.le_of_ble_eq_true rfl) dX12_leafOf_74 ⟨Nat.le_of_ble_eq_true rfl, Nat.le_of_ble_eq_true rfl⟩) (fun H locs hB => ?_)
            refine lv_if_eq (tgt := 84) hx hb dX12_leafOf_77 (by decide) (fun c37 => ?_) (fun c37 => ?_)
            · replace hv := y_br_t hv c37
              refine lv_iconst (v := (-1 : Int32)) hx hb dX12_leafOf_84 (by decide) ?_
              replace hv := Option.some.inj hv
              subst hv
              rw [← kt]
              exact z_iret hc hB hr dX12_leafOf_85
            · replace hv := y_br_f hv c37
              refine lv_iconst (v := (5 : Int32)) hx hb dX12_leafOf_80 (by decide) ?_
              refine lv_goto (tgt := 85) hx hb dX12_leafOf_81 (by decide) ?_
              replace hv := Option.some.inj hv
              subst hv
              rw [← kt]
              exact z_iret hc hB hr dX12_leafOf_85
          · replace hv := y_br_f hv c31
            refine lv_iconst (v := (4 : Int32)) hx hb dX12_leafOf_66 (by decide) ?_
            refine lv_goto (tgt := 85) hx hb dX12_leafOf_67 (by decide) ?_
            replace hv := Option.some.inj hv
            subst hv
            rw [← kt]
            exact z_iret hc hB hr dX12_leafOf_85
        · replace hv := y_br_f hv c25
          refine lv_iconst (v := (3 : Int32)) hx hb dX12_leafOf_52 (by decide) ?_
          refine lv_goto (tgt := 85) hx hb dX12_leafOf_53 (by decide) ?_
          replace hv := Option.some.inj hv
          subst hv
          rw [← kt]
          exact z_iret hc hB hr dX12_leafOf_85
      · replace hv := y_br_f hv c19
        refine lv_iconst (v := (2 : Int32)) hx hb dX12_leafOf_38 (by decide) ?_
        refine lv_goto (tgt := 85) hx hb dX12_leafOf_39 (by decide) ?_
        replace hv := Option.some.inj hv
        subst hv
        rw [← kt]
        exact z_iret hc hB hr dX12_leafOf_85
    · replace hv := y_br_f hv c13
      refine lv_iconst (v := (1 : Int32)) hx hb dX12_leafOf_24 (by decide) ?_
      refine lv_goto (tgt := 85) hx hb dX12_leafOf_25 (by decide) ?_
      replace hv := Option.some.inj hv
      subst hv
      rw [← kt]
      exact z_iret hc hB hr dX12_leafOf_85
  · replace hv := y_br_f hv c7
    refine lv_iconst (v := (0 : Int32)) hx hb dX12_leafOf_10 (by decide) ?_
    refine lv_goto (tgt := 85) hx hb dX12_leafOf_11 (by decide) ?_
    replace hv := Option.some.inj hv
    subst hv
    rw [← kt]
    exact z_iret hc hB hr dX12_leafOf_85
theorem qfX12_441 : Cond.fieldLink RX12 441 "DreamTestsModel" "ones" "I" ∈ z_ws := List.mem_filter.mpr ⟨List.mem_append_right _ (List.mem_of_getElem? (i := 1349) (by decide +kernel)), rfl⟩
theorem qfX12_444 : Cond.fieldLink RX12 444 "DreamTestsModel" "isWhole" "Z" ∈ z_ws := List.mem_filter.mpr ⟨List.mem_append_right _ (List.mem_of_getElem? (i := 1352) (by decide +kernel)), rfl⟩
theorem qkX12_129 : Cond.constantLong RX12 129 (7237492 : Int64) ∈ z_ws := List.mem_filter.mpr ⟨List.mem_append_right _ (List.mem_of_getElem? (i := 1289) (by decide +kernel)), rfl⟩
theorem qmX12_438 : Cond.methodLink RX12 438 yX12_leafOf ∈ z_ws := List.mem_filter.mpr ⟨List.mem_append_right _ (List.mem_of_getElem? (i := 1879) (by decide +kernel)), rfl⟩
theorem qc_X12_leafOf : Cond.code yX12_leafOf cX12_leafOf 1 (some .int) ∈ z_ws := List.mem_filter.mpr ⟨List.mem_append_right _ (List.mem_of_getElem? (i := 1882) (by decide +kernel)), rfl⟩
theorem qi_X12_leafOf : Cond.instanceMethod yX12_leafOf ∈ z_ws := List.mem_filter.mpr ⟨List.mem_append_right _ (List.mem_of_getElem? (i := 1881) (by decide +kernel)), rfl⟩
theorem qs_X12_leafOf : Cond.selects RX12 yX12_leafOf yX12_leafOf ∈ z_ws := List.mem_filter.mpr ⟨List.mem_append_left _ (List.mem_of_getElem? (i := 90) (by decide +kernel)), rfl⟩
theorem md_X12_leafOf : z_mdV yX12_leafOf cX12_leafOf 1 (some .int) 0 := ⟨⟨qn_RX12, qc_X12_leafOf, ⟨by decide +kernel, by decide +kernel, by decide +kernel⟩⟩, qi_X12_leafOf, qs_X12_leafOf⟩
theorem dX12_operand_0 : decode cX12_operand 0 = .ok (.aload_n 0, 1) := by decide +kernel
theorem dX12_operand_1 : decode cX12_operand 1 = .ok (.ldc2_w 129, 3) := by decide +kernel
theorem dX12_operand_4 : decode cX12_operand 4 = .ok (.invokevirtual 203, 3) := by decide +kernel
theorem dX12_operand_7 : decode cX12_operand 7 = .ok (.istore_n 1, 1) := by decide +kernel
theorem dX12_operand_8 : decode cX12_operand 8 = .ok (.aload_n 0, 1) := by decide +kernel
theorem dX12_operand_9 : decode cX12_operand 9 = .ok (.bipush 40, 2) := by decide +kernel
theorem dX12_operand_11 : decode cX12_operand 11 = .ok (.invokevirtual 179, 3) := by decide +kernel
theorem dX12_operand_14 : decode cX12_operand 14 = .ok (.istore_n 2, 1) := by decide +kernel
theorem dX12_operand_15 : decode cX12_operand 15 = .ok (.aload_n 0, 1) := by decide +kernel
theorem dX12_operand_16 : decode cX12_operand 16 = .ok (.invokevirtual 438, 3) := by decide +kernel
theorem dX12_operand_19 : decode cX12_operand 19 = .ok (.istore_n 3, 1) := by decide +kernel
theorem dX12_operand_20 : decode cX12_operand 20 = .ok (.iload_n 1, 1) := by decide +kernel
theorem dX12_operand_21 : decode cX12_operand 21 = .ok (.ifCond .ne 17, 3) := by decide +kernel
theorem dX12_operand_24 : decode cX12_operand 24 = .ok (.iload_n 2, 1) := by decide +kernel
theorem dX12_operand_25 : decode cX12_operand 25 = .ok (.ifCond .ne 13, 3) := by decide +kernel
theorem dX12_operand_28 : decode cX12_operand 28 = .ok (.iload_n 3, 1) := by decide +kernel
theorem dX12_operand_29 : decode cX12_operand 29 = .ok (.ifCond .ge 9, 3) := by decide +kernel
theorem dX12_operand_32 : decode cX12_operand 32 = .ok (.aload_n 0, 1) := by decide +kernel
theorem dX12_operand_33 : decode cX12_operand 33 = .ok (.iconst 1, 1) := by decide +kernel
theorem dX12_operand_34 : decode cX12_operand 34 = .ok (.invokevirtual 182, 3) := by decide +kernel
theorem dX12_operand_37 : decode cX12_operand 37 = .ok (.ireturn, 1) := by decide +kernel
theorem dX12_operand_38 : decode cX12_operand 38 = .ok (.aload_n 0, 1) := by decide +kernel
theorem dX12_operand_39 : decode cX12_operand 39 = .ok (.getfield 441, 3) := by decide +kernel
theorem dX12_operand_42 : decode cX12_operand 42 = .ok (.bipush 20, 2) := by decide +kernel
theorem dX12_operand_44 : decode cX12_operand 44 = .ok (.if_icmp .eq 12, 3) := by decide +kernel
theorem dX12_operand_47 : decode cX12_operand 47 = .ok (.aload_n 0, 1) := by decide +kernel
theorem dX12_operand_48 : decode cX12_operand 48 = .ok (.getfield 435, 3) := by decide +kernel
theorem dX12_operand_51 : decode cX12_operand 51 = .ok (.bipush 8, 2) := by decide +kernel
theorem dX12_operand_53 : decode cX12_operand 53 = .ok (.if_icmp .le 9, 3) := by decide +kernel
theorem dX12_operand_56 : decode cX12_operand 56 = .ok (.aload_n 0, 1) := by decide +kernel
theorem dX12_operand_57 : decode cX12_operand 57 = .ok (.iconst 4, 1) := by decide +kernel
theorem dX12_operand_58 : decode cX12_operand 58 = .ok (.invokevirtual 182, 3) := by decide +kernel
theorem dX12_operand_61 : decode cX12_operand 61 = .ok (.ireturn, 1) := by decide +kernel
theorem dX12_operand_62 : decode cX12_operand 62 = .ok (.aload_n 0, 1) := by decide +kernel
theorem dX12_operand_63 : decode cX12_operand 63 = .ok (.dup, 1) := by decide +kernel
theorem dX12_operand_64 : decode cX12_operand 64 = .ok (.getfield 441, 3) := by decide +kernel
theorem dX12_operand_67 : decode cX12_operand 67 = .ok (.iconst 1, 1) := by decide +kernel
theorem dX12_operand_68 : decode cX12_operand 68 = .ok (.iadd, 1) := by decide +kernel
theorem dX12_operand_69 : decode cX12_operand 69 = .ok (.putfield 441, 3) := by decide +kernel
theorem dX12_operand_72 : decode cX12_operand 72 = .ok (.aload_n 0, 1) := by decide +kernel
theorem dX12_operand_73 : decode cX12_operand 73 = .ok (.invokevirtual 185, 3) := by decide +kernel
theorem dX12_operand_76 : decode cX12_operand 76 = .ok (.iload_n 1, 1) := by decide +kernel
theorem dX12_operand_77 : decode cX12_operand 77 = .ok (.ifCond .ne 7, 3) := by decide +kernel
theorem dX12_operand_80 : decode cX12_operand 80 = .ok (.iload_n 2, 1) := by decide +kernel
theorem dX12_operand_81 : decode cX12_operand 81 = .ok (.ifCond .eq 45, 3) := by decide +kernel
theorem dX12_operand_84 : decode cX12_operand 84 = .ok (.aload_n 0, 1) := by decide +kernel
theorem dX12_operand_85 : decode cX12_operand 85 = .ok (.getfield 83, 3) := by decide +kernel
theorem dX12_operand_88 : decode cX12_operand 88 = .ok (.aload_n 0, 1) := by decide +kernel
theorem dX12_operand_89 : decode cX12_operand 89 = .ok (.getfield 428, 3) := by decide +kernel
theorem dX12_operand_92 : decode cX12_operand 92 = .ok (.iload_n 1, 1) := by decide +kernel
theorem dX12_operand_93 : decode cX12_operand 93 = .ok (.ifCond .eq 8, 3) := by decide +kernel
theorem dX12_operand_96 : decode cX12_operand 96 = .ok (.bipush 20, 2) := by decide +kernel
theorem dX12_operand_98 : decode cX12_operand 98 = .ok (.goto 5, 3) := by decide +kernel
theorem dX12_operand_101 : decode cX12_operand 101 = .ok (.bipush 23, 2) := by decide +kernel
theorem dX12_operand_103 : decode cX12_operand 103 = .ok (.iastore, 1) := by decide +kernel
theorem dX12_operand_104 : decode cX12_operand 104 = .ok (.aload_n 0, 1) := by decide +kernel
theorem dX12_operand_105 : decode cX12_operand 105 = .ok (.dup, 1) := by decide +kernel
theorem dX12_operand_106 : decode cX12_operand 106 = .ok (.getfield 428, 3) := by decide +kernel
theorem dX12_operand_109 : decode cX12_operand 109 = .ok (.iconst 1, 1) := by decide +kernel
theorem dX12_operand_110 : decode cX12_operand 110 = .ok (.iadd, 1) := by decide +kernel
theorem dX12_operand_111 : decode cX12_operand 111 = .ok (.putfield 428, 3) := by decide +kernel
theorem dX12_operand_114 : decode cX12_operand 114 = .ok (.aload_n 0, 1) := by decide +kernel
theorem dX12_operand_115 : decode cX12_operand 115 = .ok (.dup, 1) := by decide +kernel
theorem dX12_operand_116 : decode cX12_operand 116 = .ok (.getfield 435, 3) := by decide +kernel
theorem dX12_operand_119 : decode cX12_operand 119 = .ok (.iconst 1, 1) := by decide +kernel
theorem dX12_operand_120 : decode cX12_operand 120 = .ok (.iadd, 1) := by decide +kernel
theorem dX12_operand_121 : decode cX12_operand 121 = .ok (.putfield 435, 3) := by decide +kernel
theorem dX12_operand_124 : decode cX12_operand 124 = .ok (.iconst 1, 1) := by decide +kernel
theorem dX12_operand_125 : decode cX12_operand 125 = .ok (.ireturn, 1) := by decide +kernel
theorem dX12_operand_126 : decode cX12_operand 126 = .ok (.aload_n 0, 1) := by decide +kernel
theorem dX12_operand_127 : decode cX12_operand 127 = .ok (.iconst 1, 1) := by decide +kernel
theorem dX12_operand_128 : decode cX12_operand 128 = .ok (.putfield 444, 3) := by decide +kernel
theorem dX12_operand_131 : decode cX12_operand 131 = .ok (.iload_n 3, 1) := by decide +kernel
theorem dX12_operand_132 : decode cX12_operand 132 = .ok (.iconst 2, 1) := by decide +kernel
theorem dX12_operand_133 : decode cX12_operand 133 = .ok (.if_icmp .ge 12, 3) := by decide +kernel
theorem dX12_operand_136 : decode cX12_operand 136 = .ok (.aload_n 0, 1) := by decide +kernel
theorem dX12_operand_137 : decode cX12_operand 137 = .ok (.iload_n 3, 1) := by decide +kernel
theorem dX12_operand_138 : decode cX12_operand 138 = .ok (.iconst 0, 1) := by decide +kernel
theorem dX12_operand_139 : decode cX12_operand 139 = .ok (.iconst 0, 1) := by decide +kernel
theorem dX12_operand_140 : decode cX12_operand 140 = .ok (.invokevirtual 431, 3) := by decide +kernel
theorem dX12_operand_143 : decode cX12_operand 143 = .ok (.iconst 1, 1) := by decide +kernel
theorem dX12_operand_144 : decode cX12_operand 144 = .ok (.ireturn, 1) := by decide +kernel
theorem dX12_operand_145 : decode cX12_operand 145 = .ok (.iload_n 3, 1) := by decide +kernel
theorem dX12_operand_146 : decode cX12_operand 146 = .ok (.iconst 2, 1) := by decide +kernel
theorem dX12_operand_147 : decode cX12_operand 147 = .ok (.if_icmp .ne 55, 3) := by decide +kernel
theorem dX12_operand_150 : decode cX12_operand 150 = .ok (.aload_n 0, 1) := by decide +kernel
theorem dX12_operand_151 : decode cX12_operand 151 = .ok (.invokevirtual 195, 3) := by decide +kernel
theorem dX12_operand_154 : decode cX12_operand 154 = .ok (.ifCond .ne 9, 3) := by decide +kernel
theorem dX12_operand_157 : decode cX12_operand 157 = .ok (.aload_n 0, 1) := by decide +kernel
theorem dX12_operand_158 : decode cX12_operand 158 = .ok (.iconst 1, 1) := by decide +kernel
theorem dX12_operand_159 : decode cX12_operand 159 = .ok (.invokevirtual 182, 3) := by decide +kernel
theorem dX12_operand_162 : decode cX12_operand 162 = .ok (.ireturn, 1) := by decide +kernel
theorem dX12_operand_163 : decode cX12_operand 163 = .ok (.aload_n 0, 1) := by decide +kernel
theorem dX12_operand_164 : decode cX12_operand 164 = .ok (.bipush 8, 2) := by decide +kernel
theorem dX12_operand_166 : decode cX12_operand 166 = .ok (.aload_n 0, 1) := by decide +kernel
theorem dX12_operand_167 : decode cX12_operand 167 = .ok (.getfield 33, 3) := by decide +kernel
theorem dX12_operand_170 : decode cX12_operand 170 = .ok (.iconst 1, 1) := by decide +kernel
theorem dX12_operand_171 : decode cX12_operand 171 = .ok (.iaload, 1) := by decide +kernel
theorem dX12_operand_172 : decode cX12_operand 172 = .ok (.invokevirtual 199, 3) := by decide +kernel
theorem dX12_operand_175 : decode cX12_operand 175 = .ok (.istore 4, 2) := by decide +kernel
theorem dX12_operand_177 : decode cX12_operand 177 = .ok (.iload 4, 2) := by decide +kernel
theorem dX12_operand_179 : decode cX12_operand 179 = .ok (.ifCond .ge 9, 3) := by decide +kernel
theorem dX12_operand_182 : decode cX12_operand 182 = .ok (.aload_n 0, 1) := by decide +kernel
theorem dX12_operand_183 : decode cX12_operand 183 = .ok (.iconst 3, 1) := by decide +kernel
theorem dX12_operand_184 : decode cX12_operand 184 = .ok (.invokevirtual 182, 3) := by decide +kernel
theorem dX12_operand_187 : decode cX12_operand 187 = .ok (.ireturn, 1) := by decide +kernel
theorem dX12_operand_188 : decode cX12_operand 188 = .ok (.aload_n 0, 1) := by decide +kernel
theorem dX12_operand_189 : decode cX12_operand 189 = .ok (.iload_n 3, 1) := by decide +kernel
theorem dX12_operand_190 : decode cX12_operand 190 = .ok (.iconst 0, 1) := by decide +kernel
theorem dX12_operand_191 : decode cX12_operand 191 = .ok (.iload 4, 2) := by decide +kernel
theorem dX12_operand_193 : decode cX12_operand 193 = .ok (.invokevirtual 431, 3) := by decide +kernel
theorem dX12_operand_196 : decode cX12_operand 196 = .ok (.aload_n 0, 1) := by decide +kernel
theorem dX12_operand_197 : decode cX12_operand 197 = .ok (.invokevirtual 185, 3) := by decide +kernel
theorem dX12_operand_200 : decode cX12_operand 200 = .ok (.iconst 1, 1) := by decide +kernel
theorem dX12_operand_201 : decode cX12_operand 201 = .ok (.ireturn, 1) := by decide +kernel
theorem dX12_operand_202 : decode cX12_operand 202 = .ok (.aload_n 0, 1) := by decide +kernel
theorem dX12_operand_203 : decode cX12_operand 203 = .ok (.getfield 156, 3) := by decide +kernel
theorem dX12_operand_206 : decode cX12_operand 206 = .ok (.iconst 3, 1) := by decide +kernel
theorem dX12_operand_207 : decode cX12_operand 207 = .ok (.if_icmp .ne 21, 3) := by decide +kernel
theorem dX12_operand_210 : decode cX12_operand 210 = .ok (.aload_n 0, 1) := by decide +kernel
theorem dX12_operand_211 : decode cX12_operand 211 = .ok (.getfield 166, 3) := by decide +kernel
theorem dX12_operand_214 : decode cX12_operand 214 = .ok (.bipush 60, 2) := by decide +kernel
theorem dX12_operand_216 : decode cX12_operand 216 = .ok (.if_icmp .lt 12, 3) := by decide +kernel
theorem dX12_operand_219 : decode cX12_operand 219 = .ok (.aload_n 0, 1) := by decide +kernel
theorem dX12_operand_220 : decode cX12_operand 220 = .ok (.getfield 166, 3) := by decide +kernel
theorem dX12_operand_223 : decode cX12_operand 223 = .ok (.bipush 62, 2) := by decide +kernel
theorem dX12_operand_225 : decode cX12_operand 225 = .ok (.if_icmp .le 9, 3) := by decide +kernel
theorem dX12_operand_228 : decode cX12_operand 228 = .ok (.aload_n 0, 1) := by decide +kernel
theorem dX12_operand_229 : decode cX12_operand 229 = .ok (.iconst 1, 1) := by decide +kernel
theorem dX12_operand_230 : decode cX12_operand 230 = .ok (.invokevirtual 182, 3) := by decide +kernel
theorem dX12_operand_233 : decode cX12_operand 233 = .ok (.ireturn, 1) := by decide +kernel
theorem dX12_operand_234 : decode cX12_operand 234 = .ok (.aload_n 0, 1) := by decide +kernel
theorem dX12_operand_235 : decode cX12_operand 235 = .ok (.getfield 166, 3) := by decide +kernel
theorem dX12_operand_238 : decode cX12_operand 238 = .ok (.istore 4, 2) := by decide +kernel
theorem dX12_operand_240 : decode cX12_operand 240 = .ok (.aload_n 0, 1) := by decide +kernel
theorem dX12_operand_241 : decode cX12_operand 241 = .ok (.invokevirtual 185, 3) := by decide +kernel
theorem dX12_operand_244 : decode cX12_operand 244 = .ok (.aload_n 0, 1) := by decide +kernel
theorem dX12_operand_245 : decode cX12_operand 245 = .ok (.getfield 156, 3) := by decide +kernel
theorem dX12_operand_248 : decode cX12_operand 248 = .ok (.iconst 2, 1) := by decide +kernel
theorem dX12_operand_249 : decode cX12_operand 249 = .ok (.if_icmp .eq 9, 3) := by decide +kernel
theorem dX12_operand_252 : decode cX12_operand 252 = .ok (.aload_n 0, 1) := by decide +kernel
theorem dX12_operand_253 : decode cX12_operand 253 = .ok (.iconst 1, 1) := by decide +kernel
theorem dX12_operand_254 : decode cX12_operand 254 = .ok (.invokevirtual 182, 3) := by decide +kernel
theorem dX12_operand_257 : decode cX12_operand 257 = .ok (.ireturn, 1) := by decide +kernel
theorem dX12_operand_258 : decode cX12_operand 258 = .ok (.aload_n 0, 1) := by decide +kernel
theorem dX12_operand_259 : decode cX12_operand 259 = .ok (.iload_n 3, 1) := by decide +kernel
theorem dX12_operand_260 : decode cX12_operand 260 = .ok (.iload 4, 2) := by decide +kernel
theorem dX12_operand_262 : decode cX12_operand 262 = .ok (.aload_n 0, 1) := by decide +kernel
theorem dX12_operand_263 : decode cX12_operand 263 = .ok (.getfield 166, 3) := by decide +kernel
theorem dX12_operand_266 : decode cX12_operand 266 = .ok (.invokevirtual 431, 3) := by decide +kernel
theorem dX12_operand_269 : decode cX12_operand 269 = .ok (.aload_n 0, 1) := by decide +kernel
theorem dX12_operand_270 : decode cX12_operand 270 = .ok (.invokevirtual 185, 3) := by decide +kernel
theorem dX12_operand_273 : decode cX12_operand 273 = .ok (.iconst 1, 1) := by decide +kernel
theorem dX12_operand_274 : decode cX12_operand 274 = .ok (.ireturn, 1) := by decide +kernel
abbrev rm_X12_operand : Room := { frames := 2, cells := 0, slots := 0, locals := 43 }
noncomputable def fX12_operand_b56 (o0 : Nat) (h : z_T) : Option (Int32 × z_T) :=
  y_gd (z_ok h o0 11) <|
  y_bi (fX12_bad o0 (4 : Int32) h) fun ⟨r2, h6⟩ =>
  y_gd (y_b r2) <|
  some (r2, h6)
noncomputable def fX12_operand_b103 (o0 : Nat) (s0 : Nat) (s1 : Int32) (s2 : Int32) (h : z_T) : Option (Int32 × z_T) :=
  y_gd (z_ok h s0 13) <|
  y_gd (z_ix s1 (z_N h s0)) <|
  y_nm (z_sI h s0 s1.toNatClampNeg s2) fun h11 =>
  y_gd (z_ok h11 o0 11) <|
  y_nm (z_sI h11 o0 50 ((z_I h11 o0 50) + (1 : Int32))) fun h13 =>
  y_nm (z_sI h13 o0 51 ((z_I h13 o0 51) + (1 : Int32))) fun h14 =>
  some ((1 : Int32), h14)
noncomputable def fX12_operand_b84 (o0 : Nat) (x1 : Int32) (h : z_T) : Option (Int32 × z_T) :=
  y_gd (z_ok h o0 11) <|
  y_bi (z_R h o0 47) fun o16 =>
  y_br (x1 = 0)
    (fX12_operand_b103 o0 o16 (z_I h o0 50) (23 : Int32) h)
    (fX12_operand_b103 o0 o16 (z_I h o0 50) (20 : Int32) h)
noncomputable def fX12_operand_b228 (o0 : Nat) (h : z_T) : Option (Int32 × z_T) :=
  y_gd (z_ok h o0 11) <|
  y_bi (fX12_bad o0 (1 : Int32) h) fun ⟨r19, h23⟩ =>
  y_gd (y_b r19) <|
  some (r19, h23)
noncomputable def fX12_operand_b38 (o0 : Nat) (x1 : Int32) (x2 : Int32) (x3 : Int32) (h : z_T) : Option (Int32 × z_T) :=
  y_gd (z_ok h o0 11) <|
  y_br ((z_I h o0 49) = (20 : Int32))
    (fX12_operand_b56 o0 h)
    (y_br ((z_I h o0 51) ≤ (8 : Int32))
      (y_nm (z_sI h o0 49 ((z_I h o0 49) + (1 : Int32))) fun h29 =>
      y_bi (fX12_go o0 h29) fun h31 =>
      y_br (x1 = 0)
        (y_br (x2 = 0)
          (y_gd (z_ok h31 o0 11) <|
          y_nm (z_sI h31 o0 52 (1 : Int32)) fun h35 =>
          y_br ((2 : Int32) ≤ x3)
            (y_br (x3 = (2 : Int32))
              (y_bi (fX12_isName o0 h35) fun r59 =>
              y_br (r59 = 0)
                (y_bi (fX12_bad o0 (1 : Int32) h35) fun ⟨r86, h90⟩ =>
                y_gd (y_b r86) <|
                some (r86, h90))
                (y_bi (z_R h35 o0 6) fun o64 =>
                y_gd (z_ok h35 o64 13) <|
                y_gd (z_ix (1 : Int32) (z_N h35 o64)) <|
                y_bi (fX12_find o0 (8 : Int32) (z_I h35 o64 (1 : Int32).toNatClampNeg) h35) fun r68 =>
                y_br (0 ≤ r68)
                  (y_bi (fX12_code o0 x3 (0 : Int32) r68 h35) fun h74 =>
                  y_gd (z_ok h74 o0 11) <|
                  y_bi (fX12_go o0 h74) fun h76 =>
                  some ((1 : Int32), h76))
                  (y_bi (fX12_bad o0 (3 : Int32) h35) fun ⟨r79, h83⟩ =>
                  y_gd (y_b r79) <|
                  some (r79, h83))))
              (y_br ((z_I h35 o0 11) = (3 : Int32))
                (y_br ((z_I h35 o0 14) < (60 : Int32))
                  (fX12_operand_b228 o0 h35)
                  (y_br ((z_I h35 o0 14) ≤ (62 : Int32))
                    (y_nm ((z_I h35 o0 14)) fun v41 =>
                    y_bi (fX12_go o0 h35) fun h43 =>
                    y_gd (z_ok h43 o0 11) <|
                    y_br ((z_I h43 o0 11) = (2 : Int32))
                      (y_bi (fX12_code o0 x3 v41 (z_I h43 o0 14) h43) fun h47 =>
                      y_gd (z_ok h47 o0 11) <|
                      y_bi (fX12_go o0 h47) fun h49 =>
                      some ((1 : Int32), h49))
                      (y_bi (fX12_bad o0 (1 : Int32) h43) fun ⟨r52, h56⟩ =>
                      y_gd (y_b r52) <|
                      some (r52, h56)))
                    (fX12_operand_b228 o0 h35)))
                (fX12_operand_b228 o0 h35)))
            (y_bi (fX12_code o0 x3 (0 : Int32) (0 : Int32) h35) fun h93 =>
            some ((1 : Int32), h93)))
          (fX12_operand_b84 o0 x1 h31))
        (fX12_operand_b84 o0 x1 h31))
      (fX12_operand_b56 o0 h))
noncomputable def fX12_operand (o0 : Nat) (h : z_T) : Option (Int32 × z_T) :=
  y_gd (z_ok h o0 11) <|
  y_bi (fX12_isWord o0 (7237492 : Int64) h) fun r95 =>
  y_bi (fX12_isSign o0 (40 : Int32) h) fun r101 =>
  y_bi (fX12_leafOf o0 h) fun r106 =>
  y_br (r95 = 0)
    (y_br (r101 = 0)
      (y_br (0 ≤ r106)
        (fX12_operand_b38 o0 r95 r101 r106 h)
        (y_bi (fX12_bad o0 (1 : Int32) h) fun ⟨r114, h118⟩ =>
        y_gd (y_b r114) <|
        some (r114, h118)))
      (fX12_operand_b38 o0 r95 r101 r106 h))
    (fX12_operand_b38 o0 r95 r101 r106 h)
set_option maxHeartbeats 4000000 in
set_option maxRecDepth 100000 in
theorem mm_X12_operand {G : z_Gt} {S : State → Prop} (hSK : z_SK S) (l : Launch) (ad : Nat → Nat) (o0 : Nat) (h : z_T) {r0 : Int32} {h9 : z_T} (hv : fX12_operand o0 h = some (r0, h9)) : z_Mi G S l yX12_operand cX12_operand 5 (.boolean) rm_X12_operand 0 0 [.ref (ad o0)] ad h h9 r0 := by
  refine z_ofW hSK (by decide) (Nat.le_of_ble_eq_true rfl) ?_
  intro p e s m args below meth c ls hc hr hnm hB hl
  have hx := hc.1.1
  have hb := hc.1.2.1
  have hown := hc.1.2.2.2.1
  have hts := hc.1.2.2.2.2
  replace hc : z_C G S ad (z_n h) p m c cX12_operand 5 s args RX12 meth := hc
  replace hown : s.vm.findClass RX12 = some m.cls := hown
  replace hl : lv_has ls 5 [(0, .ref (ad o0))] := hl
  show W p l e rm_X12_operand s m args below meth c s.heap [] 0 0 (MQ below (z_Qi G ad h9 (z_n h) s.heap.size r0) args s 0 0 (z_A ad (z_n h) s.heap.size)) (F0 m 0 ls [])
  obtain ⟨rs, kt⟩ : ∃ rs : Int32 × z_T, rs = (r0, h9) := ⟨_, rfl⟩
  generalize hn0 : z_n h = n0 at hc hB ⊢
  have b56 : ∀ (h : z_T) (H : Heap) (locs : List Loc) (ls : Array Slot), z_B G ad n0 s h H locs → lv_has ls 5 [(0, .ref (ad o0))] → ∀ w, fX12_operand_b56 o0 h = some w → w = (r0, h9) → W p l e rm_X12_operand s m args below meth c H locs 0 0 (MQ below (z_Qi G ad h9 n0 s.heap.size r0) args s 0 0 (z_A ad n0 s.heap.size)) (F0 m 56 ls []) := by
    intro h H locs ls hB hl w hv kb
    refine lv_aload_n hx hb dX12_operand_56 rfl (lv_at hl 0 rfl) ?_
    refine lv_iconst (v := (4 : Int32)) hx hb dX12_operand_57 (by decide) ?_
    obtain ⟨g7, hv⟩ := y_gd_e hv
    obtain ⟨⟨r2, h6⟩, c1, hv⟩ := y_bi_e hv
    refine z_thI hc hB (z_runV hc hB 11 (mm_X12_bad hSK l ad o0 (4 : Int32) h c1) md_X12_bad qmX12_182 g7 (by decide) rfl rfl rfl ⟨Nat.le_of_ble_eq_true rfl, Nat.le_of_ble_eq_true rfl⟩ rfl hl.1 rfl (Nat.le_of_ble_eq_true rfl) dX12_operand_58 ⟨Nat.le_of_ble_eq_true rfl, Nat.le_of_ble_eq_true rfl⟩) (fun H locs hB => ?_)
    obtain ⟨y8, hv⟩ := y_gd_e hv
    replace hv := Option.some.inj hv
    subst hv
    obtain ⟨e1, e2⟩ := y_pr kb
    rw [← e1, ← e2]
    exact z_zret hc hB hr (y_b_n y8) dX12_operand_61
  have b103 : ∀ (s0 : Nat) (s1 : Int32) (s2 : Int32) (h : z_T) (H : Heap) (locs : List Loc) (ls : Array Slot), z_B G ad n0 s h H locs → lv_has ls 5 [(0, .ref (ad o0))] → ∀ w, fX12_operand_b103 o0 s0 s1 s2 h = some w → w = (r0, h9) → W p l e rm_X12_operand s m args below meth c H locs 0 0 (MQ below (z_Qi G ad h9 n0 s.heap.size r0) args s 0 0 (z_A ad n0 s.heap.size)) (F0 m 103 ls [.int s2, .int s1, .ref (ad s0)]) := by
    intro s0 s1 s2 h H locs ls hB hl w hv kb
    obtain ⟨g9, hv⟩ := y_gd_e hv
    obtain ⟨i10, hv⟩ := y_gd_e hv
    obtain ⟨h11, eh11, hv⟩ := y_nm_e hv
    refine y_iast hc hB eh11 g9 i10 dX12_operand_103 (fun H locs hB => ?_)
    refine lv_aload_n hx hb dX12_operand_104 rfl (lv_at hl 0 rfl) ?_
    refine lv_dup hx hb dX12_operand_105 rfl ?_
    obtain ⟨g12, hv⟩ := y_gd_e hv
    refine z_getI hc hB 11 50 g12 (by decide) (by decide) rfl (z_l1 hc qfX12_428) dX12_operand_106 ?_
    refine lv_iconst (v := (1 : Int32)) hx hb dX12_operand_109 (by decide) ?_
    refine lv_iadd hx hb dX12_operand_110 ?_
    obtain ⟨h13, eh13, hv⟩ := y_nm_e hv
    refine y_putI hc hB 11 50 eh13 g12 (z_l1 hc qfX12_428) dX12_operand_111 (by decide) (by decide) rfl rfl rfl rfl (fun H locs hB => ?_)
    refine lv_aload_n hx hb dX12_operand_114 rfl (lv_at hl 0 rfl) ?_
    refine lv_dup hx hb dX12_operand_115 rfl ?_
    refine z_getI hc hB 11 51 (by rw [eh13]; exact g12) (by decide) (by decide) rfl (z_l1 hc qfX12_435) dX12_operand_116 ?_
    refine lv_iconst (v := (1 : Int32)) hx hb dX12_operand_119 (by decide) ?_
    refine lv_iadd hx hb dX12_operand_120 ?_
    obtain ⟨h14, eh14, hv⟩ := y_nm_e hv
    refine y_putI hc hB 11 51 eh14 (by rw [eh13]; exact g12) (z_l1 hc qfX12_435) dX12_operand_121 (by decide) (by decide) rfl rfl rfl rfl (fun H locs hB => ?_)
    refine lv_iconst (v := (1 : Int32)) hx hb dX12_operand_124 (by decide) ?_
    replace hv := Option.some.inj hv
    subst hv
    obtain ⟨e1, e2⟩ := y_pr kb
    rw [← e1, ← e2]
    exact z_zret hc hB hr rfl dX12_operand_125
  have b84 : ∀ (x1 : Int32) (h : z_T) (H : Heap) (locs : List Loc) (ls : Array Slot), z_B G ad n0 s h H locs → lv_has ls 5 [(0, .ref (ad o0)), (1, .int x1)] → ∀ w, fX12_operand_b84 o0 x1 h = some w → w = (r0, h9) → W p l e rm_X12_operand s m args below meth c H locs 0 0 (MQ below (z_Qi G ad h9 n0 s.heap.size r0) args s 0 0 (z_A ad n0 s.heap.size)) (F0 m 84 ls []) := by
    intro x1 h H locs ls hB hl w hv kb
    refine lv_aload_n hx hb dX12_operand_84 rfl (lv_at hl 0 rfl) ?_
    obtain ⟨g15, hv⟩ := y_gd_e hv
    obtain ⟨o16, eo16, hv⟩ := y_bi_e hv
    refine z_getR hc hB 11 47 g15 eo16 (by decide) (by decide) rfl (z_l1 hc qfX12_83) dX12_operand_85 ?_
    refine lv_aload_n hx hb dX12_operand_88 rfl (lv_at hl 0 rfl) ?_
    refine z_getI hc hB 11 50 g15 (by decide) (by decide) rfl (z_l1 hc qfX12_428) dX12_operand_89 ?_
    refine lv_iload_n hx hb dX12_operand_92 rfl (lv_at hl 1 rfl) ?_
    refine lv_if_eq (tgt := 101) hx hb dX12_operand_93 (by decide) (fun c17 => ?_) (fun c17 => ?_)
    · replace hv := y_br_t hv c17
      refine lv_bipush (v := (23 : Int32)) hx hb dX12_operand_101 (by decide) ?_
      exact b103 o16 (z_I h o0 50) (23 : Int32) h _ _ _ hB (lv_sub hl [0] rfl) _ hv kb
    · replace hv := y_br_f hv c17
      refine lv_bipush (v := (20 : Int32)) hx hb dX12_operand_96 (by decide) ?_
      refine lv_goto (tgt := 103) hx hb dX12_operand_98 (by decide) ?_
      exact b103 o16 (z_I h o0 50) (20 : Int32) h _ _ _ hB (lv_sub hl [0] rfl) _ hv kb
  have b228 : ∀ (h : z_T) (H : Heap) (locs : List Loc) (ls : Array Slot), z_B G ad n0 s h H locs → lv_has ls 5 [(0, .ref (ad o0))] → ∀ w, fX12_operand_b228 o0 h = some w → w = (r0, h9) → W p l e rm_X12_operand s m args below meth c H locs 0 0 (MQ below (z_Qi G ad h9 n0 s.heap.size r0) args s 0 0 (z_A ad n0 s.heap.size)) (F0 m 228 ls []) := by
    intro h H locs ls hB hl w hv kb
    refine lv_aload_n hx hb dX12_operand_228 rfl (lv_at hl 0 rfl) ?_
    refine lv_iconst (v := (1 : Int32)) hx hb dX12_operand_229 (by decide) ?_
    obtain ⟨g24, hv⟩ := y_gd_e hv
    obtain ⟨⟨r19, h23⟩, c18, hv⟩ := y_bi_e hv
    refine z_thI hc hB (z_runV hc hB 11 (mm_X12_bad hSK l ad o0 (1 : Int32) h c18) md_X12_bad qmX12_182 g24 (by decide) rfl rfl rfl ⟨Nat.le_of_ble_eq_true rfl, Nat.le_of_ble_eq_true rfl⟩ rfl hl.1 rfl (Nat.le_of_ble_eq_true rfl) dX12_operand_230 ⟨Nat.le_of_ble_eq_true rfl, Nat.le_of_ble_eq_true rfl⟩) (fun H locs hB => ?_)
    obtain ⟨y25, hv⟩ := y_gd_e hv
    replace hv := Option.some.inj hv
    subst hv
    obtain ⟨e1, e2⟩ := y_pr kb
    rw [← e1, ← e2]
    exact z_zret hc hB hr (y_b_n y25) dX12_operand_233
  have b38 : ∀ (x1 : Int32) (x2 : Int32) (x3 : Int32) (h : z_T) (H : Heap) (locs : List Loc) (ls : Array Slot), z_B G ad n0 s h H locs → lv_has ls 5 [(0, .ref (ad o0)), (1, .int x1), (2, .int x2), (3, .int x3)] → ∀ w, fX12_operand_b38 o0 x1 x2 x3 h = some w → w = (r0, h9) → W p l e rm_X12_operand s m args below meth c H locs 0 0 (MQ below (z_Qi G ad h9 n0 s.heap.size r0) args s 0 0 (z_A ad n0 s.heap.size)) (F0 m 38 ls []) := by
    intro x1 x2 x3 h H locs ls hB hl w hv kb
    refine lv_aload_n hx hb dX12_operand_38 rfl (lv_at hl 0 rfl) ?_
    obtain ⟨g26, hv⟩ := y_gd_e hv
    refine z_getI hc hB 11 49 g26 (by decide) (by decide) rfl (z_l1 hc qfX12_441) dX12_operand_39 ?_
    refine lv_bipush (v := (20 : Int32)) hx hb dX12_operand_42 (by decide) ?_
    refine lv_icmp_eq (tgt := 56) hx hb dX12_operand_44 (by decide) (fun c27 => ?_) (fun c27 => ?_)
    · replace hv := y_br_t hv c27
      exact b56 h _ _ _ hB (lv_sub hl [0] rfl) _ hv kb
    · replace hv := y_br_f hv c27
      refine lv_aload_n hx hb dX12_operand_47 rfl (lv_at hl 0 rfl) ?_
      refine z_getI hc hB 11 51 g26 (by decide) (by decide) rfl (z_l1 hc qfX12_435) dX12_operand_48 ?_
      refine lv_bipush (v := (8 : Int32)) hx hb dX12_operand_51 (by decide) ?_
      refine lv_icmp_le (tgt := 62) hx hb dX12_operand_53 (by decide) (fun c28 => ?_) (fun c28 => ?_)
      · replace hv := y_br_t hv c28
        refine lv_aload_n hx hb dX12_operand_62 rfl (lv_at hl 0 rfl) ?_
        refine lv_dup hx hb dX12_operand_63 rfl ?_
        refine z_getI hc hB 11 49 g26 (by decide) (by decide) rfl (z_l1 hc qfX12_441) dX12_operand_64 ?_
        refine lv_iconst (v := (1 : Int32)) hx hb dX12_operand_67 (by decide) ?_
        refine lv_iadd hx hb dX12_operand_68 ?_
        obtain ⟨h29, eh29, hv⟩ := y_nm_e hv
        refine y_putI hc hB 11 49 eh29 g26 (z_l1 hc qfX12_441) dX12_operand_69 (by decide) (by decide) rfl rfl rfl rfl (fun H locs hB => ?_)
        refine lv_aload_n hx hb dX12_operand_72 rfl (lv_at hl 0 rfl) ?_
        obtain ⟨h31, c30, hv⟩ := y_bi_e hv
        refine z_thV hc hB (z_runV hc hB 11 (mm_X12_go hSK l ad o0 h29 c30) md_X12_go qmX12_185 (by rw [eh29]; exact g26) (by decide) rfl rfl rfl ⟨Nat.le_of_ble_eq_true rfl, Nat.le_of_ble_eq_true rfl⟩ rfl hl.1 rfl (Nat.le_of_ble_eq_true rfl) dX12_operand_73 ⟨Nat.le_of_ble_eq_true rfl, Nat.le_of_ble_eq_true rfl⟩) (fun H locs hB => ?_)
        refine lv_iload_n hx hb dX12_operand_76 rfl (lv_at hl 1 rfl) ?_
        refine lv_if_ne (tgt := 84) hx hb dX12_operand_77 (by decide) (fun c32 => ?_) (fun c32 => ?_)
        · replace hv := y_br_f hv c32
          exact b84 x1 h31 _ _ _ hB (lv_sub hl [0, 1] rfl) _ hv kb
        · replace hv := y_br_t hv c32
          refine lv_iload_n hx hb dX12_operand_80 rfl (lv_at hl 2 rfl) ?_
          refine lv_if_eq (tgt := 126) hx hb dX12_operand_81 (by decide) (fun c33 => ?_) (fun c33 => ?_)
          · replace hv := y_br_t hv c33
            refine lv_aload_n hx hb dX12_operand_126 rfl (lv_at hl 0 rfl) ?_
            refine lv_iconst (v := (1 : Int32)) hx hb dX12_operand_127 (by decide) ?_
            obtain ⟨g34, hv⟩ := y_gd_e hv
            obtain ⟨h35, eh35, hv⟩ := y_nm_e hv
            refine y_putI hc hB 11 52 eh35 g34 (z_l1 hc qfX12_444) dX12_operand_128 (by decide) (by decide) rfl rfl rfl rfl (fun H locs hB => ?_)
            refine lv_iload_n hx hb dX12_operand_131 rfl (lv_at hl 3 rfl) ?_
            refine lv_iconst (v := (2 : Int32)) hx hb dX12_operand_132 (by decide) ?_
            refine lv_icmp_ge (tgt := 145) hx hb dX12_operand_133 (by decide) (fun c36 => ?_) (fun c36 => ?_)
            · replace hv := y_br_t hv c36
              refine lv_iload_n hx hb dX12_operand_145 rfl (lv_at hl 3 rfl) ?_
              refine lv_iconst (v := (2 : Int32)) hx hb dX12_operand_146 (by decide) ?_
              refine lv_icmp_ne (tgt := 202) hx hb dX12_operand_147 (by decide) (fun c37 => ?_) (fun c37 => ?_)
              · replace hv := y_br_f hv c37
                refine lv_aload_n hx hb dX12_operand_202 rfl (lv_at hl 0 rfl) ?_
                refine z_getI hc hB 11 11 (by rw [eh35]; exact g34) (by decide) (by decide) rfl (z_l1 hc qfX12_156) dX12_operand_203 ?_
                refine lv_iconst (v := (3 : Int32)) hx hb dX12_operand_206 (by decide) ?_
                refine lv_icmp_ne (tgt := 228) hx hb dX12_operand_207 (by decide) (fun c38 => ?_) (fun c38 => ?_)
                · replace hv := y_br_f hv c38
                  exact b228 h35 _ _ _ hB (lv_sub hl [0] rfl) _ hv kb
                · replace hv := y_br_t hv c38
                  refine lv_aload_n hx hb dX12_operand_210 rfl (lv_at hl 0 rfl) ?_
                  refine z_getI hc hB 11 14 (by rw [eh35]; exact g34) (by decide) (by decide) rfl (z_l1 hc qfX12_166) dX12_operand_211 ?_
                  refine lv_bipush (v := (60 : Int32)) hx hb dX12_operand_214 (by decide) ?_
                  refine lv_icmp_lt (tgt := 228) hx hb dX12_operand_216 (by decide) (fun c39 => ?_) (fun c39 => ?_)
                  · replace hv := y_br_t hv c39
                    exact b228 h35 _ _ _ hB (lv_sub hl [0] rfl) _ hv kb
                  · replace hv := y_br_f hv c39
                    refine lv_aload_n hx hb dX12_operand_219 rfl (lv_at hl 0 rfl) ?_
                    refine z_getI hc hB 11 14 (by rw [eh35]; exact g34) (by decide) (by decide) rfl (z_l1 hc qfX12_166) dX12_operand_220 ?_
                    refine lv_bipush (v := (62 : Int32)) hx hb dX12_operand_223 (by decide) ?_
                    refine lv_icmp_le (tgt := 234) hx hb dX12_operand_225 (by decide) (fun c40 => ?_) (fun c40 => ?_)
                    · replace hv := y_br_t hv c40
                      refine lv_aload_n hx hb dX12_operand_234 rfl (lv_at hl 0 rfl) ?_
                      refine z_getI hc hB 11 14 (by rw [eh35]; exact g34) (by decide) (by decide) rfl (z_l1 hc qfX12_166) dX12_operand_235 ?_
                      obtain ⟨v41, ev41, hv⟩ := y_nm_e hv
                      rw [← ev41]
                      refine lv_istore (lv' := [(4, .int v41), (0, .ref (ad o0)), (1, .int x1), (2, .int x2), (3, .int x3)]) hx hb dX12_operand_238 hl (by decide) rfl (fun ls hl => ?_)
                      refine lv_aload_n hx hb dX12_operand_240 rfl (lv_at hl 1 rfl) ?_
                      obtain ⟨h43, c42, hv⟩ := y_bi_e hv
                      refine z_thV hc hB (z_runV hc hB 11 (mm_X12_go hSK l ad o0 h35 c42) md_X12_go qmX12_185 (by rw [eh35]; exact g34) (by decide) rfl rfl rfl ⟨Nat.le_of_ble_eq_true rfl, Nat.le_of_ble_eq_true rfl⟩ rfl hl.1 rfl (Nat.le_of_ble_eq_true rfl) dX12_operand_241 ⟨Nat.le_of_ble_eq_true rfl, Nat.le_of_ble_eq_true rfl⟩) (fun H locs hB => ?_)
                      refine lv_aload_n hx hb dX12_operand_244 rfl (lv_at hl 1 rfl) ?_
                      obtain ⟨g44, hv⟩ := y_gd_e hv
                      refine z_getI hc hB 11 11 g44 (by decide) (by decide) rfl (z_l1 hc qfX12_156) dX12_operand_245 ?_
                      refine lv_iconst (v := (2 : Int32)) hx hb dX12_operand_248 (by decide) ?_
                      refine lv_icmp_eq (tgt := 258) hx hb dX12_operand_249 (by decide) (fun c45 => ?_) (fun c45 => ?_)
                      · replace hv := y_br_t hv c45
                        refine lv_aload_n hx hb dX12_operand_258 rfl (lv_at hl 1 rfl) ?_
                        refine lv_iload_n hx hb dX12_operand_259 rfl (lv_at hl 4 rfl) ?_
                        refine lv_iload hx hb dX12_operand_260 (lv_at hl 0 rfl) ?_
                        refine lv_aload_n hx hb dX12_operand_262 rfl (lv_at hl 1 rfl) ?_
                        refine z_getI hc hB 11 14 g44 (by decide) (by decide) rfl (z_l1 hc qfX12_166) dX12_operand_263 ?_
                        obtain ⟨h47, c46, hv⟩ := y_bi_e hv
                        refine z_thV hc hB (z_runV hc hB 11 (mm_X12_code hSK l ad o0 x3 v41 (z_I h43 o0 14) h43 c46) md_X12_code qmX12_431 g44 (by decide) rfl rfl rfl ⟨Nat.le_of_ble_eq_true rfl, Nat.le_of_ble_eq_true rfl⟩ rfl hl.1 rfl (Nat.le_of_ble_eq_true rfl) dX12_operand_266 ⟨Nat.le_of_ble_eq_true rfl, Nat.le_of_ble_eq_true rfl⟩) (fun H locs hB => ?_)
                        refine lv_aload_n hx hb dX12_operand_269 rfl (lv_at hl 1 rfl) ?_
                        obtain ⟨g50, hv⟩ := y_gd_e hv
                        obtain ⟨h49, c48, hv⟩ := y_bi_e hv
                        refine z_thV hc hB (z_runV hc hB 11 (mm_X12_go hSK l ad o0 h47 c48) md_X12_go qmX12_185 g50 (by decide) rfl rfl rfl ⟨Nat.le_of_ble_eq_true rfl, Nat.le_of_ble_eq_true rfl⟩ rfl hl.1 rfl (Nat.le_of_ble_eq_true rfl) dX12_operand_270 ⟨Nat.le_of_ble_eq_true rfl, Nat.le_of_ble_eq_true rfl⟩) (fun H locs hB => ?_)
                        refine lv_iconst (v := (1 : Int32)) hx hb dX12_operand_273 (by decide) ?_
                        replace hv := Option.some.inj hv
                        subst hv
                        obtain ⟨e1, e2⟩ := y_pr kb
                        rw [← e1, ← e2]
                        exact z_zret hc hB hr rfl dX12_operand_274
                      · replace hv := y_br_f hv c45
                        refine lv_aload_n hx hb dX12_operand_252 rfl (lv_at hl 1 rfl) ?_
                        refine lv_iconst (v := (1 : Int32)) hx hb dX12_operand_253 (by decide) ?_
                        obtain ⟨⟨r52, h56⟩, c51, hv⟩ := y_bi_e hv
                        refine z_thI hc hB (z_runV hc hB 11 (mm_X12_bad hSK l ad o0 (1 : Int32) h43 c51) md_X12_bad qmX12_182 g44 (by decide) rfl rfl rfl ⟨Nat.le_of_ble_eq_true rfl, Nat.le_of_ble_eq_true rfl⟩ rfl hl.1 rfl (Nat.le_of_ble_eq_true rfl) dX12_operand_254 ⟨Nat.le_of_ble_eq_true rfl, Nat.le_of_ble_eq_true rfl⟩) (fun H locs hB => ?_)
                        obtain ⟨y57, hv⟩ := y_gd_e hv
                        replace hv := Option.some.inj hv
                        subst hv
                        obtain ⟨e1, e2⟩ := y_pr kb
                        rw [← e1, ← e2]
                        exact z_zret hc hB hr (y_b_n y57) dX12_operand_257
                    · replace hv := y_br_f hv c40
                      exact b228 h35 _ _ _ hB (lv_sub hl [0] rfl) _ hv kb
              · replace hv := y_br_t hv c37
                refine lv_aload_n hx hb dX12_operand_150 rfl (lv_at hl 0 rfl) ?_
                obtain ⟨r59, c58, hv⟩ := y_bi_e hv
                refine z_thI hc hB (z_runV hc hB 11 (mm_X12_isName hSK l ad o0 h35 c58) md_X12_isName qmX12_195 (by rw [eh35]; exact g34) (by decide) rfl rfl rfl ⟨Nat.le_of_ble_eq_true rfl, Nat.le_of_ble_eq_true rfl⟩ rfl hl.1 rfl (Nat.le_of_ble_eq_true rfl) dX12_operand_151 ⟨Nat.le_of_ble_eq_true rfl, Nat.le_of_ble_eq_true rfl⟩) (fun H locs hB => ?_)
                refine lv_if_ne (tgt := 163) hx hb dX12_operand_154 (by decide) (fun c63 => ?_) (fun c63 => ?_)
                · replace hv := y_br_f hv c63
                  refine lv_aload_n hx hb dX12_operand_163 rfl (lv_at hl 0 rfl) ?_
                  refine lv_bipush (v := (8 : Int32)) hx hb dX12_operand_164 (by decide) ?_
                  refine lv_aload_n hx hb dX12_operand_166 rfl (lv_at hl 0 rfl) ?_
                  obtain ⟨o64, eo64, hv⟩ := y_bi_e hv
                  refine z_getR hc hB 11 6 (by rw [eh35]; exact g34) eo64 (by decide) (by decide) rfl (z_l1 hc qfX12_33) dX12_operand_167 ?_
                  refine lv_iconst (v := (1 : Int32)) hx hb dX12_operand_170 (by decide) ?_
                  obtain ⟨g65, hv⟩ := y_gd_e hv
                  obtain ⟨i66, hv⟩ := y_gd_e hv
                  refine z_iald hc hB g65 i66 dX12_operand_171 ?_
                  obtain ⟨r68, c67, hv⟩ := y_bi_e hv
                  refine z_thI hc hB (z_runV hc hB 11 (mm_X12_find hSK l ad o0 (8 : Int32) (z_I h35 o64 (1 : Int32).toNatClampNeg) h35 c67) md_X12_find qmX12_199 (by rw [eh35]; exact g34) (by decide) rfl rfl rfl ⟨Nat.le_of_ble_eq_true rfl, Nat.le_of_ble_eq_true rfl⟩ rfl hl.1 rfl (Nat.le_of_ble_eq_true rfl) dX12_operand_172 ⟨Nat.le_of_ble_eq_true rfl, Nat.le_of_ble_eq_true rfl⟩) (fun H locs hB => ?_)
                  refine lv_istore (lv' := [(4, .int r68), (0, .ref (ad o0)), (1, .int x1), (2, .int x2), (3, .int x3)]) hx hb dX12_operand_175 hl (by decide) rfl (fun ls hl => ?_)
                  refine lv_iload hx hb dX12_operand_177 (lv_at hl 0 rfl) ?_
                  refine lv_if_ge (tgt := 188) hx hb dX12_operand_179 (by decide) (fun c72 => ?_) (fun c72 => ?_)
                  · replace hv := y_br_t hv c72
                    refine lv_aload_n hx hb dX12_operand_188 rfl (lv_at hl 1 rfl) ?_
                    refine lv_iload_n hx hb dX12_operand_189 rfl (lv_at hl 4 rfl) ?_
                    refine lv_iconst (v := (0 : Int32)) hx hb dX12_operand_190 (by decide) ?_
                    refine lv_iload hx hb dX12_operand_191 (lv_at hl 0 rfl) ?_
                    obtain ⟨h74, c73, hv⟩ := y_bi_e hv
                    refine z_thV hc hB (z_runV hc hB 11 (mm_X12_code hSK l ad o0 x3 (0 : Int32) r68 h35 c73) md_X12_code qmX12_431 (by rw [eh35]; exact g34) (by decide) rfl rfl rfl ⟨Nat.le_of_ble_eq_true rfl, Nat.le_of_ble_eq_true rfl⟩ rfl hl.1 rfl (Nat.le_of_ble_eq_true rfl) dX12_operand_193 ⟨Nat.le_of_ble_eq_true rfl, Nat.le_of_ble_eq_true rfl⟩) (fun H locs hB => ?_)
                    refine lv_aload_n hx hb dX12_operand_196 rfl (lv_at hl 1 rfl) ?_
                    obtain ⟨g77, hv⟩ := y_gd_e hv
                    obtain ⟨h76, c75, hv⟩ := y_bi_e hv
                    refine z_thV hc hB (z_runV hc hB 11 (mm_X12_go hSK l ad o0 h74 c75) md_X12_go qmX12_185 g77 (by decide) rfl rfl rfl ⟨Nat.le_of_ble_eq_true rfl, Nat.le_of_ble_eq_true rfl⟩ rfl hl.1 rfl (Nat.le_of_ble_eq_true rfl) dX12_operand_197 ⟨Nat.le_of_ble_eq_true rfl, Nat.le_of_ble_eq_true rfl⟩) (fun H locs hB => ?_)
                    refine lv_iconst (v := (1 : Int32)) hx hb dX12_operand_200 (by decide) ?_
                    replace hv := Option.some.inj hv
                    subst hv
                    obtain ⟨e1, e2⟩ := y_pr kb
                    rw [← e1, ← e2]
                    exact z_zret hc hB hr rfl dX12_operand_201
                  · replace hv := y_br_f hv c72
                    refine lv_aload_n hx hb dX12_operand_182 rfl (lv_at hl 1 rfl) ?_
                    refine lv_iconst (v := (3 : Int32)) hx hb dX12_operand_183 (by decide) ?_
                    obtain ⟨⟨r79, h83⟩, c78, hv⟩ := y_bi_e hv
                    refine z_thI hc hB (z_runV hc hB 11 (mm_X12_bad hSK l ad o0 (3 : Int32) h35 c78) md_X12_bad qmX12_182 (by rw [eh35]; exact g34) (by decide) rfl rfl rfl ⟨Nat.le_of_ble_eq_true rfl, Nat.le_of_ble_eq_true rfl⟩ rfl hl.1 rfl (Nat.le_of_ble_eq_true rfl) dX12_operand_184 ⟨Nat.le_of_ble_eq_true rfl, Nat.le_of_ble_eq_true rfl⟩) (fun H locs hB => ?_)
                    obtain ⟨y84, hv⟩ := y_gd_e hv
                    replace hv := Option.some.inj hv
                    subst hv
                    obtain ⟨e1, e2⟩ := y_pr kb
                    rw [← e1, ← e2]
                    exact z_zret hc hB hr (y_b_n y84) dX12_operand_187
                · replace hv := y_br_t hv c63
                  refine lv_aload_n hx hb dX12_operand_157 rfl (lv_at hl 0 rfl) ?_
                  refine lv_iconst (v := (1 : Int32)) hx hb dX12_operand_158 (by decide) ?_
                  obtain ⟨⟨r86, h90⟩, c85, hv⟩ := y_bi_e hv
                  refine z_thI hc hB (z_runV hc hB 11 (mm_X12_bad hSK l ad o0 (1 : Int32) h35 c85) md_X12_bad qmX12_182 (by rw [eh35]; exact g34) (by decide) rfl rfl rfl ⟨Nat.le_of_ble_eq_true rfl, Nat.le_of_ble_eq_true rfl⟩ rfl hl.1 rfl (Nat.le_of_ble_eq_true rfl) dX12_operand_159 ⟨Nat.le_of_ble_eq_true rfl, Nat.le_of_ble_eq_true rfl⟩) (fun H locs hB => ?_)
                  obtain ⟨y91, hv⟩ := y_gd_e hv
                  replace hv := Option.some.inj hv
                  subst hv
                  obtain ⟨e1, e2⟩ := y_pr kb
                  rw [← e1, ← e2]
                  exact z_zret hc hB hr (y_b_n y91) dX12_operand_162
            · replace hv := y_br_f hv c36
              refine lv_aload_n hx hb dX12_operand_136 rfl (lv_at hl 0 rfl) ?_
              refine lv_iload_n hx hb dX12_operand_137 rfl (lv_at hl 3 rfl) ?_
              refine lv_iconst (v := (0 : Int32)) hx hb dX12_operand_138 (by decide) ?_
              refine lv_iconst (v := (0 : Int32)) hx hb dX12_operand_139 (by decide) ?_
              obtain ⟨h93, c92, hv⟩ := y_bi_e hv
              refine z_thV hc hB (z_runV hc hB 11 (mm_X12_code hSK l ad o0 x3 (0 : Int32) (0 : Int32) h35 c92) md_X12_code qmX12_431 (by rw [eh35]; exact g34) (by decide) rfl rfl rfl ⟨Nat.le_of_ble_eq_true rfl, Nat.le_of_ble_eq_true rfl⟩ rfl hl.1 rfl (Nat.le_of_ble_eq_true rfl) dX12_operand_140 ⟨Nat.le_of_ble_eq_true rfl, Nat.le_of_ble_eq_true rfl⟩) (fun H locs hB => ?_)
              refine lv_iconst (v := (1 : Int32)) hx hb dX12_operand_143 (by decide) ?_
              replace hv := Option.some.inj hv
              subst hv
              obtain ⟨e1, e2⟩ := y_pr kb
              rw [← e1, ← e2]
              exact z_zret hc hB hr rfl dX12_operand_144
          · replace hv := y_br_f hv c33
            exact b84 x1 h31 _ _ _ hB (lv_sub hl [0, 1] rfl) _ hv kb
      · replace hv := y_br_f hv c28
        exact b56 h _ _ _ hB (lv_sub hl [0] rfl) _ hv kb
  rw [← kt] at hv
  refine lv_aload_n hx hb dX12_operand_0 rfl (lv_at hl 0 rfl) ?_
  refine lv_ldc2 (v := (7237492 : Int64)) hx hb hown (hts _ qkX12_129) dX12_operand_1 ?_
  obtain ⟨g99, hv⟩ := y_gd_e hv
  obtain ⟨r95, c94, hv⟩ := y_bi_e hv
  refine z_thI hc hB (z_runV hc hB 11 (mm_X12_isWord hSK l ad o0 (7237492 : Int64) h c94) md_X12_isWord qmX12_203 g99 (by decide) rfl rfl rfl ⟨Nat.le_of_ble_eq_true rfl, Nat.le_of_ble_eq_true rfl⟩ rfl hl.1 rfl (Nat.le_of_ble_eq_true rfl) dX12_operand_4 ⟨Nat.le_of_ble_eq_true rfl, Nat.le_of_ble_eq_true rfl⟩) (fun H locs hB => ?_)
  refine lv_istore_n (lv' := [(1, .int r95), (0, .ref (ad o0))]) hx hb dX12_operand_7 rfl hl (by decide) rfl (fun ls hl => ?_)
  refine lv_aload_n hx hb dX12_operand_8 rfl (lv_at hl 1 rfl) ?_
  refine lv_bipush (v := (40 : Int32)) hx hb dX12_operand_9 (by decide) ?_
  obtain ⟨r101, c100, hv⟩ := y_bi_e hv
  refine z_thI hc hB (z_runV hc hB 11 (mm_X12_isSign hSK l ad o0 (40 : Int32) h c100) md_X12_isSign qmX12_179 g99 (by decide) rfl rfl rfl ⟨Nat.le_of_ble_eq_true rfl, Nat.le_of_ble_eq_true rfl⟩ rfl hl.1 rfl (Nat.le_of_ble_eq_true rfl) dX12_operand_11 ⟨Nat.le_of_ble_eq_true rfl, Nat.le_of_ble_eq_true rfl⟩) (fun H locs hB => ?_)
  refine lv_istore_n (lv' := [(2, .int r101), (1, .int r95), (0, .ref (ad o0))]) hx hb dX12_operand_14 rfl hl (by decide) rfl (fun ls hl => ?_)
  refine lv_aload_n hx hb dX12_operand_15 rfl (lv_at hl 2 rfl) ?_
  obtain ⟨r106, c105, hv⟩ := y_bi_e hv
  refine z_thI hc hB (z_runV hc hB 11 (mm_X12_leafOf hSK l ad o0 h c105) md_X12_leafOf qmX12_438 g99 (by decide) rfl rfl rfl ⟨Nat.le_of_ble_eq_true rfl, Nat.le_of_ble_eq_true rfl⟩ rfl hl.1 rfl (Nat.le_of_ble_eq_true rfl) dX12_operand_16 ⟨Nat.le_of_ble_eq_true rfl, Nat.le_of_ble_eq_true rfl⟩) (fun H locs hB => ?_)
  refine lv_istore_n (lv' := [(3, .int r106), (2, .int r101), (1, .int r95), (0, .ref (ad o0))]) hx hb dX12_operand_19 rfl hl (by decide) rfl (fun ls hl => ?_)
  refine lv_iload_n hx hb dX12_operand_20 rfl (lv_at hl 2 rfl) ?_
  refine lv_if_ne (tgt := 38) hx hb dX12_operand_21 (by decide) (fun c110 => ?_) (fun c110 => ?_)
  · replace hv := y_br_f hv c110
    exact b38 r95 r101 r106 h _ _ _ hB (lv_sub hl [3, 2, 1, 0] rfl) _ hv kt
  · replace hv := y_br_t hv c110
    refine lv_iload_n hx hb dX12_operand_24 rfl (lv_at hl 1 rfl) ?_
    refine lv_if_ne (tgt := 38) hx hb dX12_operand_25 (by decide) (fun c111 => ?_) (fun c111 => ?_)
    · replace hv := y_br_f hv c111
      exact b38 r95 r101 r106 h _ _ _ hB (lv_sub hl [3, 2, 1, 0] rfl) _ hv kt
    · replace hv := y_br_t hv c111
      refine lv_iload_n hx hb dX12_operand_28 rfl (lv_at hl 0 rfl) ?_
      refine lv_if_ge (tgt := 38) hx hb dX12_operand_29 (by decide) (fun c112 => ?_) (fun c112 => ?_)
      · replace hv := y_br_t hv c112
        exact b38 r95 r101 r106 h _ _ _ hB (lv_sub hl [3, 2, 1, 0] rfl) _ hv kt
      · replace hv := y_br_f hv c112
        refine lv_aload_n hx hb dX12_operand_32 rfl (lv_at hl 3 rfl) ?_
        refine lv_iconst (v := (1 : Int32)) hx hb dX12_operand_33 (by decide) ?_
        obtain ⟨⟨r114, h118⟩, c113, hv⟩ := y_bi_e hv
        refine z_thI hc hB (z_runV hc hB 11 (mm_X12_bad hSK l ad o0 (1 : Int32) h c113) md_X12_bad qmX12_182 g99 (by decide) rfl rfl rfl ⟨Nat.le_of_ble_eq_true rfl, Nat.le_of_ble_eq_true rfl⟩ rfl hl.1 rfl (Nat.le_of_ble_eq_true rfl) dX12_operand_34 ⟨Nat.le_of_ble_eq_true rfl, Nat.le_of_ble_eq_true rfl⟩) (fun H locs hB => ?_)
        obtain ⟨y119, hv⟩ := y_gd_e hv
        replace hv := Option.some.inj hv
        subst hv
        obtain ⟨e1, e2⟩ := y_pr kt
        rw [← e1, ← e2]
        exact z_zret hc hB hr (y_b_n y119) dX12_operand_37
theorem qmX12_450 : Cond.methodLink RX12 450 yX12_joins ∈ z_ws := List.mem_filter.mpr ⟨List.mem_append_right _ (List.mem_of_getElem? (i := 1867) (by decide +kernel)), rfl⟩
theorem qc_X12_joins : Cond.code yX12_joins cX12_joins 2 none ∈ z_ws := List.mem_filter.mpr ⟨List.mem_append_right _ (List.mem_of_getElem? (i := 1870) (by decide +kernel)), rfl⟩
theorem qi_X12_joins : Cond.instanceMethod yX12_joins ∈ z_ws := List.mem_filter.mpr ⟨List.mem_append_right _ (List.mem_of_getElem? (i := 1869) (by decide +kernel)), rfl⟩
theorem qs_X12_joins : Cond.selects RX12 yX12_joins yX12_joins ∈ z_ws := List.mem_filter.mpr ⟨List.mem_append_left _ (List.mem_of_getElem? (i := 87) (by decide +kernel)), rfl⟩
theorem md_X12_joins : z_mdV yX12_joins cX12_joins 2 none 1 := ⟨⟨qn_RX12, qc_X12_joins, ⟨by decide +kernel, by decide +kernel, by decide +kernel⟩⟩, qi_X12_joins, qs_X12_joins⟩
theorem qkX12_127 : Cond.constantLong RX12 127 (6385252 : Int64) ∈ z_ws := List.mem_filter.mpr ⟨List.mem_append_right _ (List.mem_of_getElem? (i := 1288) (by decide +kernel)), rfl⟩
theorem qmX12_447 : Cond.methodLink RX12 447 yX12_nots ∈ z_ws := List.mem_filter.mpr ⟨List.mem_append_right _ (List.mem_of_getElem? (i := 1859) (by decide +kernel)), rfl⟩
theorem qc_X12_nots : Cond.code yX12_nots cX12_nots 1 none ∈ z_ws := List.mem_filter.mpr ⟨List.mem_append_right _ (List.mem_of_getElem? (i := 1862) (by decide +kernel)), rfl⟩
theorem qi_X12_nots : Cond.instanceMethod yX12_nots ∈ z_ws := List.mem_filter.mpr ⟨List.mem_append_right _ (List.mem_of_getElem? (i := 1861) (by decide +kernel)), rfl⟩
theorem qs_X12_nots : Cond.selects RX12 yX12_nots yX12_nots ∈ z_ws := List.mem_filter.mpr ⟨List.mem_append_left _ (List.mem_of_getElem? (i := 85) (by decide +kernel)), rfl⟩
theorem md_X12_nots : z_mdV yX12_nots cX12_nots 1 none 0 := ⟨⟨qn_RX12, qc_X12_nots, ⟨by decide +kernel, by decide +kernel, by decide +kernel⟩⟩, qi_X12_nots, qs_X12_nots⟩
theorem qkX12_125 : Cond.constantLong RX12 125 (28530 : Int64) ∈ z_ws := List.mem_filter.mpr ⟨List.mem_append_right _ (List.mem_of_getElem? (i := 1287) (by decide +kernel)), rfl⟩
theorem dX12_behind_0 : decode cX12_behind 0 = .ok (.aload_n 0, 1) := by decide +kernel
theorem dX12_behind_1 : decode cX12_behind 1 = .ok (.invokevirtual 447, 3) := by decide +kernel
theorem dX12_behind_4 : decode cX12_behind 4 = .ok (.aload_n 0, 1) := by decide +kernel
theorem dX12_behind_5 : decode cX12_behind 5 = .ok (.ldc2_w 127, 3) := by decide +kernel
theorem dX12_behind_8 : decode cX12_behind 8 = .ok (.invokevirtual 203, 3) := by decide +kernel
theorem dX12_behind_11 : decode cX12_behind 11 = .ok (.ifCond .ne 13, 3) := by decide +kernel
theorem dX12_behind_14 : decode cX12_behind 14 = .ok (.aload_n 0, 1) := by decide +kernel
theorem dX12_behind_15 : decode cX12_behind 15 = .ok (.ldc2_w 125, 3) := by decide +kernel
theorem dX12_behind_18 : decode cX12_behind 18 = .ok (.invokevirtual 203, 3) := by decide +kernel
theorem dX12_behind_21 : decode cX12_behind 21 = .ok (.ifCond .eq 71, 3) := by decide +kernel
theorem dX12_behind_24 : decode cX12_behind 24 = .ok (.aload_n 0, 1) := by decide +kernel
theorem dX12_behind_25 : decode cX12_behind 25 = .ok (.aload_n 0, 1) := by decide +kernel
theorem dX12_behind_26 : decode cX12_behind 26 = .ok (.ldc2_w 127, 3) := by decide +kernel
theorem dX12_behind_29 : decode cX12_behind 29 = .ok (.invokevirtual 203, 3) := by decide +kernel
theorem dX12_behind_32 : decode cX12_behind 32 = .ok (.ifCond .eq 8, 3) := by decide +kernel
theorem dX12_behind_35 : decode cX12_behind 35 = .ok (.bipush 21, 2) := by decide +kernel
theorem dX12_behind_37 : decode cX12_behind 37 = .ok (.goto 5, 3) := by decide +kernel
theorem dX12_behind_40 : decode cX12_behind 40 = .ok (.bipush 22, 2) := by decide +kernel
theorem dX12_behind_42 : decode cX12_behind 42 = .ok (.invokevirtual 450, 3) := by decide +kernel
theorem dX12_behind_45 : decode cX12_behind 45 = .ok (.aload_n 0, 1) := by decide +kernel
theorem dX12_behind_46 : decode cX12_behind 46 = .ok (.getfield 83, 3) := by decide +kernel
theorem dX12_behind_49 : decode cX12_behind 49 = .ok (.aload_n 0, 1) := by decide +kernel
theorem dX12_behind_50 : decode cX12_behind 50 = .ok (.getfield 428, 3) := by decide +kernel
theorem dX12_behind_53 : decode cX12_behind 53 = .ok (.aload_n 0, 1) := by decide +kernel
theorem dX12_behind_54 : decode cX12_behind 54 = .ok (.ldc2_w 127, 3) := by decide +kernel
theorem dX12_behind_57 : decode cX12_behind 57 = .ok (.invokevirtual 203, 3) := by decide +kernel
theorem dX12_behind_60 : decode cX12_behind 60 = .ok (.ifCond .eq 8, 3) := by decide +kernel
theorem dX12_behind_63 : decode cX12_behind 63 = .ok (.bipush 21, 2) := by decide +kernel
theorem dX12_behind_65 : decode cX12_behind 65 = .ok (.goto 5, 3) := by decide +kernel
theorem dX12_behind_68 : decode cX12_behind 68 = .ok (.bipush 22, 2) := by decide +kernel
theorem dX12_behind_70 : decode cX12_behind 70 = .ok (.iastore, 1) := by decide +kernel
theorem dX12_behind_71 : decode cX12_behind 71 = .ok (.aload_n 0, 1) := by decide +kernel
theorem dX12_behind_72 : decode cX12_behind 72 = .ok (.dup, 1) := by decide +kernel
theorem dX12_behind_73 : decode cX12_behind 73 = .ok (.getfield 428, 3) := by decide +kernel
theorem dX12_behind_76 : decode cX12_behind 76 = .ok (.iconst 1, 1) := by decide +kernel
theorem dX12_behind_77 : decode cX12_behind 77 = .ok (.iadd, 1) := by decide +kernel
theorem dX12_behind_78 : decode cX12_behind 78 = .ok (.putfield 428, 3) := by decide +kernel
theorem dX12_behind_81 : decode cX12_behind 81 = .ok (.aload_n 0, 1) := by decide +kernel
theorem dX12_behind_82 : decode cX12_behind 82 = .ok (.iconst 0, 1) := by decide +kernel
theorem dX12_behind_83 : decode cX12_behind 83 = .ok (.putfield 444, 3) := by decide +kernel
theorem dX12_behind_86 : decode cX12_behind 86 = .ok (.aload_n 0, 1) := by decide +kernel
theorem dX12_behind_87 : decode cX12_behind 87 = .ok (.invokevirtual 185, 3) := by decide +kernel
theorem dX12_behind_90 : decode cX12_behind 90 = .ok (.iconst 1, 1) := by decide +kernel
theorem dX12_behind_91 : decode cX12_behind 91 = .ok (.ireturn, 1) := by decide +kernel
theorem dX12_behind_92 : decode cX12_behind 92 = .ok (.aload_n 0, 1) := by decide +kernel
theorem dX12_behind_93 : decode cX12_behind 93 = .ok (.bipush 22, 2) := by decide +kernel
theorem dX12_behind_95 : decode cX12_behind 95 = .ok (.invokevirtual 450, 3) := by decide +kernel
theorem dX12_behind_98 : decode cX12_behind 98 = .ok (.aload_n 0, 1) := by decide +kernel
theorem dX12_behind_99 : decode cX12_behind 99 = .ok (.bipush 41, 2) := by decide +kernel
theorem dX12_behind_101 : decode cX12_behind 101 = .ok (.invokevirtual 179, 3) := by decide +kernel
theorem dX12_behind_104 : decode cX12_behind 104 = .ok (.ifCond .eq 10, 3) := by decide +kernel
theorem dX12_behind_107 : decode cX12_behind 107 = .ok (.aload_n 0, 1) := by decide +kernel
theorem dX12_behind_108 : decode cX12_behind 108 = .ok (.getfield 428, 3) := by decide +kernel
theorem dX12_behind_111 : decode cX12_behind 111 = .ok (.ifCond .ne 9, 3) := by decide +kernel
theorem dX12_behind_114 : decode cX12_behind 114 = .ok (.aload_n 0, 1) := by decide +kernel
theorem dX12_behind_115 : decode cX12_behind 115 = .ok (.iconst 1, 1) := by decide +kernel
theorem dX12_behind_116 : decode cX12_behind 116 = .ok (.invokevirtual 182, 3) := by decide +kernel
theorem dX12_behind_119 : decode cX12_behind 119 = .ok (.ireturn, 1) := by decide +kernel
theorem dX12_behind_120 : decode cX12_behind 120 = .ok (.aload_n 0, 1) := by decide +kernel
theorem dX12_behind_121 : decode cX12_behind 121 = .ok (.dup, 1) := by decide +kernel
theorem dX12_behind_122 : decode cX12_behind 122 = .ok (.getfield 428, 3) := by decide +kernel
theorem dX12_behind_125 : decode cX12_behind 125 = .ok (.iconst 1, 1) := by decide +kernel
theorem dX12_behind_126 : decode cX12_behind 126 = .ok (.isub, 1) := by decide +kernel
theorem dX12_behind_127 : decode cX12_behind 127 = .ok (.putfield 428, 3) := by decide +kernel
theorem dX12_behind_130 : decode cX12_behind 130 = .ok (.aload_n 0, 1) := by decide +kernel
theorem dX12_behind_131 : decode cX12_behind 131 = .ok (.dup, 1) := by decide +kernel
theorem dX12_behind_132 : decode cX12_behind 132 = .ok (.getfield 435, 3) := by decide +kernel
theorem dX12_behind_135 : decode cX12_behind 135 = .ok (.iconst 1, 1) := by decide +kernel
theorem dX12_behind_136 : decode cX12_behind 136 = .ok (.isub, 1) := by decide +kernel
theorem dX12_behind_137 : decode cX12_behind 137 = .ok (.putfield 435, 3) := by decide +kernel
theorem dX12_behind_140 : decode cX12_behind 140 = .ok (.aload_n 0, 1) := by decide +kernel
theorem dX12_behind_141 : decode cX12_behind 141 = .ok (.invokevirtual 185, 3) := by decide +kernel
theorem dX12_behind_144 : decode cX12_behind 144 = .ok (.iconst 1, 1) := by decide +kernel
theorem dX12_behind_145 : decode cX12_behind 145 = .ok (.ireturn, 1) := by decide +kernel
abbrev rm_X12_behind : Room := { frames := 2, cells := 0, slots := 0, locals := 44 }
noncomputable def fX12_behind_b70 (o0 : Nat) (s0 : Nat) (s1 : Int32) (s2 : Int32) (h : z_T) : Option (Int32 × z_T) :=
  y_gd (z_ok h s0 13) <|
  y_gd (z_ix s1 (z_N h s0)) <|
  y_nm (z_sI h s0 s1.toNatClampNeg s2) fun h3 =>
  y_gd (z_ok h3 o0 11) <|
  y_nm (z_sI h3 o0 50 ((z_I h3 o0 50) + (1 : Int32))) fun h5 =>
  y_nm (z_sI h5 o0 52 (0 : Int32)) fun h6 =>
  y_bi (fX12_go o0 h6) fun h8 =>
  some ((1 : Int32), h8)
noncomputable def fX12_behind_b42 (o0 : Nat) (s0 : Nat) (s1 : Int32) (h : z_T) : Option (Int32 × z_T) :=
  y_gd (z_ok h s0 11) <|
  y_bi (fX12_joins s0 s1 h) fun h10 =>
  y_gd (z_ok h10 o0 11) <|
  y_bi (z_R h10 o0 47) fun o13 =>
  y_bi (fX12_isWord o0 (6385252 : Int64) h10) fun r15 =>
  y_br (r15 = 0)
    (fX12_behind_b70 o0 o13 (z_I h10 o0 50) (22 : Int32) h10)
    (fX12_behind_b70 o0 o13 (z_I h10 o0 50) (21 : Int32) h10)
noncomputable def fX12_behind_b24 (o0 : Nat) (h : z_T) : Option (Int32 × z_T) :=
  y_gd (z_ok h o0 11) <|
  y_bi (fX12_isWord o0 (6385252 : Int64) h) fun r21 =>
  y_br (r21 = 0)
    (fX12_behind_b42 o0 o0 (22 : Int32) h)
    (fX12_behind_b42 o0 o0 (21 : Int32) h)
noncomputable def fX12_behind_b114 (o0 : Nat) (h : z_T) : Option (Int32 × z_T) :=
  y_gd (z_ok h o0 11) <|
  y_bi (fX12_bad o0 (1 : Int32) h) fun ⟨r28, h32⟩ =>
  y_gd (y_b r28) <|
  some (r28, h32)
noncomputable def fX12_behind (o0 : Nat) (h : z_T) : Option (Int32 × z_T) :=
  y_gd (z_ok h o0 11) <|
  y_bi (fX12_nots o0 h) fun h36 =>
  y_gd (z_ok h36 o0 11) <|
  y_bi (fX12_isWord o0 (6385252 : Int64) h36) fun r39 =>
  y_br (r39 = 0)
    (y_bi (fX12_isWord o0 (28530 : Int64) h36) fun r46 =>
    y_br (r46 = 0)
      (y_bi (fX12_joins o0 (22 : Int32) h36) fun h52 =>
      y_gd (z_ok h52 o0 11) <|
      y_bi (fX12_isSign o0 (41 : Int32) h52) fun r54 =>
      y_br (r54 = 0)
        (fX12_behind_b114 o0 h52)
        (y_br ((z_I h52 o0 50) = 0)
          (fX12_behind_b114 o0 h52)
          (y_nm (z_sI h52 o0 50 ((z_I h52 o0 50) - (1 : Int32))) fun h61 =>
          y_nm (z_sI h61 o0 51 ((z_I h61 o0 51) - (1 : Int32))) fun h62 =>
          y_bi (fX12_go o0 h62) fun h64 =>
          some ((1 : Int32), h64))))
      (fX12_behind_b24 o0 h36))
    (fX12_behind_b24 o0 h36)
set_option maxHeartbeats 4000000 in
set_option maxRecDepth 100000 in
theorem mm_X12_behind {G : z_Gt} {S : State → Prop} (hSK : z_SK S) (l : Launch) (ad : Nat → Nat) (o0 : Nat) (h : z_T) {r0 : Int32} {h9 : z_T} (hv : fX12_behind o0 h = some (r0, h9)) : z_Mi G S l yX12_behind cX12_behind 1 (.boolean) rm_X12_behind 0 0 [.ref (ad o0)] ad h h9 r0 := by
  refine z_ofW hSK (by decide) (Nat.le_of_ble_eq_true rfl) ?_
  intro p e s m args below meth c ls hc hr hnm hB hl
  have hx := hc.1.1
  have hb := hc.1.2.1
  have hown := hc.1.2.2.2.1
  have hts := hc.1.2.2.2.2
  replace hc : z_C G S ad (z_n h) p m c cX12_behind 1 s args RX12 meth := hc
  replace hown : s.vm.findClass RX12 = some m.cls := hown
  replace hl : lv_has ls 1 [(0, .ref (ad o0))] := hl
  show W p l e rm_X12_behind s m args below meth c s.heap [] 0 0 (MQ below (z_Qi G ad h9 (z_n h) s.heap.size r0) args s 0 0 (z_A ad (z_n h) s.heap.size)) (F0 m 0 ls [])
  obtain ⟨rs, kt⟩ : ∃ rs : Int32 × z_T, rs = (r0, h9) := ⟨_, rfl⟩
  generalize hn0 : z_n h = n0 at hc hB ⊢
  have b70 : ∀ (s0 : Nat) (s1 : Int32) (s2 : Int32) (h : z_T) (H : Heap) (locs : List Loc) (ls : Array Slot), z_B G ad n0 s h H locs → lv_has ls 1 [(0, .ref (ad o0))] → ∀ w, fX12_behind_b70 o0 s0 s1 s2 h = some w → w = (r0, h9) → W p l e rm_X12_behind s m args below meth c H locs 0 0 (MQ below (z_Qi G ad h9 n0 s.heap.size r0) args s 0 0 (z_A ad n0 s.heap.size)) (F0 m 70 ls [.int s2, .int s1, .ref (ad s0)]) := by
    intro s0 s1 s2 h H locs ls hB hl w hv kb
    obtain ⟨g1, hv⟩ := y_gd_e hv
    obtain ⟨i2, hv⟩ := y_gd_e hv
    obtain ⟨h3, eh3, hv⟩ := y_nm_e hv
    refine y_iast hc hB eh3 g1 i2 dX12_behind_70 (fun H locs hB => ?_)
    refine lv_aload_n hx hb dX12_behind_71 rfl (lv_at hl 0 rfl) ?_
    refine lv_dup hx hb dX12_behind_72 rfl ?_
    obtain ⟨g4, hv⟩ := y_gd_e hv
    refine z_getI hc hB 11 50 g4 (by decide) (by decide) rfl (z_l1 hc qfX12_428) dX12_behind_73 ?_
    refine lv_iconst (v := (1 : Int32)) hx hb dX12_behind_76 (by decide) ?_
    refine lv_iadd hx hb dX12_behind_77 ?_
    obtain ⟨h5, eh5, hv⟩ := y_nm_e hv
    refine y_putI hc hB 11 50 eh5 g4 (z_l1 hc qfX12_428) dX12_behind_78 (by decide) (by decide) rfl rfl rfl rfl (fun H locs hB => ?_)
    refine lv_aload_n hx hb dX12_behind_81 rfl (lv_at hl 0 rfl) ?_
    refine lv_iconst (v := (0 : Int32)) hx hb dX12_behind_82 (by decide) ?_
    obtain ⟨h6, eh6, hv⟩ := y_nm_e hv
    refine y_putI hc hB 11 52 eh6 (by rw [eh5]; exact g4) (z_l1 hc qfX12_444) dX12_behind_83 (by decide) (by decide) rfl rfl rfl rfl (fun H locs hB => ?_)
    refine lv_aload_n hx hb dX12_behind_86 rfl (lv_at hl 0 rfl) ?_
    obtain ⟨h8, c7, hv⟩ := y_bi_e hv
    refine z_thV hc hB (z_runV hc hB 11 (mm_X12_go hSK l ad o0 h6 c7) md_X12_go qmX12_185 (by rw [eh6, eh5]; exact g4) (by decide) rfl rfl rfl ⟨Nat.le_of_ble_eq_true rfl, Nat.le_of_ble_eq_true rfl⟩ rfl hl.1 rfl (Nat.le_of_ble_eq_true rfl) dX12_behind_87 ⟨Nat.le_of_ble_eq_true rfl, Nat.le_of_ble_eq_true rfl⟩) (fun H locs hB => ?_)
    refine lv_iconst (v := (1 : Int32)) hx hb dX12_behind_90 (by decide) ?_
    replace hv := Option.some.inj hv
    subst hv
    obtain ⟨e1, e2⟩ := y_pr kb
    rw [← e1, ← e2]
    exact z_zret hc hB hr rfl dX12_behind_91
  have b42 : ∀ (s0 : Nat) (s1 : Int32) (h : z_T) (H : Heap) (locs : List Loc) (ls : Array Slot), z_B G ad n0 s h H locs → lv_has ls 1 [(0, .ref (ad o0))] → ∀ w, fX12_behind_b42 o0 s0 s1 h = some w → w = (r0, h9) → W p l e rm_X12_behind s m args below meth c H locs 0 0 (MQ below (z_Qi G ad h9 n0 s.heap.size r0) args s 0 0 (z_A ad n0 s.heap.size)) (F0 m 42 ls [.int s1, .ref (ad s0)]) := by
    intro s0 s1 h H locs ls hB hl w hv kb
    obtain ⟨g11, hv⟩ := y_gd_e hv
    obtain ⟨h10, c9, hv⟩ := y_bi_e hv
    refine z_thV hc hB (z_runV hc hB 11 (mm_X12_joins hSK l ad s0 s1 h c9) md_X12_joins qmX12_450 g11 (by decide) rfl rfl rfl ⟨Nat.le_of_ble_eq_true rfl, Nat.le_of_ble_eq_true rfl⟩ rfl hl.1 rfl (Nat.le_of_ble_eq_true rfl) dX12_behind_42 ⟨Nat.le_of_ble_eq_true rfl, Nat.le_of_ble_eq_true rfl⟩) (fun H locs hB => ?_)
    refine lv_aload_n hx hb dX12_behind_45 rfl (lv_at hl 0 rfl) ?_
    obtain ⟨g12, hv⟩ := y_gd_e hv
    obtain ⟨o13, eo13, hv⟩ := y_bi_e hv
    refine z_getR hc hB 11 47 g12 eo13 (by decide) (by decide) rfl (z_l1 hc qfX12_83) dX12_behind_46 ?_
    refine lv_aload_n hx hb dX12_behind_49 rfl (lv_at hl 0 rfl) ?_
    refine z_getI hc hB 11 50 g12 (by decide) (by decide) rfl (z_l1 hc qfX12_428) dX12_behind_50 ?_
    refine lv_aload_n hx hb dX12_behind_53 rfl (lv_at hl 0 rfl) ?_
    refine lv_ldc2 (v := (6385252 : Int64)) hx hb hown (hts _ qkX12_127) dX12_behind_54 ?_
    obtain ⟨r15, c14, hv⟩ := y_bi_e hv
    refine z_thI hc hB (z_runV hc hB 11 (mm_X12_isWord hSK l ad o0 (6385252 : Int64) h10 c14) md_X12_isWord qmX12_203 g12 (by decide) rfl rfl rfl ⟨Nat.le_of_ble_eq_true rfl, Nat.le_of_ble_eq_true rfl⟩ rfl hl.1 rfl (Nat.le_of_ble_eq_true rfl) dX12_behind_57 ⟨Nat.le_of_ble_eq_true rfl, Nat.le_of_ble_eq_true rfl⟩) (fun H locs hB => ?_)
    refine lv_if_eq (tgt := 68) hx hb dX12_behind_60 (by decide) (fun c19 => ?_) (fun c19 => ?_)
    · replace hv := y_br_t hv c19
      refine lv_bipush (v := (22 : Int32)) hx hb dX12_behind_68 (by decide) ?_
      exact b70 o13 (z_I h10 o0 50) (22 : Int32) h10 _ _ _ hB (lv_sub hl [0] rfl) _ hv kb
    · replace hv := y_br_f hv c19
      refine lv_bipush (v := (21 : Int32)) hx hb dX12_behind_63 (by decide) ?_
      refine lv_goto (tgt := 70) hx hb dX12_behind_65 (by decide) ?_
      exact b70 o13 (z_I h10 o0 50) (21 : Int32) h10 _ _ _ hB (lv_sub hl [0] rfl) _ hv kb
  have b24 : ∀ (h : z_T) (H : Heap) (locs : List Loc) (ls : Array Slot), z_B G ad n0 s h H locs → lv_has ls 1 [(0, .ref (ad o0))] → ∀ w, fX12_behind_b24 o0 h = some w → w = (r0, h9) → W p l e rm_X12_behind s m args below meth c H locs 0 0 (MQ below (z_Qi G ad h9 n0 s.heap.size r0) args s 0 0 (z_A ad n0 s.heap.size)) (F0 m 24 ls []) := by
    intro h H locs ls hB hl w hv kb
    refine lv_aload_n hx hb dX12_behind_24 rfl (lv_at hl 0 rfl) ?_
    refine lv_aload_n hx hb dX12_behind_25 rfl (lv_at hl 0 rfl) ?_
    refine lv_ldc2 (v := (6385252 : Int64)) hx hb hown (hts _ qkX12_127) dX12_behind_26 ?_
    obtain ⟨g25, hv⟩ := y_gd_e hv
    obtain ⟨r21, c20, hv⟩ := y_bi_e hv
    refine z_thI hc hB (z_runV hc hB 11 (mm_X12_isWord hSK l ad o0 (6385252 : Int64) h c20) md_X12_isWord qmX12_203 g25 (by decide) rfl rfl rfl ⟨Nat.le_of_ble_eq_true rfl, Nat.le_of_ble_eq_true rfl⟩ rfl hl.1 rfl (Nat.le_of_ble_eq_true rfl) dX12_behind_29 ⟨Nat.le_of_ble_eq_true rfl, Nat.le_of_ble_eq_true rfl⟩) (fun H locs hB => ?_)
    refine lv_if_eq (tgt := 40) hx hb dX12_behind_32 (by decide) (fun c26 => ?_) (fun c26 => ?_)
    · replace hv := y_br_t hv c26
      refine lv_bipush (v := (22 : Int32)) hx hb dX12_behind_40 (by decide) ?_
      exact b42 o0 (22 : Int32) h _ _ _ hB (lv_sub hl [0] rfl) _ hv kb
    · replace hv := y_br_f hv c26
      refine lv_bipush (v := (21 : Int32)) hx hb dX12_behind_35 (by decide) ?_
      refine lv_goto (tgt := 42) hx hb dX12_behind_37 (by decide) ?_
      exact b42 o0 (21 : Int32) h _ _ _ hB (lv_sub hl [0] rfl) _ hv kb
  have b114 : ∀ (h : z_T) (H : Heap) (locs : List Loc) (ls : Array Slot), z_B G ad n0 s h H locs → lv_has ls 1 [(0, .ref (ad o0))] → ∀ w, fX12_behind_b114 o0 h = some w → w = (r0, h9) → W p l e rm_X12_behind s m args below meth c H locs 0 0 (MQ below (z_Qi G ad h9 n0 s.heap.size r0) args s 0 0 (z_A ad n0 s.heap.size)) (F0 m 114 ls []) := by
    intro h H locs ls hB hl w hv kb
    refine lv_aload_n hx hb dX12_behind_114 rfl (lv_at hl 0 rfl) ?_
    refine lv_iconst (v := (1 : Int32)) hx hb dX12_behind_115 (by decide) ?_
    obtain ⟨g33, hv⟩ := y_gd_e hv
    obtain ⟨⟨r28, h32⟩, c27, hv⟩ := y_bi_e hv
    refine z_thI hc hB (z_runV hc hB 11 (mm_X12_bad hSK l ad o0 (1 : Int32) h c27) md_X12_bad qmX12_182 g33 (by decide) rfl rfl rfl ⟨Nat.le_of_ble_eq_true rfl, Nat.le_of_ble_eq_true rfl⟩ rfl hl.1 rfl (Nat.le_of_ble_eq_true rfl) dX12_behind_116 ⟨Nat.le_of_ble_eq_true rfl, Nat.le_of_ble_eq_true rfl⟩) (fun H locs hB => ?_)
    obtain ⟨y34, hv⟩ := y_gd_e hv
    replace hv := Option.some.inj hv
    subst hv
    obtain ⟨e1, e2⟩ := y_pr kb
    rw [← e1, ← e2]
    exact z_zret hc hB hr (y_b_n y34) dX12_behind_119
  rw [← kt] at hv
  refine lv_aload_n hx hb dX12_behind_0 rfl (lv_at hl 0 rfl) ?_
  obtain ⟨g37, hv⟩ := y_gd_e hv
  obtain ⟨h36, c35, hv⟩ := y_bi_e hv
  refine z_thV hc hB (z_runV hc hB 11 (mm_X12_nots hSK l ad o0 h c35) md_X12_nots qmX12_447 g37 (by decide) rfl rfl rfl ⟨Nat.le_of_ble_eq_true rfl, Nat.le_of_ble_eq_true rfl⟩ rfl hl.1 rfl (Nat.le_of_ble_eq_true rfl) dX12_behind_1 ⟨Nat.le_of_ble_eq_true rfl, Nat.le_of_ble_eq_true rfl⟩) (fun H locs hB => ?_)
  refine lv_aload_n hx hb dX12_behind_4 rfl (lv_at hl 0 rfl) ?_
  refine lv_ldc2 (v := (6385252 : Int64)) hx hb hown (hts _ qkX12_127) dX12_behind_5 ?_
  obtain ⟨g43, hv⟩ := y_gd_e hv
  obtain ⟨r39, c38, hv⟩ := y_bi_e hv
  refine z_thI hc hB (z_runV hc hB 11 (mm_X12_isWord hSK l ad o0 (6385252 : Int64) h36 c38) md_X12_isWord qmX12_203 g43 (by decide) rfl rfl rfl ⟨Nat.le_of_ble_eq_true rfl, Nat.le_of_ble_eq_true rfl⟩ rfl hl.1 rfl (Nat.le_of_ble_eq_true rfl) dX12_behind_8 ⟨Nat.le_of_ble_eq_true rfl, Nat.le_of_ble_eq_true rfl⟩) (fun H locs hB => ?_)
  refine lv_if_ne (tgt := 24) hx hb dX12_behind_11 (by decide) (fun c44 => ?_) (fun c44 => ?_)
  · replace hv := y_br_f hv c44
    exact b24 h36 _ _ _ hB (lv_sub hl [0] rfl) _ hv kt
  · replace hv := y_br_t hv c44
    refine lv_aload_n hx hb dX12_behind_14 rfl (lv_at hl 0 rfl) ?_
    refine lv_ldc2 (v := (28530 : Int64)) hx hb hown (hts _ qkX12_125) dX12_behind_15 ?_
    obtain ⟨r46, c45, hv⟩ := y_bi_e hv
    refine z_thI hc hB (z_runV hc hB 11 (mm_X12_isWord hSK l ad o0 (28530 : Int64) h36 c45) md_X12_isWord qmX12_203 g43 (by decide) rfl rfl rfl ⟨Nat.le_of_ble_eq_true rfl, Nat.le_of_ble_eq_true rfl⟩ rfl hl.1 rfl (Nat.le_of_ble_eq_true rfl) dX12_behind_18 ⟨Nat.le_of_ble_eq_true rfl, Nat.le_of_ble_eq_true rfl⟩) (fun H locs hB => ?_)
    refine lv_if_eq (tgt := 92) hx hb dX12_behind_21 (by decide) (fun c50 => ?_) (fun c50 => ?_)
    · replace hv := y_br_t hv c50
      refine lv_aload_n hx hb dX12_behind_92 rfl (lv_at hl 0 rfl) ?_
      refine lv_bipush (v := (22 : Int32)) hx hb dX12_behind_93 (by decide) ?_
      obtain ⟨h52, c51, hv⟩ := y_bi_e hv
      refine z_thV hc hB (z_runV hc hB 11 (mm_X12_joins hSK l ad o0 (22 : Int32) h36 c51) md_X12_joins qmX12_450 g43 (by decide) rfl rfl rfl ⟨Nat.le_of_ble_eq_true rfl, Nat.le_of_ble_eq_true rfl⟩ rfl hl.1 rfl (Nat.le_of_ble_eq_true rfl) dX12_behind_95 ⟨Nat.le_of_ble_eq_true rfl, Nat.le_of_ble_eq_true rfl⟩) (fun H locs hB => ?_)
      refine lv_aload_n hx hb dX12_behind_98 rfl (lv_at hl 0 rfl) ?_
      refine lv_bipush (v := (41 : Int32)) hx hb dX12_behind_99 (by decide) ?_
      obtain ⟨g58, hv⟩ := y_gd_e hv
      obtain ⟨r54, c53, hv⟩ := y_bi_e hv
      refine z_thI hc hB (z_runV hc hB 11 (mm_X12_isSign hSK l ad o0 (41 : Int32) h52 c53) md_X12_isSign qmX12_179 g58 (by decide) rfl rfl rfl ⟨Nat.le_of_ble_eq_true rfl, Nat.le_of_ble_eq_true rfl⟩ rfl hl.1 rfl (Nat.le_of_ble_eq_true rfl) dX12_behind_101 ⟨Nat.le_of_ble_eq_true rfl, Nat.le_of_ble_eq_true rfl⟩) (fun H locs hB => ?_)
      refine lv_if_eq (tgt := 114) hx hb dX12_behind_104 (by decide) (fun c59 => ?_) (fun c59 => ?_)
      · replace hv := y_br_t hv c59
        exact b114 h52 _ _ _ hB (lv_sub hl [0] rfl) _ hv kt
      · replace hv := y_br_f hv c59
        refine lv_aload_n hx hb dX12_behind_107 rfl (lv_at hl 0 rfl) ?_
        refine z_getI hc hB 11 50 g58 (by decide) (by decide) rfl (z_l1 hc qfX12_428) dX12_behind_108 ?_
        refine lv_if_ne (tgt := 120) hx hb dX12_behind_111 (by decide) (fun c60 => ?_) (fun c60 => ?_)
        · replace hv := y_br_f hv c60
          refine lv_aload_n hx hb dX12_behind_120 rfl (lv_at hl 0 rfl) ?_
          refine lv_dup hx hb dX12_behind_121 rfl ?_
          refine z_getI hc hB 11 50 g58 (by decide) (by decide) rfl (z_l1 hc qfX12_428) dX12_behind_122 ?_
          refine lv_iconst (v := (1 : Int32)) hx hb dX12_behind_125 (by decide) ?_
          refine lv_isub hx hb dX12_behind_126 ?_
          obtain ⟨h61, eh61, hv⟩ := y_nm_e hv
          refine y_putI hc hB 11 50 eh61 g58 (z_l1 hc qfX12_428) dX12_behind_127 (by decide) (by decide) rfl rfl rfl rfl (fun H locs hB => ?_)
          refine lv_aload_n hx hb dX12_behind_130 rfl (lv_at hl 0 rfl) ?_
          refine lv_dup hx hb dX12_behind_131 rfl ?_
          refine z_getI hc hB 11 51 (by rw [eh61]; exact g58) (by decide) (by decide) rfl (z_l1 hc qfX12_435) dX12_behind_132 ?_
          refine lv_iconst (v := (1 : Int32)) hx hb dX12_behind_135 (by decide) ?_
          refine lv_isub hx hb dX12_behind_136 ?_
          obtain ⟨h62, eh62, hv⟩ := y_nm_e hv
          refine y_putI hc hB 11 51 eh62 (by rw [eh61]; exact g58) (z_l1 hc qfX12_435) dX12_behind_137 (by decide) (by decide) rfl rfl rfl rfl (fun H locs hB => ?_)
          refine lv_aload_n hx hb dX12_behind_140 rfl (lv_at hl 0 rfl) ?_
          obtain ⟨h64, c63, hv⟩ := y_bi_e hv
          refine z_thV hc hB (z_runV hc hB 11 (mm_X12_go hSK l ad o0 h62 c63) md_X12_go qmX12_185 (by rw [eh62, eh61]; exact g58) (by decide) rfl rfl rfl ⟨Nat.le_of_ble_eq_true rfl, Nat.le_of_ble_eq_true rfl⟩ rfl hl.1 rfl (Nat.le_of_ble_eq_true rfl) dX12_behind_141 ⟨Nat.le_of_ble_eq_true rfl, Nat.le_of_ble_eq_true rfl⟩) (fun H locs hB => ?_)
          refine lv_iconst (v := (1 : Int32)) hx hb dX12_behind_144 (by decide) ?_
          replace hv := Option.some.inj hv
          subst hv
          obtain ⟨e1, e2⟩ := y_pr kt
          rw [← e1, ← e2]
          exact z_zret hc hB hr rfl dX12_behind_145
        · replace hv := y_br_t hv c60
          exact b114 h52 _ _ _ hB (lv_sub hl [0] rfl) _ hv kt
    · replace hv := y_br_f hv c50
      exact b24 h36 _ _ _ hB (lv_sub hl [0] rfl) _ hv kt
