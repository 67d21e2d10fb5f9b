/-! the methods of the reference: the rows that decode, a function each, the walk (by gen3.py) -/
theorem qfX12_1 : Cond.fieldLink RX12 1 "DreamTestsModel" "thrown" "I" ∈ z_ws := List.mem_filter.mpr ⟨List.mem_append_right _ (List.mem_of_getElem? (i := 1300) (by decide +kernel)), rfl⟩
theorem dX12_thrown_0 : decode cX12_thrown 0 = .ok (.aload_n 0, 1) := by decide +kernel
theorem dX12_thrown_1 : decode cX12_thrown 1 = .ok (.getfield 1, 3) := by decide +kernel
theorem dX12_thrown_4 : decode cX12_thrown 4 = .ok (.ireturn, 1) := by decide +kernel
abbrev rm_X12_thrown : Room := { frames := 0, cells := 0, slots := 0, locals := 0 }
noncomputable def fX12_thrown (o0 : Nat) (h : z_T) : Option (Int32) :=
  y_gd (z_ok h o0 11) <|
  some (z_I h o0 0)
set_option maxHeartbeats 4000000 in
set_option maxRecDepth 100000 in
theorem mm_X12_thrown {G : z_Gt} {S : State → Prop} (hSK : z_SK S) (l : Launch) (ad : Nat → Nat) (o0 : Nat) (h : z_T) {r0 : Int32} (hv : fX12_thrown o0 h = some r0) : z_Mi G S l yX12_thrown cX12_thrown 1 (.int) rm_X12_thrown 0 0 [.ref (ad o0)] ad h h r0 := by
  refine z_ofW hSK (by decide) (Nat.le_of_ble_eq_true rfl) ?_
  intro p e s m args below meth c ls hc hr hnm hB hl
  have hx := hc.1.1
  have hb := hc.1.2.1
  have hown := hc.1.2.2.2.1
  have hts := hc.1.2.2.2.2
  replace hc : z_C G S ad (z_n h) p m c cX12_thrown 1 s args RX12 meth := hc
  replace hown : s.vm.findClass RX12 = some m.cls := hown
  replace hl : lv_has ls 1 [(0, .ref (ad o0))] := hl
  show W p l e rm_X12_thrown s m args below meth c s.heap [] 0 0 (MQ below (z_Qi G ad h (z_n h) s.heap.size r0) args s 0 0 (z_A ad (z_n h) s.heap.size)) (F0 m 0 ls [])
  obtain ⟨rs, kt⟩ : ∃ rs : Int32, rs = r0 := ⟨_, rfl⟩
  generalize hn0 : z_n h = n0 at hc hB ⊢
  rw [← kt] at hv
  refine lv_aload_n hx hb dX12_thrown_0 rfl (lv_at hl 0 rfl) ?_
  obtain ⟨g1, hv⟩ := y_gd_e hv
  refine z_getI hc hB 11 0 g1 (by decide) (by decide) rfl (z_l1 hc qfX12_1) dX12_thrown_1 ?_
  replace hv := Option.some.inj hv
  subst hv
  rw [← kt]
  exact z_iret hc hB hr dX12_thrown_4
theorem dX12_throwsIf_0 : decode cX12_throwsIf 0 = .ok (.aload_n 0, 1) := by decide +kernel
theorem dX12_throwsIf_1 : decode cX12_throwsIf 1 = .ok (.iload_n 1, 1) := by decide +kernel
theorem dX12_throwsIf_2 : decode cX12_throwsIf 2 = .ok (.ifCond .eq 7, 3) := by decide +kernel
theorem dX12_throwsIf_5 : decode cX12_throwsIf 5 = .ok (.iconst 1, 1) := by decide +kernel
theorem dX12_throwsIf_6 : decode cX12_throwsIf 6 = .ok (.goto 4, 3) := by decide +kernel
theorem dX12_throwsIf_9 : decode cX12_throwsIf 9 = .ok (.iconst 0, 1) := by decide +kernel
theorem dX12_throwsIf_10 : decode cX12_throwsIf 10 = .ok (.putfield 1, 3) := by decide +kernel
theorem dX12_throwsIf_13 : decode cX12_throwsIf 13 = .ok (.iload_n 1, 1) := by decide +kernel
theorem dX12_throwsIf_14 : decode cX12_throwsIf 14 = .ok (.ireturn, 1) := by decide +kernel
abbrev rm_X12_throwsIf : Room := { frames := 0, cells := 0, slots := 0, locals := 0 }
noncomputable def fX12_throwsIf_b10 (x1 : Int32) (s0 : Nat) (s1 : Int32) (h : z_T) : Option (Int32 × z_T) :=
  y_gd (z_ok h s0 11) <|
  y_nm (z_sI h s0 0 s1) fun h2 =>
  y_gd (y_b x1) <|
  some (x1, h2)
noncomputable def fX12_throwsIf (o0 : Nat) (x1 : Int32) (h : z_T) : Option (Int32 × z_T) :=
  y_br (x1 = 0)
    (fX12_throwsIf_b10 x1 o0 (0 : Int32) h)
    (fX12_throwsIf_b10 x1 o0 (1 : Int32) h)
set_option maxHeartbeats 4000000 in
set_option maxRecDepth 100000 in
theorem mm_X12_throwsIf {G : z_Gt} {S : State → Prop} (hSK : z_SK S) (l : Launch) (ad : Nat → Nat) (o0 : Nat) (x1 : Int32) (h : z_T) {r0 : Int32} {h9 : z_T} (hv : fX12_throwsIf o0 x1 h = some (r0, h9)) : z_Mi G S l yX12_throwsIf cX12_throwsIf 2 (.boolean) rm_X12_throwsIf 0 0 [.ref (ad o0), .int x1] ad h h9 r0 := by
  refine z_ofW hSK (by decide) (Nat.le_of_ble_eq_true rfl) ?_
  intro p e s m args below meth c ls hc hr hnm hB hl
  have hx := hc.1.1
  have hb := hc.1.2.1
  have hown := hc.1.2.2.2.1
  have hts := hc.1.2.2.2.2
  replace hc : z_C G S ad (z_n h) p m c cX12_throwsIf 2 s args RX12 meth := hc
  replace hown : s.vm.findClass RX12 = some m.cls := hown
  replace hl : lv_has ls 2 [(0, .ref (ad o0)), (1, .int x1)] := hl
  show W p l e rm_X12_throwsIf s m args below meth c s.heap [] 0 0 (MQ below (z_Qi G ad h9 (z_n h) s.heap.size r0) args s 0 0 (z_A ad (z_n h) s.heap.size)) (F0 m 0 ls [])
  obtain ⟨rs, kt⟩ : ∃ rs : Int32 × z_T, rs = (r0, h9) := ⟨_, rfl⟩
  generalize hn0 : z_n h = n0 at hc hB ⊢
  have b10 : ∀ (s0 : Nat) (s1 : Int32) (h : z_T) (H : Heap) (locs : List Loc) (ls : Array Slot), z_B G ad n0 s h H locs → lv_has ls 2 [(1, .int x1)] → ∀ w, fX12_throwsIf_b10 x1 s0 s1 h = some w → w = (r0, h9) → W p l e rm_X12_throwsIf s m args below meth c H locs 0 0 (MQ below (z_Qi G ad h9 n0 s.heap.size r0) args s 0 0 (z_A ad n0 s.heap.size)) (F0 m 10 ls [.int s1, .ref (ad s0)]) := by
    intro s0 s1 h H locs ls hB hl w hv kb
    obtain ⟨g1, hv⟩ := y_gd_e hv
    obtain ⟨h2, eh2, hv⟩ := y_nm_e hv
    refine y_putI hc hB 11 0 eh2 g1 (z_l1 hc qfX12_1) dX12_throwsIf_10 (by decide) (by decide) rfl rfl rfl rfl (fun H locs hB => ?_)
    refine lv_iload_n hx hb dX12_throwsIf_13 rfl (lv_at hl 0 rfl) ?_
    obtain ⟨y3, hv⟩ := y_gd_e hv
    replace hv := Option.some.inj hv
    subst hv
    obtain ⟨e1, e2⟩ := y_pr kb
    rw [← e1, ← e2]
    exact z_zret hc hB hr (y_b_n y3) dX12_throwsIf_14
  rw [← kt] at hv
  refine lv_aload_n hx hb dX12_throwsIf_0 rfl (lv_at hl 0 rfl) ?_
  refine lv_iload_n hx hb dX12_throwsIf_1 rfl (lv_at hl 1 rfl) ?_
  refine lv_if_eq (tgt := 9) hx hb dX12_throwsIf_2 (by decide) (fun c4 => ?_) (fun c4 => ?_)
  · replace hv := y_br_t hv c4
    refine lv_iconst (v := (0 : Int32)) hx hb dX12_throwsIf_9 (by decide) ?_
    exact b10 o0 (0 : Int32) h _ _ _ hB (lv_sub hl [1] rfl) _ hv kt
  · replace hv := y_br_f hv c4
    refine lv_iconst (v := (1 : Int32)) hx hb dX12_throwsIf_5 (by decide) ?_
    refine lv_goto (tgt := 10) hx hb dX12_throwsIf_6 (by decide) ?_
    exact b10 o0 (1 : Int32) h _ _ _ hB (lv_sub hl [1] rfl) _ hv kt
theorem qfX12_14 : Cond.fieldLink RX12 14 "DreamTestsModel" "tape" "[B" ∈ z_ws := List.mem_filter.mpr ⟨List.mem_append_right _ (List.mem_of_getElem? (i := 1301) (by decide +kernel)), rfl⟩
theorem qfX12_7 : Cond.fieldLink RX12 7 "DreamTestsModel" "length" "I" ∈ z_ws := List.mem_filter.mpr ⟨List.mem_append_right _ (List.mem_of_getElem? (i := 1302) (by decide +kernel)), rfl⟩
theorem dX12_four_0 : decode cX12_four 0 = .ok (.bipush 24, 2) := by decide +kernel
theorem dX12_four_2 : decode cX12_four 2 = .ok (.istore_n 2, 1) := by decide +kernel
theorem dX12_four_3 : decode cX12_four 3 = .ok (.iload_n 2, 1) := by decide +kernel
theorem dX12_four_4 : decode cX12_four 4 = .ok (.ifCond .lt 32, 3) := by decide +kernel
theorem dX12_four_7 : decode cX12_four 7 = .ok (.aload_n 0, 1) := by decide +kernel
theorem dX12_four_8 : decode cX12_four 8 = .ok (.getfield 14, 3) := by decide +kernel
theorem dX12_four_11 : decode cX12_four 11 = .ok (.aload_n 0, 1) := by decide +kernel
theorem dX12_four_12 : decode cX12_four 12 = .ok (.getfield 7, 3) := by decide +kernel
theorem dX12_four_15 : decode cX12_four 15 = .ok (.iload_n 1, 1) := by decide +kernel
theorem dX12_four_16 : decode cX12_four 16 = .ok (.iload_n 2, 1) := by decide +kernel
theorem dX12_four_17 : decode cX12_four 17 = .ok (.ishr, 1) := by decide +kernel
theorem dX12_four_18 : decode cX12_four 18 = .ok (.i2b, 1) := by decide +kernel
theorem dX12_four_19 : decode cX12_four 19 = .ok (.bastore, 1) := by decide +kernel
theorem dX12_four_20 : decode cX12_four 20 = .ok (.aload_n 0, 1) := by decide +kernel
theorem dX12_four_21 : decode cX12_four 21 = .ok (.dup, 1) := by decide +kernel
theorem dX12_four_22 : decode cX12_four 22 = .ok (.getfield 7, 3) := by decide +kernel
theorem dX12_four_25 : decode cX12_four 25 = .ok (.iconst 1, 1) := by decide +kernel
theorem dX12_four_26 : decode cX12_four 26 = .ok (.iadd, 1) := by decide +kernel
theorem dX12_four_27 : decode cX12_four 27 = .ok (.putfield 7, 3) := by decide +kernel
theorem dX12_four_30 : decode cX12_four 30 = .ok (.iinc 2 (-8), 3) := by decide +kernel
theorem dX12_four_33 : decode cX12_four 33 = .ok (.goto (-30), 3) := by decide +kernel
theorem dX12_four_36 : decode cX12_four 36 = .ok (.return_, 1) := by decide +kernel
abbrev rm_X12_four : Room := { frames := 0, cells := 0, slots := 0, locals := 0 }
noncomputable def fX12_four_b3_i (o0 : Nat) (x1 : Int32) (x2 : Int32) (h : z_T) : Option ((Int32 × z_T) ⊕ (z_T)) :=
  y_br (x2 < 0)
    (y_mp <|
    some h)
    (y_gd (z_ok h o0 11) <|
    y_bi (z_R h o0 1) fun o4 =>
    y_gd (z_ok h o4 12) <|
    y_gd (z_ix (z_I h o0 2) (z_N h o4)) <|
    y_nm (z_sI h o4 (z_I h o0 2).toNatClampNeg (((x1 >>> (x2 &&& 31))).toInt8.toInt32).toInt8.toInt32) fun h7 =>
    y_nm (z_sI h7 o0 2 ((z_I h7 o0 2) + (1 : Int32))) fun h8 =>
    y_nm (x2 + (-8)) fun v9 =>
    some (.inl (v9, h8)))
noncomputable def fX12_four_b3 (o0 : Nat) (x1 : Int32) (x2 : Int32) (h : z_T) : Option (z_T) := y_lp (fun q : Int32 × z_T => fX12_four_b3_i o0 x1 q.1 q.2) (x2, h)
noncomputable def fX12_four (o0 : Nat) (x1 : Int32) (h : z_T) : Option (z_T) :=
  fX12_four_b3 o0 x1 (24 : Int32) h
set_option maxHeartbeats 4000000 in
set_option maxRecDepth 100000 in
theorem mm_X12_four {G : z_Gt} {S : State → Prop} (hSK : z_SK S) (l : Launch) (ad : Nat → Nat) (o0 : Nat) (x1 : Int32) (h : z_T) {h9 : z_T} (hv : fX12_four o0 x1 h = some h9) : z_Mv G S l yX12_four cX12_four 3 rm_X12_four 0 0 [.ref (ad o0), .int x1] ad h h9 := by
  refine z_ofW hSK (by decide) (Nat.le_of_ble_eq_true rfl) ?_
  intro p e s m args below meth c ls hc hr hnm hB hl
  have hx := hc.1.1
  have hb := hc.1.2.1
  have hown := hc.1.2.2.2.1
  have hts := hc.1.2.2.2.2
  replace hc : z_C G S ad (z_n h) p m c cX12_four 3 s args RX12 meth := hc
  replace hown : s.vm.findClass RX12 = some m.cls := hown
  replace hl : lv_has ls 3 [(0, .ref (ad o0)), (1, .int x1)] := hl
  show W p l e rm_X12_four s m args below meth c s.heap [] 0 0 (MQ below (z_Qv G ad h9 (z_n h) s.heap.size) args s 0 0 (z_A ad (z_n h) s.heap.size)) (F0 m 0 ls [])
  obtain ⟨rs, kt⟩ : ∃ rs : z_T, rs = h9 := ⟨_, rfl⟩
  generalize hn0 : z_n h = n0 at hc hB ⊢
  have L3 : ∀ (nn3 : Nat) (x2 : Int32) (h : z_T) (H : Heap) (locs : List Loc) (ls : Array Slot), z_B G ad n0 s h H locs → lv_has ls 3 [(0, .ref (ad o0)), (1, .int x1), (2, .int x2)] → ∀ vv3, y_lpN (fun q : Int32 × z_T => fX12_four_b3_i o0 x1 q.1 q.2) nn3 (x2, h) = some vv3 → vv3 = h9 → W p l e rm_X12_four s m args below meth c H locs 0 0 (MQ below (z_Qv G ad h9 n0 s.heap.size) args s 0 0 (z_A ad n0 s.heap.size)) (F0 m 3 ls []) := by
    intro nn3
    induction nn3 with
    | zero => intro x2 h H locs ls hB hl vv3 hv kv3; exact absurd hv (fun q => y_lpN_0 q)
    | succ nn3 ih3 =>
      intro x2 h H locs ls hB hl vv3 hv kv3
      obtain ⟨w, hq, kw3⟩ := y_lpN_e hv
      clear hv
      have hv : fX12_four_b3_i o0 x1 x2 h = some w := hq
      clear hq
      refine lv_iload_n hx hb dX12_four_3 rfl (lv_at hl 2 rfl) ?_
      refine lv_if_lt (tgt := 36) hx hb dX12_four_4 (by decide) (fun c1 => ?_) (fun c1 => ?_)
      · replace hv := y_br_t hv c1
        obtain ⟨t2, hq, ew⟩ := y_mp_e hv
        clear hv; subst ew
        replace kw3 : t2 = _ := kw3
        subst kw3
        have hv := hq
        clear hq
        replace hv := Option.some.inj hv
        subst hv
        rw [← kv3]
        exact z_vret hc hB hr dX12_four_36
      · replace hv := y_br_f hv c1
        refine lv_aload_n hx hb dX12_four_7 rfl (lv_at hl 0 rfl) ?_
        obtain ⟨g3, hv⟩ := y_gd_e hv
        obtain ⟨o4, eo4, hv⟩ := y_bi_e hv
        refine z_getR hc hB 11 1 g3 eo4 (by decide) (by decide) rfl (z_l1 hc qfX12_14) dX12_four_8 ?_
        refine lv_aload_n hx hb dX12_four_11 rfl (lv_at hl 0 rfl) ?_
        refine z_getI hc hB 11 2 g3 (by decide) (by decide) rfl (z_l1 hc qfX12_7) dX12_four_12 ?_
        refine lv_iload_n hx hb dX12_four_15 rfl (lv_at hl 1 rfl) ?_
        refine lv_iload_n hx hb dX12_four_16 rfl (lv_at hl 2 rfl) ?_
        refine lv_ishr hx hb dX12_four_17 ?_
        refine lv_i2b hx hb dX12_four_18 rfl ?_
        obtain ⟨g5, hv⟩ := y_gd_e hv
        obtain ⟨i6, hv⟩ := y_gd_e hv
        obtain ⟨h7, eh7, hv⟩ := y_nm_e hv
        refine y_bast hc hB eh7 g5 i6 dX12_four_19 (fun H locs hB => ?_)
        refine lv_aload_n hx hb dX12_four_20 rfl (lv_at hl 0 rfl) ?_
        refine lv_dup hx hb dX12_four_21 rfl ?_
        refine z_getI hc hB 11 2 (by rw [eh7]; exact g3) (by decide) (by decide) rfl (z_l1 hc qfX12_7) dX12_four_22 ?_
        refine lv_iconst (v := (1 : Int32)) hx hb dX12_four_25 (by decide) ?_
        refine lv_iadd hx hb dX12_four_26 ?_
        obtain ⟨h8, eh8, hv⟩ := y_nm_e hv
        refine y_putI hc hB 11 2 eh8 (by rw [eh7]; exact g3) (z_l1 hc qfX12_7) dX12_four_27 (by decide) (by decide) rfl rfl rfl rfl (fun H locs hB => ?_)
        obtain ⟨v9, ev9, hv⟩ := y_nm_e hv
        refine lv_iinc (v := v9) (lv' := [(2, .int v9), (0, .ref (ad o0)), (1, .int x1)]) hx hb dX12_four_30 hl (k := 2) rfl (by rw [ev9]; rfl) (by decide) rfl (fun ls hl => ?_)
        refine lv_goto (tgt := 3) hx hb dX12_four_33 (by decide) ?_
        replace hv := Option.some.inj hv
        subst hv
        exact ih3 v9 h8 _ _ _ hB (lv_sub hl [1, 2, 0] rfl) _ kw3 kv3
  rw [← kt] at hv
  refine lv_bipush (v := (24 : Int32)) hx hb dX12_four_0 (by decide) ?_
  refine lv_istore_n (lv' := [(2, .int (24 : Int32)), (0, .ref (ad o0)), (1, .int x1)]) hx hb dX12_four_2 rfl hl (by decide) rfl (fun ls hl => ?_)
  obtain ⟨n, hv⟩ := y_lp_e hv
  exact L3 n (24 : Int32) h _ _ _ hB (lv_sub hl [1, 2, 0] rfl) _ hv kt
theorem qmX12_10 : Cond.methodLink RX12 10 yX12_four ∈ z_ws := List.mem_filter.mpr ⟨List.mem_append_right _ (List.mem_of_getElem? (i := 1260) (by decide +kernel)), rfl⟩
theorem qn_RX12 : Cond.initialized RX12 ∈ z_ws := List.mem_filter.mpr ⟨List.mem_append_right _ (List.mem_of_getElem? (i := 12) (by decide +kernel)), rfl⟩
theorem qc_X12_four : Cond.code yX12_four cX12_four 3 none ∈ z_ws := List.mem_filter.mpr ⟨List.mem_append_right _ (List.mem_of_getElem? (i := 1264) (by decide +kernel)), rfl⟩
theorem qi_X12_four : Cond.instanceMethod yX12_four ∈ z_ws := List.mem_filter.mpr ⟨List.mem_append_right _ (List.mem_of_getElem? (i := 1262) (by decide +kernel)), rfl⟩
theorem qs_X12_four : Cond.selects RX12 yX12_four yX12_four ∈ z_ws := List.mem_filter.mpr ⟨List.mem_append_left _ (List.mem_of_getElem? (i := 32) (by decide +kernel)), rfl⟩
theorem md_X12_four : z_mdV yX12_four cX12_four 3 none 1 := ⟨⟨qn_RX12, qc_X12_four, ⟨by decide +kernel, by decide +kernel, by decide +kernel⟩⟩, qi_X12_four, qs_X12_four⟩
theorem dX12_feed_0 : decode cX12_feed 0 = .ok (.aload_n 0, 1) := by decide +kernel
theorem dX12_feed_1 : decode cX12_feed 1 = .ok (.iconst 0, 1) := by decide +kernel
theorem dX12_feed_2 : decode cX12_feed 2 = .ok (.putfield 1, 3) := by decide +kernel
theorem dX12_feed_5 : decode cX12_feed 5 = .ok (.aload_n 0, 1) := by decide +kernel
theorem dX12_feed_6 : decode cX12_feed 6 = .ok (.getfield 7, 3) := by decide +kernel
theorem dX12_feed_9 : decode cX12_feed 9 = .ok (.bipush 20, 2) := by decide +kernel
theorem dX12_feed_11 : decode cX12_feed 11 = .ok (.iadd, 1) := by decide +kernel
theorem dX12_feed_12 : decode cX12_feed 12 = .ok (.sipush 940, 3) := by decide +kernel
theorem dX12_feed_15 : decode cX12_feed 15 = .ok (.if_icmp .le 5, 3) := by decide +kernel
theorem dX12_feed_18 : decode cX12_feed 18 = .ok (.iconst (-1), 1) := by decide +kernel
theorem dX12_feed_19 : decode cX12_feed 19 = .ok (.ireturn, 1) := by decide +kernel
theorem dX12_feed_20 : decode cX12_feed 20 = .ok (.aload_n 0, 1) := by decide +kernel
theorem dX12_feed_21 : decode cX12_feed 21 = .ok (.iload_n 1, 1) := by decide +kernel
theorem dX12_feed_22 : decode cX12_feed 22 = .ok (.invokevirtual 10, 3) := by decide +kernel
theorem dX12_feed_25 : decode cX12_feed 25 = .ok (.aload_n 0, 1) := by decide +kernel
theorem dX12_feed_26 : decode cX12_feed 26 = .ok (.iload_n 2, 1) := by decide +kernel
theorem dX12_feed_27 : decode cX12_feed 27 = .ok (.invokevirtual 10, 3) := by decide +kernel
theorem dX12_feed_30 : decode cX12_feed 30 = .ok (.aload_n 0, 1) := by decide +kernel
theorem dX12_feed_31 : decode cX12_feed 31 = .ok (.iload_n 3, 1) := by decide +kernel
theorem dX12_feed_32 : decode cX12_feed 32 = .ok (.invokevirtual 10, 3) := by decide +kernel
theorem dX12_feed_35 : decode cX12_feed 35 = .ok (.aload_n 0, 1) := by decide +kernel
theorem dX12_feed_36 : decode cX12_feed 36 = .ok (.iload 4, 2) := by decide +kernel
theorem dX12_feed_38 : decode cX12_feed 38 = .ok (.invokevirtual 10, 3) := by decide +kernel
theorem dX12_feed_41 : decode cX12_feed 41 = .ok (.aload_n 0, 1) := by decide +kernel
theorem dX12_feed_42 : decode cX12_feed 42 = .ok (.iload 5, 2) := by decide +kernel
theorem dX12_feed_44 : decode cX12_feed 44 = .ok (.invokevirtual 10, 3) := by decide +kernel
theorem dX12_feed_47 : decode cX12_feed 47 = .ok (.aload_n 0, 1) := by decide +kernel
theorem dX12_feed_48 : decode cX12_feed 48 = .ok (.getfield 7, 3) := by decide +kernel
theorem dX12_feed_51 : decode cX12_feed 51 = .ok (.ireturn, 1) := by decide +kernel
abbrev rm_X12_feed : Room := { frames := 1, cells := 0, slots := 0, locals := 22 }
noncomputable def fX12_feed (o0 : Nat) (x1 : Int32) (x2 : Int32) (x3 : Int32) (x4 : Int32) (x5 : Int32) (h : z_T) : Option (Int32 × z_T) :=
  y_gd (z_ok h o0 11) <|
  y_nm (z_sI h o0 0 (0 : Int32)) fun h2 =>
  y_br (((z_I h2 o0 2) + (20 : Int32)) ≤ (940 : Int32))
    (y_bi (fX12_four o0 x1 h2) fun h5 =>
    y_gd (z_ok h5 o0 11) <|
    y_bi (fX12_four o0 x2 h5) fun h7 =>
    y_gd (z_ok h7 o0 11) <|
    y_bi (fX12_four o0 x3 h7) fun h10 =>
    y_gd (z_ok h10 o0 11) <|
    y_bi (fX12_four o0 x4 h10) fun h13 =>
    y_gd (z_ok h13 o0 11) <|
    y_bi (fX12_four o0 x5 h13) fun h16 =>
    y_gd (z_ok h16 o0 11) <|
    some ((z_I h16 o0 2), h16))
    (some ((-1 : Int32), h2))
set_option maxHeartbeats 4000000 in
set_option maxRecDepth 100000 in
theorem mm_X12_feed {G : z_Gt} {S : State → Prop} (hSK : z_SK S) (l : Launch) (ad : Nat → Nat) (o0 : Nat) (x1 : Int32) (x2 : Int32) (x3 : Int32) (x4 : Int32) (x5 : Int32) (h : z_T) {r0 : Int32} {h9 : z_T} (hv : fX12_feed o0 x1 x2 x3 x4 x5 h = some (r0, h9)) : z_Mi G S l yX12_feed cX12_feed 6 (.int) rm_X12_feed 0 0 [.ref (ad o0), .int x1, .int x2, .int x3, .int x4, .int x5] ad h h9 r0 := by
  refine z_ofW hSK (by decide) (Nat.le_of_ble_eq_true rfl) ?_
  intro p e s m args below meth c ls hc hr hnm hB hl
  have hx := hc.1.1
  have hb := hc.1.2.1
  have hown := hc.1.2.2.2.1
  have hts := hc.1.2.2.2.2
  replace hc : z_C G S ad (z_n h) p m c cX12_feed 6 s args RX12 meth := hc
  replace hown : s.vm.findClass RX12 = some m.cls := hown
  replace hl : lv_has ls 6 [(0, .ref (ad o0)), (1, .int x1), (2, .int x2), (3, .int x3), (4, .int x4), (5, .int x5)] := hl
  show W p l e rm_X12_feed s m args below meth c s.heap [] 0 0 (MQ below (z_Qi G ad h9 (z_n h) s.heap.size r0) args s 0 0 (z_A ad (z_n h) s.heap.size)) (F0 m 0 ls [])
  obtain ⟨rs, kt⟩ : ∃ rs : Int32 × z_T, rs = (r0, h9) := ⟨_, rfl⟩
  generalize hn0 : z_n h = n0 at hc hB ⊢
  rw [← kt] at hv
  refine lv_aload_n hx hb dX12_feed_0 rfl (lv_at hl 0 rfl) ?_
  refine lv_iconst (v := (0 : Int32)) hx hb dX12_feed_1 (by decide) ?_
  obtain ⟨g1, hv⟩ := y_gd_e hv
  obtain ⟨h2, eh2, hv⟩ := y_nm_e hv
  refine y_putI hc hB 11 0 eh2 g1 (z_l1 hc qfX12_1) dX12_feed_2 (by decide) (by decide) rfl rfl rfl rfl (fun H locs hB => ?_)
  refine lv_aload_n hx hb dX12_feed_5 rfl (lv_at hl 0 rfl) ?_
  refine z_getI hc hB 11 2 (by rw [eh2]; exact g1) (by decide) (by decide) rfl (z_l1 hc qfX12_7) dX12_feed_6 ?_
  refine lv_bipush (v := (20 : Int32)) hx hb dX12_feed_9 (by decide) ?_
  refine lv_iadd hx hb dX12_feed_11 ?_
  refine lv_sipush (v := (940 : Int32)) hx hb dX12_feed_12 (by decide) ?_
  refine lv_icmp_le (tgt := 20) hx hb dX12_feed_15 (by decide) (fun c3 => ?_) (fun c3 => ?_)
  · replace hv := y_br_t hv c3
    refine lv_aload_n hx hb dX12_feed_20 rfl (lv_at hl 0 rfl) ?_
    refine lv_iload_n hx hb dX12_feed_21 rfl (lv_at hl 1 rfl) ?_
    obtain ⟨h5, c4, hv⟩ := y_bi_e hv
    refine z_thV hc hB (z_runV hc hB 11 (mm_X12_four hSK l ad o0 x1 h2 c4) md_X12_four qmX12_10 (by rw [eh2]; exact g1) (by decide) rfl rfl rfl ⟨Nat.le_of_ble_eq_true rfl, Nat.le_of_ble_eq_true rfl⟩ rfl hl.1 rfl (Nat.le_of_ble_eq_true rfl) dX12_feed_22 ⟨Nat.le_of_ble_eq_true rfl, Nat.le_of_ble_eq_true rfl⟩) (fun H locs hB => ?_)
    refine lv_aload_n hx hb dX12_feed_25 rfl (lv_at hl 0 rfl) ?_
    refine lv_iload_n hx hb dX12_feed_26 rfl (lv_at hl 2 rfl) ?_
    obtain ⟨g8, hv⟩ := y_gd_e hv
    obtain ⟨h7, c6, hv⟩ := y_bi_e hv
    refine z_thV hc hB (z_runV hc hB 11 (mm_X12_four hSK l ad o0 x2 h5 c6) md_X12_four qmX12_10 g8 (by decide) rfl rfl rfl ⟨Nat.le_of_ble_eq_true rfl, Nat.le_of_ble_eq_true rfl⟩ rfl hl.1 rfl (Nat.le_of_ble_eq_true rfl) dX12_feed_27 ⟨Nat.le_of_ble_eq_true rfl, Nat.le_of_ble_eq_true rfl⟩) (fun H locs hB => ?_)
    refine lv_aload_n hx hb dX12_feed_30 rfl (lv_at hl 0 rfl) ?_
    refine lv_iload_n hx hb dX12_feed_31 rfl (lv_at hl 3 rfl) ?_
    obtain ⟨g11, hv⟩ := y_gd_e hv
    obtain ⟨h10, c9, hv⟩ := y_bi_e hv
    refine z_thV hc hB (z_runV hc hB 11 (mm_X12_four hSK l ad o0 x3 h7 c9) md_X12_four qmX12_10 g11 (by decide) rfl rfl rfl ⟨Nat.le_of_ble_eq_true rfl, Nat.le_of_ble_eq_true rfl⟩ rfl hl.1 rfl (Nat.le_of_ble_eq_true rfl) dX12_feed_32 ⟨Nat.le_of_ble_eq_true rfl, Nat.le_of_ble_eq_true rfl⟩) (fun H locs hB => ?_)
    refine lv_aload_n hx hb dX12_feed_35 rfl (lv_at hl 0 rfl) ?_
    refine lv_iload hx hb dX12_feed_36 (lv_at hl 4 rfl) ?_
    obtain ⟨g14, hv⟩ := y_gd_e hv
    obtain ⟨h13, c12, hv⟩ := y_bi_e hv
    refine z_thV hc hB (z_runV hc hB 11 (mm_X12_four hSK l ad o0 x4 h10 c12) md_X12_four qmX12_10 g14 (by decide) rfl rfl rfl ⟨Nat.le_of_ble_eq_true rfl, Nat.le_of_ble_eq_true rfl⟩ rfl hl.1 rfl (Nat.le_of_ble_eq_true rfl) dX12_feed_38 ⟨Nat.le_of_ble_eq_true rfl, Nat.le_of_ble_eq_true rfl⟩) (fun H locs hB => ?_)
    refine lv_aload_n hx hb dX12_feed_41 rfl (lv_at hl 0 rfl) ?_
    refine lv_iload hx hb dX12_feed_42 (lv_at hl 5 rfl) ?_
    obtain ⟨g17, hv⟩ := y_gd_e hv
    obtain ⟨h16, c15, hv⟩ := y_bi_e hv
    refine z_thV hc hB (z_runV hc hB 11 (mm_X12_four hSK l ad o0 x5 h13 c15) md_X12_four qmX12_10 g17 (by decide) rfl rfl rfl ⟨Nat.le_of_ble_eq_true rfl, Nat.le_of_ble_eq_true rfl⟩ rfl hl.1 rfl (Nat.le_of_ble_eq_true rfl) dX12_feed_44 ⟨Nat.le_of_ble_eq_true rfl, Nat.le_of_ble_eq_true rfl⟩) (fun H locs hB => ?_)
    refine lv_aload_n hx hb dX12_feed_47 rfl (lv_at hl 0 rfl) ?_
    obtain ⟨g18, hv⟩ := y_gd_e hv
    refine z_getI hc hB 11 2 g18 (by decide) (by decide) rfl (z_l1 hc qfX12_7) dX12_feed_48 ?_
    replace hv := Option.some.inj hv
    subst hv
    obtain ⟨e1, e2⟩ := y_pr kt
    rw [← e1, ← e2]
    exact z_iret hc hB hr dX12_feed_51
  · replace hv := y_br_f hv c3
    refine lv_iconst (v := (-1 : Int32)) hx hb dX12_feed_18 (by decide) ?_
    replace hv := Option.some.inj hv
    subst hv
    obtain ⟨e1, e2⟩ := y_pr kt
    rw [← e1, ← e2]
    exact z_iret hc hB hr dX12_feed_19
theorem dX12_end_0 : decode cX12_end 0 = .ok (.aload_n 0, 1) := by decide +kernel
theorem dX12_end_1 : decode cX12_end 1 = .ok (.iconst 0, 1) := by decide +kernel
theorem dX12_end_2 : decode cX12_end 2 = .ok (.putfield 1, 3) := by decide +kernel
theorem dX12_end_5 : decode cX12_end 5 = .ok (.iload_n 1, 1) := by decide +kernel
theorem dX12_end_6 : decode cX12_end 6 = .ok (.ifCond .lt 11, 3) := by decide +kernel
theorem dX12_end_9 : decode cX12_end 9 = .ok (.iload_n 1, 1) := by decide +kernel
theorem dX12_end_10 : decode cX12_end 10 = .ok (.aload_n 0, 1) := by decide +kernel
theorem dX12_end_11 : decode cX12_end 11 = .ok (.getfield 7, 3) := by decide +kernel
theorem dX12_end_14 : decode cX12_end 14 = .ok (.if_icmp .le 5, 3) := by decide +kernel
theorem dX12_end_17 : decode cX12_end 17 = .ok (.iconst 0, 1) := by decide +kernel
theorem dX12_end_18 : decode cX12_end 18 = .ok (.ireturn, 1) := by decide +kernel
theorem dX12_end_19 : decode cX12_end 19 = .ok (.aload_n 0, 1) := by decide +kernel
theorem dX12_end_20 : decode cX12_end 20 = .ok (.iload_n 1, 1) := by decide +kernel
theorem dX12_end_21 : decode cX12_end 21 = .ok (.putfield 7, 3) := by decide +kernel
theorem dX12_end_24 : decode cX12_end 24 = .ok (.iconst 1, 1) := by decide +kernel
theorem dX12_end_25 : decode cX12_end 25 = .ok (.ireturn, 1) := by decide +kernel
abbrev rm_X12_end : Room := { frames := 0, cells := 0, slots := 0, locals := 0 }
noncomputable def fX12_end (o0 : Nat) (x1 : Int32) (h : z_T) : Option (Int32 × z_T) :=
  y_gd (z_ok h o0 11) <|
  y_nm (z_sI h o0 0 (0 : Int32)) fun h2 =>
  y_br (x1 < 0)
    (some ((0 : Int32), h2))
    (y_br (x1 ≤ (z_I h2 o0 2))
      (y_nm (z_sI h2 o0 2 x1) fun h5 =>
      some ((1 : Int32), h5))
      (some ((0 : Int32), h2)))
set_option maxHeartbeats 4000000 in
set_option maxRecDepth 100000 in
theorem mm_X12_end {G : z_Gt} {S : State → Prop} (hSK : z_SK S) (l : Launch) (ad : Nat → Nat) (o0 : Nat) (x1 : Int32) (h : z_T) {r0 : Int32} {h9 : z_T} (hv : fX12_end o0 x1 h = some (r0, h9)) : z_Mi G S l yX12_end cX12_end 2 (.boolean) rm_X12_end 0 0 [.ref (ad o0), .int x1] ad h h9 r0 := by
  refine z_ofW hSK (by decide) (Nat.le_of_ble_eq_true rfl) ?_
  intro p e s m args below meth c ls hc hr hnm hB hl
  have hx := hc.1.1
  have hb := hc.1.2.1
  have hown := hc.1.2.2.2.1
  have hts := hc.1.2.2.2.2
  replace hc : z_C G S ad (z_n h) p m c cX12_end 2 s args RX12 meth := hc
  replace hown : s.vm.findClass RX12 = some m.cls := hown
  replace hl : lv_has ls 2 [(0, .ref (ad o0)), (1, .int x1)] := hl
  show W p l e rm_X12_end s m args below meth c s.heap [] 0 0 (MQ below (z_Qi G ad h9 (z_n h) s.heap.size r0) args s 0 0 (z_A ad (z_n h) s.heap.size)) (F0 m 0 ls [])
  obtain ⟨rs, kt⟩ : ∃ rs : Int32 × z_T, rs = (r0, h9) := ⟨_, rfl⟩
  generalize hn0 : z_n h = n0 at hc hB ⊢
  rw [← kt] at hv
  refine lv_aload_n hx hb dX12_end_0 rfl (lv_at hl 0 rfl) ?_
  refine lv_iconst (v := (0 : Int32)) hx hb dX12_end_1 (by decide) ?_
  obtain ⟨g1, hv⟩ := y_gd_e hv
  obtain ⟨h2, eh2, hv⟩ := y_nm_e hv
  refine y_putI hc hB 11 0 eh2 g1 (z_l1 hc qfX12_1) dX12_end_2 (by decide) (by decide) rfl rfl rfl rfl (fun H locs hB => ?_)
  refine lv_iload_n hx hb dX12_end_5 rfl (lv_at hl 1 rfl) ?_
  refine lv_if_lt (tgt := 17) hx hb dX12_end_6 (by decide) (fun c3 => ?_) (fun c3 => ?_)
  · replace hv := y_br_t hv c3
    refine lv_iconst (v := (0 : Int32)) hx hb dX12_end_17 (by decide) ?_
    replace hv := Option.some.inj hv
    subst hv
    obtain ⟨e1, e2⟩ := y_pr kt
    rw [← e1, ← e2]
    exact z_zret hc hB hr rfl dX12_end_18
  · replace hv := y_br_f hv c3
    refine lv_iload_n hx hb dX12_end_9 rfl (lv_at hl 1 rfl) ?_
    refine lv_aload_n hx hb dX12_end_10 rfl (lv_at hl 0 rfl) ?_
    refine z_getI hc hB 11 2 (by rw [eh2]; exact g1) (by decide) (by decide) rfl (z_l1 hc qfX12_7) dX12_end_11 ?_
    refine lv_icmp_le (tgt := 19) hx hb dX12_end_14 (by decide) (fun c4 => ?_) (fun c4 => ?_)
    · replace hv := y_br_t hv c4
      refine lv_aload_n hx hb dX12_end_19 rfl (lv_at hl 0 rfl) ?_
      refine lv_iload_n hx hb dX12_end_20 rfl (lv_at hl 1 rfl) ?_
      obtain ⟨h5, eh5, hv⟩ := y_nm_e hv
      refine y_putI hc hB 11 2 eh5 (by rw [eh2]; exact g1) (z_l1 hc qfX12_7) dX12_end_21 (by decide) (by decide) rfl rfl rfl rfl (fun H locs hB => ?_)
      refine lv_iconst (v := (1 : Int32)) hx hb dX12_end_24 (by decide) ?_
      replace hv := Option.some.inj hv
      subst hv
      obtain ⟨e1, e2⟩ := y_pr kt
      rw [← e1, ← e2]
      exact z_zret hc hB hr rfl dX12_end_25
    · replace hv := y_br_f hv c4
      refine lv_iconst (v := (0 : Int32)) hx hb dX12_end_17 (by decide) ?_
      replace hv := Option.some.inj hv
      subst hv
      obtain ⟨e1, e2⟩ := y_pr kt
      rw [← e1, ← e2]
      exact z_zret hc hB hr rfl dX12_end_18
theorem qfX12_18 : Cond.fieldLink RX12 18 "DreamTestsModel" "size" "I" ∈ z_ws := List.mem_filter.mpr ⟨List.mem_append_right _ (List.mem_of_getElem? (i := 1303) (by decide +kernel)), rfl⟩
theorem qfX12_21 : Cond.fieldLink RX12 21 "DreamTestsModel" "p" "I" ∈ z_ws := List.mem_filter.mpr ⟨List.mem_append_right _ (List.mem_of_getElem? (i := 1304) (by decide +kernel)), rfl⟩
theorem qfX12_24 : Cond.fieldLink RX12 24 "DreamTestsModel" "limit" "I" ∈ z_ws := List.mem_filter.mpr ⟨List.mem_append_right _ (List.mem_of_getElem? (i := 1305) (by decide +kernel)), rfl⟩
theorem dX12_taken_0 : decode cX12_taken 0 = .ok (.aload_n 0, 1) := by decide +kernel
theorem dX12_taken_1 : decode cX12_taken 1 = .ok (.aload_n 0, 1) := by decide +kernel
theorem dX12_taken_2 : decode cX12_taken 2 = .ok (.getfield 7, 3) := by decide +kernel
theorem dX12_taken_5 : decode cX12_taken 5 = .ok (.putfield 18, 3) := by decide +kernel
theorem dX12_taken_8 : decode cX12_taken 8 = .ok (.aload_n 0, 1) := by decide +kernel
theorem dX12_taken_9 : decode cX12_taken 9 = .ok (.iconst 0, 1) := by decide +kernel
theorem dX12_taken_10 : decode cX12_taken 10 = .ok (.putfield 7, 3) := by decide +kernel
theorem dX12_taken_13 : decode cX12_taken 13 = .ok (.aload_n 0, 1) := by decide +kernel
theorem dX12_taken_14 : decode cX12_taken 14 = .ok (.iconst 0, 1) := by decide +kernel
theorem dX12_taken_15 : decode cX12_taken 15 = .ok (.putfield 21, 3) := by decide +kernel
theorem dX12_taken_18 : decode cX12_taken 18 = .ok (.aload_n 0, 1) := by decide +kernel
theorem dX12_taken_19 : decode cX12_taken 19 = .ok (.iload_n 1, 1) := by decide +kernel
theorem dX12_taken_20 : decode cX12_taken 20 = .ok (.putfield 24, 3) := by decide +kernel
theorem dX12_taken_23 : decode cX12_taken 23 = .ok (.return_, 1) := by decide +kernel
abbrev rm_X12_taken : Room := { frames := 0, cells := 0, slots := 0, locals := 0 }
noncomputable def fX12_taken (o0 : Nat) (x1 : Int32) (h : z_T) : Option (z_T) :=
  y_gd (z_ok h o0 11) <|
  y_nm (z_sI h o0 3 (z_I h o0 2)) fun h2 =>
  y_nm (z_sI h2 o0 2 (0 : Int32)) fun h3 =>
  y_nm (z_sI h3 o0 4 (0 : Int32)) fun h4 =>
  y_nm (z_sI h4 o0 5 x1) fun h5 =>
  some h5
set_option maxHeartbeats 4000000 in
set_option maxRecDepth 100000 in
theorem mm_X12_taken {G : z_Gt} {S : State → Prop} (hSK : z_SK S) (l : Launch) (ad : Nat → Nat) (o0 : Nat) (x1 : Int32) (h : z_T) {h9 : z_T} (hv : fX12_taken o0 x1 h = some h9) : z_Mv G S l yX12_taken cX12_taken 2 rm_X12_taken 0 0 [.ref (ad o0), .int x1] ad h h9 := by
  refine z_ofW hSK (by decide) (Nat.le_of_ble_eq_true rfl) ?_
  intro p e s m args below meth c ls hc hr hnm hB hl
  have hx := hc.1.1
  have hb := hc.1.2.1
  have hown := hc.1.2.2.2.1
  have hts := hc.1.2.2.2.2
  replace hc : z_C G S ad (z_n h) p m c cX12_taken 2 s args RX12 meth := hc
  replace hown : s.vm.findClass RX12 = some m.cls := hown
  replace hl : lv_has ls 2 [(0, .ref (ad o0)), (1, .int x1)] := hl
  show W p l e rm_X12_taken s m args below meth c s.heap [] 0 0 (MQ below (z_Qv G ad h9 (z_n h) s.heap.size) args s 0 0 (z_A ad (z_n h) s.heap.size)) (F0 m 0 ls [])
  obtain ⟨rs, kt⟩ : ∃ rs : z_T, rs = h9 := ⟨_, rfl⟩
  generalize hn0 : z_n h = n0 at hc hB ⊢
  rw [← kt] at hv
  refine lv_aload_n hx hb dX12_taken_0 rfl (lv_at hl 0 rfl) ?_
  refine lv_aload_n hx hb dX12_taken_1 rfl (lv_at hl 0 rfl) ?_
  obtain ⟨g1, hv⟩ := y_gd_e hv
  refine z_getI hc hB 11 2 g1 (by decide) (by decide) rfl (z_l1 hc qfX12_7) dX12_taken_2 ?_
  obtain ⟨h2, eh2, hv⟩ := y_nm_e hv
  refine y_putI hc hB 11 3 eh2 g1 (z_l1 hc qfX12_18) dX12_taken_5 (by decide) (by decide) rfl rfl rfl rfl (fun H locs hB => ?_)
  refine lv_aload_n hx hb dX12_taken_8 rfl (lv_at hl 0 rfl) ?_
  refine lv_iconst (v := (0 : Int32)) hx hb dX12_taken_9 (by decide) ?_
  obtain ⟨h3, eh3, hv⟩ := y_nm_e hv
  refine y_putI hc hB 11 2 eh3 (by rw [eh2]; exact g1) (z_l1 hc qfX12_7) dX12_taken_10 (by decide) (by decide) rfl rfl rfl rfl (fun H locs hB => ?_)
  refine lv_aload_n hx hb dX12_taken_13 rfl (lv_at hl 0 rfl) ?_
  refine lv_iconst (v := (0 : Int32)) hx hb dX12_taken_14 (by decide) ?_
  obtain ⟨h4, eh4, hv⟩ := y_nm_e hv
  refine y_putI hc hB 11 4 eh4 (by rw [eh3, eh2]; exact g1) (z_l1 hc qfX12_21) dX12_taken_15 (by decide) (by decide) rfl rfl rfl rfl (fun H locs hB => ?_)
  refine lv_aload_n hx hb dX12_taken_18 rfl (lv_at hl 0 rfl) ?_
  refine lv_iload_n hx hb dX12_taken_19 rfl (lv_at hl 1 rfl) ?_
  obtain ⟨h5, eh5, hv⟩ := y_nm_e hv
  refine y_putI hc hB 11 5 eh5 (by rw [eh4, eh3, eh2]; exact g1) (z_l1 hc qfX12_24) dX12_taken_20 (by decide) (by decide) rfl rfl rfl rfl (fun H locs hB => ?_)
  replace hv := Option.some.inj hv
  subst hv
  rw [← kt]
  exact z_vret hc hB hr dX12_taken_23
theorem dX12_isIn_0 : decode cX12_isIn 0 = .ok (.iload_n 0, 1) := by decide +kernel
theorem dX12_isIn_1 : decode cX12_isIn 1 = .ok (.iload_n 1, 1) := by decide +kernel
theorem dX12_isIn_2 : decode cX12_isIn 2 = .ok (.if_icmp .lt 12, 3) := by decide +kernel
theorem dX12_isIn_5 : decode cX12_isIn 5 = .ok (.iload_n 0, 1) := by decide +kernel
theorem dX12_isIn_6 : decode cX12_isIn 6 = .ok (.iload_n 2, 1) := by decide +kernel
theorem dX12_isIn_7 : decode cX12_isIn 7 = .ok (.if_icmp .gt 7, 3) := by decide +kernel
theorem dX12_isIn_10 : decode cX12_isIn 10 = .ok (.iconst 1, 1) := by decide +kernel
theorem dX12_isIn_11 : decode cX12_isIn 11 = .ok (.goto 4, 3) := by decide +kernel
theorem dX12_isIn_14 : decode cX12_isIn 14 = .ok (.iconst 0, 1) := by decide +kernel
theorem dX12_isIn_15 : decode cX12_isIn 15 = .ok (.ireturn, 1) := by decide +kernel
abbrev rm_X12_isIn : Room := { frames := 0, cells := 0, slots := 0, locals := 0 }
noncomputable def fX12_isIn_b14  : Option (Int32) :=
  some (0 : Int32)
noncomputable def fX12_isIn (x0 : Int32) (x1 : Int32) (x2 : Int32) : Option (Int32) :=
  y_br (x0 < x1)
    (fX12_isIn_b14)
    (y_br (x2 < x0)
      (fX12_isIn_b14)
      (some (1 : Int32)))
set_option maxHeartbeats 4000000 in
set_option maxRecDepth 100000 in
theorem mm_X12_isIn {G : z_Gt} {S : State → Prop} (hSK : z_SK S) (l : Launch) (ad : Nat → Nat) (x0 : Int32) (x1 : Int32) (x2 : Int32) (h : z_T) {r0 : Int32} (hv : fX12_isIn x0 x1 x2 = some r0) : z_Mi G S l yX12_isIn cX12_isIn 3 (.boolean) rm_X12_isIn 0 0 [.int x0, .int x1, .int x2] ad h h r0 := by
  refine z_ofW hSK (by decide) (Nat.le_of_ble_eq_true rfl) ?_
  intro p e s m args below meth c ls hc hr hnm hB hl
  have hx := hc.1.1
  have hb := hc.1.2.1
  have hown := hc.1.2.2.2.1
  have hts := hc.1.2.2.2.2
  replace hc : z_C G S ad (z_n h) p m c cX12_isIn 3 s args RX12 meth := hc
  replace hown : s.vm.findClass RX12 = some m.cls := hown
  replace hl : lv_has ls 3 [(0, .int x0), (1, .int x1), (2, .int x2)] := hl
  show W p l e rm_X12_isIn s m args below meth c s.heap [] 0 0 (MQ below (z_Qi G ad h (z_n h) s.heap.size r0) args s 0 0 (z_A ad (z_n h) s.heap.size)) (F0 m 0 ls [])
  obtain ⟨rs, kt⟩ : ∃ rs : Int32, rs = r0 := ⟨_, rfl⟩
  generalize hn0 : z_n h = n0 at hc hB ⊢
  have b14 : ∀ (H : Heap) (locs : List Loc) (ls : Array Slot), z_B G ad n0 s h H locs → lv_has ls 3 [] → ∀ w, fX12_isIn_b14 = some w → w = r0 → W p l e rm_X12_isIn s m args below meth c H locs 0 0 (MQ below (z_Qi G ad h n0 s.heap.size r0) args s 0 0 (z_A ad n0 s.heap.size)) (F0 m 14 ls []) := by
    intro H locs ls hB hl w hv kb
    refine lv_iconst (v := (0 : Int32)) hx hb dX12_isIn_14 (by decide) ?_
    replace hv := Option.some.inj hv
    subst hv
    rw [← kb]
    exact z_zret hc hB hr rfl dX12_isIn_15
  rw [← kt] at hv
  refine lv_iload_n hx hb dX12_isIn_0 rfl (lv_at hl 0 rfl) ?_
  refine lv_iload_n hx hb dX12_isIn_1 rfl (lv_at hl 1 rfl) ?_
  refine lv_icmp_lt (tgt := 14) hx hb dX12_isIn_2 (by decide) (fun c1 => ?_) (fun c1 => ?_)
  · replace hv := y_br_t hv c1
    exact b14 _ _ _ hB (lv_sub hl [] rfl) _ hv kt
  · replace hv := y_br_f hv c1
    refine lv_iload_n hx hb dX12_isIn_5 rfl (lv_at hl 0 rfl) ?_
    refine lv_iload_n hx hb dX12_isIn_6 rfl (lv_at hl 2 rfl) ?_
    refine lv_icmp_gt (tgt := 14) hx hb dX12_isIn_7 (by decide) (fun c2 => ?_) (fun c2 => ?_)
    · replace hv := y_br_t hv c2
      exact b14 _ _ _ hB (lv_sub hl [] rfl) _ hv kt
    · replace hv := y_br_f hv c2
      refine lv_iconst (v := (1 : Int32)) hx hb dX12_isIn_10 (by decide) ?_
      refine lv_goto (tgt := 15) hx hb dX12_isIn_11 (by decide) ?_
      replace hv := Option.some.inj hv
      subst hv
      rw [← kt]
      exact z_zret hc hB hr rfl dX12_isIn_15
theorem dX12_bitOf_0 : decode cX12_bitOf 0 = .ok (.iload_n 0, 1) := by decide +kernel
theorem dX12_bitOf_1 : decode cX12_bitOf 1 = .ok (.iload_n 1, 1) := by decide +kernel
theorem dX12_bitOf_2 : decode cX12_bitOf 2 = .ok (.ishr, 1) := by decide +kernel
theorem dX12_bitOf_3 : decode cX12_bitOf 3 = .ok (.iconst 1, 1) := by decide +kernel
theorem dX12_bitOf_4 : decode cX12_bitOf 4 = .ok (.iand, 1) := by decide +kernel
theorem dX12_bitOf_5 : decode cX12_bitOf 5 = .ok (.iconst 1, 1) := by decide +kernel
theorem dX12_bitOf_6 : decode cX12_bitOf 6 = .ok (.if_icmp .ne 7, 3) := by decide +kernel
theorem dX12_bitOf_9 : decode cX12_bitOf 9 = .ok (.iconst 1, 1) := by decide +kernel
theorem dX12_bitOf_10 : decode cX12_bitOf 10 = .ok (.goto 4, 3) := by decide +kernel
theorem dX12_bitOf_13 : decode cX12_bitOf 13 = .ok (.iconst 0, 1) := by decide +kernel
theorem dX12_bitOf_14 : decode cX12_bitOf 14 = .ok (.ireturn, 1) := by decide +kernel
abbrev rm_X12_bitOf : Room := { frames := 0, cells := 0, slots := 0, locals := 0 }
noncomputable def fX12_bitOf (x0 : Int32) (x1 : Int32) : Option (Int32) :=
  y_br (((x0 >>> (x1 &&& 31)) &&& (1 : Int32)) = (1 : Int32))
    (some (1 : Int32))
    (some (0 : Int32))
set_option maxHeartbeats 4000000 in
set_option maxRecDepth 100000 in
theorem mm_X12_bitOf {G : z_Gt} {S : State → Prop} (hSK : z_SK S) (l : Launch) (ad : Nat → Nat) (x0 : Int32) (x1 : Int32) (h : z_T) {r0 : Int32} (hv : fX12_bitOf x0 x1 = some r0) : z_Mi G S l yX12_bitOf cX12_bitOf 2 (.boolean) rm_X12_bitOf 0 0 [.int x0, .int x1] ad h h r0 := by
  refine z_ofW hSK (by decide) (Nat.le_of_ble_eq_true rfl) ?_
  intro p e s m args below meth c ls hc hr hnm hB hl
  have hx := hc.1.1
  have hb := hc.1.2.1
  have hown := hc.1.2.2.2.1
  have hts := hc.1.2.2.2.2
  replace hc : z_C G S ad (z_n h) p m c cX12_bitOf 2 s args RX12 meth := hc
  replace hown : s.vm.findClass RX12 = some m.cls := hown
  replace hl : lv_has ls 2 [(0, .int x0), (1, .int x1)] := hl
  show W p l e rm_X12_bitOf s m args below meth c s.heap [] 0 0 (MQ below (z_Qi G ad h (z_n h) s.heap.size r0) args s 0 0 (z_A ad (z_n h) s.heap.size)) (F0 m 0 ls [])
  obtain ⟨rs, kt⟩ : ∃ rs : Int32, rs = r0 := ⟨_, rfl⟩
  generalize hn0 : z_n h = n0 at hc hB ⊢
  rw [← kt] at hv
  refine lv_iload_n hx hb dX12_bitOf_0 rfl (lv_at hl 0 rfl) ?_
  refine lv_iload_n hx hb dX12_bitOf_1 rfl (lv_at hl 1 rfl) ?_
  refine lv_ishr hx hb dX12_bitOf_2 ?_
  refine lv_iconst (v := (1 : Int32)) hx hb dX12_bitOf_3 (by decide) ?_
  refine lv_iand hx hb dX12_bitOf_4 ?_
  refine lv_iconst (v := (1 : Int32)) hx hb dX12_bitOf_5 (by decide) ?_
  refine lv_icmp_ne (tgt := 13) hx hb dX12_bitOf_6 (by decide) (fun c1 => ?_) (fun c1 => ?_)
  · replace hv := y_br_f hv c1
    refine lv_iconst (v := (0 : Int32)) hx hb dX12_bitOf_13 (by decide) ?_
    replace hv := Option.some.inj hv
    subst hv
    rw [← kt]
    exact z_zret hc hB hr rfl dX12_bitOf_14
  · replace hv := y_br_t hv c1
    refine lv_iconst (v := (1 : Int32)) hx hb dX12_bitOf_9 (by decide) ?_
    refine lv_goto (tgt := 14) hx hb dX12_bitOf_10 (by decide) ?_
    replace hv := Option.some.inj hv
    subst hv
    rw [← kt]
    exact z_zret hc hB hr rfl dX12_bitOf_14
theorem dX12_bits_0 : decode cX12_bits 0 = .ok (.iconst 0, 1) := by decide +kernel
theorem dX12_bits_1 : decode cX12_bits 1 = .ok (.istore_n 1, 1) := by decide +kernel
theorem dX12_bits_2 : decode cX12_bits 2 = .ok (.iload_n 0, 1) := by decide +kernel
theorem dX12_bits_3 : decode cX12_bits 3 = .ok (.istore_n 2, 1) := by decide +kernel
theorem dX12_bits_4 : decode cX12_bits 4 = .ok (.iload_n 2, 1) := by decide +kernel
theorem dX12_bits_5 : decode cX12_bits 5 = .ok (.ifCond .eq 15, 3) := by decide +kernel
theorem dX12_bits_8 : decode cX12_bits 8 = .ok (.iinc 1 1, 3) := by decide +kernel
theorem dX12_bits_11 : decode cX12_bits 11 = .ok (.iload_n 2, 1) := by decide +kernel
theorem dX12_bits_12 : decode cX12_bits 12 = .ok (.iload_n 2, 1) := by decide +kernel
theorem dX12_bits_13 : decode cX12_bits 13 = .ok (.iconst 1, 1) := by decide +kernel
theorem dX12_bits_14 : decode cX12_bits 14 = .ok (.isub, 1) := by decide +kernel
theorem dX12_bits_15 : decode cX12_bits 15 = .ok (.iand, 1) := by decide +kernel
theorem dX12_bits_16 : decode cX12_bits 16 = .ok (.istore_n 2, 1) := by decide +kernel
theorem dX12_bits_17 : decode cX12_bits 17 = .ok (.goto (-13), 3) := by decide +kernel
theorem dX12_bits_20 : decode cX12_bits 20 = .ok (.iload_n 1, 1) := by decide +kernel
theorem dX12_bits_21 : decode cX12_bits 21 = .ok (.ireturn, 1) := by decide +kernel
abbrev rm_X12_bits : Room := { frames := 0, cells := 0, slots := 0, locals := 0 }
noncomputable def fX12_bits_b4_i  (x1 : Int32) (x2 : Int32) : Option ((Int32 × Int32) ⊕ (Int32)) :=
  y_br (x2 = 0)
    (y_mp <|
    some x1)
    (y_nm (x1 + 1) fun v3 =>
    y_nm ((x2 &&& (x2 - (1 : Int32)))) fun v4 =>
    some (.inl (v3, v4)))
noncomputable def fX12_bits_b4 (x1 : Int32) (x2 : Int32) : Option (Int32) := y_lp (fun q : Int32 × Int32 => fX12_bits_b4_i  q.1 q.2) (x1, x2)
noncomputable def fX12_bits (x0 : Int32) : Option (Int32) :=
  fX12_bits_b4 (0 : Int32) x0
set_option maxHeartbeats 4000000 in
set_option maxRecDepth 100000 in
theorem mm_X12_bits {G : z_Gt} {S : State → Prop} (hSK : z_SK S) (l : Launch) (ad : Nat → Nat) (x0 : Int32) (h : z_T) {r0 : Int32} (hv : fX12_bits x0 = some r0) : z_Mi G S l yX12_bits cX12_bits 3 (.int) rm_X12_bits 0 0 [.int x0] ad h h r0 := by
  refine z_ofW hSK (by decide) (Nat.le_of_ble_eq_true rfl) ?_
  intro p e s m args below meth c ls hc hr hnm hB hl
  have hx := hc.1.1
  have hb := hc.1.2.1
  have hown := hc.1.2.2.2.1
  have hts := hc.1.2.2.2.2
  replace hc : z_C G S ad (z_n h) p m c cX12_bits 3 s args RX12 meth := hc
  replace hown : s.vm.findClass RX12 = some m.cls := hown
  replace hl : lv_has ls 3 [(0, .int x0)] := hl
  show W p l e rm_X12_bits s m args below meth c s.heap [] 0 0 (MQ below (z_Qi G ad h (z_n h) s.heap.size r0) args s 0 0 (z_A ad (z_n h) s.heap.size)) (F0 m 0 ls [])
  obtain ⟨rs, kt⟩ : ∃ rs : Int32, rs = r0 := ⟨_, rfl⟩
  generalize hn0 : z_n h = n0 at hc hB ⊢
  have L4 : ∀ (nn4 : Nat) (x1 : Int32) (x2 : Int32) (H : Heap) (locs : List Loc) (ls : Array Slot), z_B G ad n0 s h H locs → lv_has ls 3 [(1, .int x1), (2, .int x2)] → ∀ vv4, y_lpN (fun q : Int32 × Int32 => fX12_bits_b4_i  q.1 q.2) nn4 (x1, x2) = some vv4 → vv4 = r0 → W p l e rm_X12_bits s m args below meth c H locs 0 0 (MQ below (z_Qi G ad h n0 s.heap.size r0) args s 0 0 (z_A ad n0 s.heap.size)) (F0 m 4 ls []) := by
    intro nn4
    induction nn4 with
    | zero => intro x1 x2 H locs ls hB hl vv4 hv kv4; exact absurd hv (fun q => y_lpN_0 q)
    | succ nn4 ih4 =>
      intro x1 x2 H locs ls hB hl vv4 hv kv4
      obtain ⟨w, hq, kw4⟩ := y_lpN_e hv
      clear hv
      have hv : fX12_bits_b4_i  x1 x2 = some w := hq
      clear hq
      refine lv_iload_n hx hb dX12_bits_4 rfl (lv_at hl 1 rfl) ?_
      refine lv_if_eq (tgt := 20) hx hb dX12_bits_5 (by decide) (fun c1 => ?_) (fun c1 => ?_)
      · replace hv := y_br_t hv c1
        obtain ⟨t2, hq, ew⟩ := y_mp_e hv
        clear hv; subst ew
        replace kw4 : t2 = _ := kw4
        subst kw4
        have hv := hq
        clear hq
        refine lv_iload_n hx hb dX12_bits_20 rfl (lv_at hl 0 rfl) ?_
        replace hv := Option.some.inj hv
        subst hv
        rw [← kv4]
        exact z_iret hc hB hr dX12_bits_21
      · replace hv := y_br_f hv c1
        obtain ⟨v3, ev3, hv⟩ := y_nm_e hv
        refine lv_iinc (v := v3) (lv' := [(1, .int v3), (2, .int x2)]) hx hb dX12_bits_8 hl (k := 0) rfl (by rw [ev3]; rfl) (by decide) rfl (fun ls hl => ?_)
        refine lv_iload_n hx hb dX12_bits_11 rfl (lv_at hl 1 rfl) ?_
        refine lv_iload_n hx hb dX12_bits_12 rfl (lv_at hl 1 rfl) ?_
        refine lv_iconst (v := (1 : Int32)) hx hb dX12_bits_13 (by decide) ?_
        refine lv_isub hx hb dX12_bits_14 ?_
        refine lv_iand hx hb dX12_bits_15 ?_
        obtain ⟨v4, ev4, hv⟩ := y_nm_e hv
        rw [← ev4]
        refine lv_istore_n (lv' := [(2, .int v4), (1, .int v3)]) hx hb dX12_bits_16 rfl hl (by decide) rfl (fun ls hl => ?_)
        refine lv_goto (tgt := 4) hx hb dX12_bits_17 (by decide) ?_
        replace hv := Option.some.inj hv
        subst hv
        exact ih4 v3 v4 _ _ _ hB (lv_sub hl [1, 0] rfl) _ kw4 kv4
  rw [← kt] at hv
  refine lv_iconst (v := (0 : Int32)) hx hb dX12_bits_0 (by decide) ?_
  refine lv_istore_n (lv' := [(1, .int (0 : Int32)), (0, .int x0)]) hx hb dX12_bits_1 rfl hl (by decide) rfl (fun ls hl => ?_)
  refine lv_iload_n hx hb dX12_bits_2 rfl (lv_at hl 1 rfl) ?_
  refine lv_istore_n (lv' := [(2, .int x0), (1, .int (0 : Int32)), (0, .int x0)]) hx hb dX12_bits_3 rfl hl (by decide) rfl (fun ls hl => ?_)
  obtain ⟨n, hv⟩ := y_lp_e hv
  exact L4 n (0 : Int32) x0 _ _ _ hB (lv_sub hl [1, 0] rfl) _ hv kt
theorem dX12_lesser_0 : decode cX12_lesser 0 = .ok (.lload_n 0, 1) := by decide +kernel
theorem dX12_lesser_1 : decode cX12_lesser 1 = .ok (.lload_n 2, 1) := by decide +kernel
theorem dX12_lesser_2 : decode cX12_lesser 2 = .ok (.lcmp, 1) := by decide +kernel
theorem dX12_lesser_3 : decode cX12_lesser 3 = .ok (.ifCond .ge 7, 3) := by decide +kernel
theorem dX12_lesser_6 : decode cX12_lesser 6 = .ok (.lload_n 0, 1) := by decide +kernel
theorem dX12_lesser_7 : decode cX12_lesser 7 = .ok (.goto 4, 3) := by decide +kernel
theorem dX12_lesser_10 : decode cX12_lesser 10 = .ok (.lload_n 2, 1) := by decide +kernel
theorem dX12_lesser_11 : decode cX12_lesser 11 = .ok (.lreturn, 1) := by decide +kernel
abbrev rm_X12_lesser : Room := { frames := 0, cells := 0, slots := 0, locals := 0 }
noncomputable def fX12_lesser (l0 : Int64) (l2 : Int64) : Option (Int64) :=
  y_br (0 ≤ (lg_cmp l0 l2))
    (some l2)
    (some l0)
set_option maxHeartbeats 4000000 in
set_option maxRecDepth 100000 in
theorem mm_X12_lesser {G : z_Gt} {S : State → Prop} (hSK : z_SK S) (l : Launch) (ad : Nat → Nat) (l0 : Int64) (l2 : Int64) (h : z_T) {r0 : Int64} (hv : fX12_lesser l0 l2 = some r0) : z_Ml G S l yX12_lesser cX12_lesser 4 (.long) rm_X12_lesser 0 0 [.long l0, .long l2] ad h h r0 := by
  refine z_ofW hSK (by decide) (Nat.le_of_ble_eq_true rfl) ?_
  intro p e s m args below meth c ls hc hr hnm hB hl
  have hx := hc.1.1
  have hb := hc.1.2.1
  have hown := hc.1.2.2.2.1
  have hts := hc.1.2.2.2.2
  replace hc : z_C G S ad (z_n h) p m c cX12_lesser 4 s args RX12 meth := hc
  replace hown : s.vm.findClass RX12 = some m.cls := hown
  replace hl : lv_has ls 4 [(0, .long l0), (2, .long l2)] := hl
  show W p l e rm_X12_lesser s m args below meth c s.heap [] 0 0 (MQ below (z_Ql G ad h (z_n h) s.heap.size r0) args s 0 0 (z_A ad (z_n h) s.heap.size)) (F0 m 0 ls [])
  obtain ⟨rs, kt⟩ : ∃ rs : Int64, rs = r0 := ⟨_, rfl⟩
  generalize hn0 : z_n h = n0 at hc hB ⊢
  rw [← kt] at hv
  refine lv_lload_n hx hb dX12_lesser_0 rfl (lv_at hl 0 rfl) ?_
  refine lv_lload_n hx hb dX12_lesser_1 rfl (lv_at hl 1 rfl) ?_
  refine W.lcmp hx hb dX12_lesser_2 ?_
  refine lv_if_ge (tgt := 10) hx hb dX12_lesser_3 (by decide) (fun c1 => ?_) (fun c1 => ?_)
  · replace hv := y_br_t hv c1
    refine lv_lload_n hx hb dX12_lesser_10 rfl (lv_at hl 1 rfl) ?_
    replace hv := Option.some.inj hv
    subst hv
    rw [← kt]
    exact z_lret hc hB hr dX12_lesser_11
  · replace hv := y_br_f hv c1
    refine lv_lload_n hx hb dX12_lesser_6 rfl (lv_at hl 0 rfl) ?_
    refine lv_goto (tgt := 11) hx hb dX12_lesser_7 (by decide) ?_
    replace hv := Option.some.inj hv
    subst hv
    rw [← kt]
    exact z_lret hc hB hr dX12_lesser_11
theorem qfX12_37 : Cond.fieldLink RX12 37 "DreamTestsModel" "h" "[I" ∈ z_ws := List.mem_filter.mpr ⟨List.mem_append_right _ (List.mem_of_getElem? (i := 1307) (by decide +kernel)), rfl⟩
theorem dX12_clears_0 : decode cX12_clears 0 = .ok (.iconst 0, 1) := by decide +kernel
theorem dX12_clears_1 : decode cX12_clears 1 = .ok (.istore_n 1, 1) := by decide +kernel
theorem dX12_clears_2 : decode cX12_clears 2 = .ok (.iload_n 1, 1) := by decide +kernel
theorem dX12_clears_3 : decode cX12_clears 3 = .ok (.bipush 36, 2) := by decide +kernel
theorem dX12_clears_5 : decode cX12_clears 5 = .ok (.if_icmp .ge 16, 3) := by decide +kernel
theorem dX12_clears_8 : decode cX12_clears 8 = .ok (.aload_n 0, 1) := by decide +kernel
theorem dX12_clears_9 : decode cX12_clears 9 = .ok (.getfield 37, 3) := by decide +kernel
theorem dX12_clears_12 : decode cX12_clears 12 = .ok (.iload_n 1, 1) := by decide +kernel
theorem dX12_clears_13 : decode cX12_clears 13 = .ok (.iconst 0, 1) := by decide +kernel
theorem dX12_clears_14 : decode cX12_clears 14 = .ok (.iastore, 1) := by decide +kernel
theorem dX12_clears_15 : decode cX12_clears 15 = .ok (.iinc 1 1, 3) := by decide +kernel
theorem dX12_clears_18 : decode cX12_clears 18 = .ok (.goto (-16), 3) := by decide +kernel
theorem dX12_clears_21 : decode cX12_clears 21 = .ok (.aload_n 0, 1) := by decide +kernel
theorem dX12_clears_22 : decode cX12_clears 22 = .ok (.getfield 37, 3) := by decide +kernel
theorem dX12_clears_25 : decode cX12_clears 25 = .ok (.iconst 2, 1) := by decide +kernel
theorem dX12_clears_26 : decode cX12_clears 26 = .ok (.iconst 1, 1) := by decide +kernel
theorem dX12_clears_27 : decode cX12_clears 27 = .ok (.iastore, 1) := by decide +kernel
theorem dX12_clears_28 : decode cX12_clears 28 = .ok (.aload_n 0, 1) := by decide +kernel
theorem dX12_clears_29 : decode cX12_clears 29 = .ok (.getfield 37, 3) := by decide +kernel
theorem dX12_clears_32 : decode cX12_clears 32 = .ok (.iconst 4, 1) := by decide +kernel
theorem dX12_clears_33 : decode cX12_clears 33 = .ok (.bipush 8, 2) := by decide +kernel
theorem dX12_clears_35 : decode cX12_clears 35 = .ok (.iastore, 1) := by decide +kernel
theorem dX12_clears_36 : decode cX12_clears 36 = .ok (.aload_n 0, 1) := by decide +kernel
theorem dX12_clears_37 : decode cX12_clears 37 = .ok (.getfield 37, 3) := by decide +kernel
theorem dX12_clears_40 : decode cX12_clears 40 = .ok (.iconst 5, 1) := by decide +kernel
theorem dX12_clears_41 : decode cX12_clears 41 = .ok (.iconst 1, 1) := by decide +kernel
theorem dX12_clears_42 : decode cX12_clears 42 = .ok (.iastore, 1) := by decide +kernel
theorem dX12_clears_43 : decode cX12_clears 43 = .ok (.aload_n 0, 1) := by decide +kernel
theorem dX12_clears_44 : decode cX12_clears 44 = .ok (.getfield 37, 3) := by decide +kernel
theorem dX12_clears_47 : decode cX12_clears 47 = .ok (.bipush 6, 2) := by decide +kernel
theorem dX12_clears_49 : decode cX12_clears 49 = .ok (.iconst 1, 1) := by decide +kernel
theorem dX12_clears_50 : decode cX12_clears 50 = .ok (.iastore, 1) := by decide +kernel
theorem dX12_clears_51 : decode cX12_clears 51 = .ok (.return_, 1) := by decide +kernel
abbrev rm_X12_clears : Room := { frames := 0, cells := 0, slots := 0, locals := 0 }
noncomputable def fX12_clears_b2_i (o0 : Nat) (x1 : Int32) (h : z_T) : Option ((Int32 × z_T) ⊕ (z_T)) :=
  y_br ((36 : Int32) ≤ x1)
    (y_mp <|
    y_gd (z_ok h o0 11) <|
    y_bi (z_R h o0 7) fun o4 =>
    y_gd (z_ok h o4 13) <|
    y_gd (z_ix (2 : Int32) (z_N h o4)) <|
    y_nm (z_sI h o4 (2 : Int32).toNatClampNeg (1 : Int32)) fun h7 =>
    y_gd (z_ix (4 : Int32) (z_N h7 o4)) <|
    y_nm (z_sI h7 o4 (4 : Int32).toNatClampNeg (8 : Int32)) fun h9 =>
    y_gd (z_ix (5 : Int32) (z_N h9 o4)) <|
    y_nm (z_sI h9 o4 (5 : Int32).toNatClampNeg (1 : Int32)) fun h11 =>
    y_gd (z_ix (6 : Int32) (z_N h11 o4)) <|
    y_nm (z_sI h11 o4 (6 : Int32).toNatClampNeg (1 : Int32)) fun h13 =>
    some h13)
    (y_gd (z_ok h o0 11) <|
    y_bi (z_R h o0 7) fun o15 =>
    y_gd (z_ok h o15 13) <|
    y_gd (z_ix x1 (z_N h o15)) <|
    y_nm (z_sI h o15 x1.toNatClampNeg (0 : Int32)) fun h18 =>
    y_nm (x1 + 1) fun v19 =>
    some (.inl (v19, h18)))
noncomputable def fX12_clears_b2 (o0 : Nat) (x1 : Int32) (h : z_T) : Option (z_T) := y_lp (fun q : Int32 × z_T => fX12_clears_b2_i o0 q.1 q.2) (x1, h)
noncomputable def fX12_clears (o0 : Nat) (h : z_T) : Option (z_T) :=
  fX12_clears_b2 o0 (0 : Int32) h
set_option maxHeartbeats 4000000 in
set_option maxRecDepth 100000 in
theorem mm_X12_clears {G : z_Gt} {S : State → Prop} (hSK : z_SK S) (l : Launch) (ad : Nat → Nat) (o0 : Nat) (h : z_T) {h9 : z_T} (hv : fX12_clears o0 h = some h9) : z_Mv G S l yX12_clears cX12_clears 2 rm_X12_clears 0 0 [.ref (ad o0)] ad h h9 := by
  refine z_ofW hSK (by decide) (Nat.le_of_ble_eq_true rfl) ?_
  intro p e s m args below meth c ls hc hr hnm hB hl
  have hx := hc.1.1
  have hb := hc.1.2.1
  have hown := hc.1.2.2.2.1
  have hts := hc.1.2.2.2.2
  replace hc : z_C G S ad (z_n h) p m c cX12_clears 2 s args RX12 meth := hc
  replace hown : s.vm.findClass RX12 = some m.cls := hown
  replace hl : lv_has ls 2 [(0, .ref (ad o0))] := hl
  show W p l e rm_X12_clears s m args below meth c s.heap [] 0 0 (MQ below (z_Qv G ad h9 (z_n h) s.heap.size) args s 0 0 (z_A ad (z_n h) s.heap.size)) (F0 m 0 ls [])
  obtain ⟨rs, kt⟩ : ∃ rs : z_T, rs = h9 := ⟨_, rfl⟩
  generalize hn0 : z_n h = n0 at hc hB ⊢
  have L2 : ∀ (nn2 : Nat) (x1 : Int32) (h : z_T) (H : Heap) (locs : List Loc) (ls : Array Slot), z_B G ad n0 s h H locs → lv_has ls 2 [(0, .ref (ad o0)), (1, .int x1)] → ∀ vv2, y_lpN (fun q : Int32 × z_T => fX12_clears_b2_i o0 q.1 q.2) nn2 (x1, h) = some vv2 → vv2 = h9 → W p l e rm_X12_clears s m args below meth c H locs 0 0 (MQ below (z_Qv G ad h9 n0 s.heap.size) args s 0 0 (z_A ad n0 s.heap.size)) (F0 m 2 ls []) := by
    intro nn2
    induction nn2 with
    | zero => intro x1 h H locs ls hB hl vv2 hv kv2; exact absurd hv (fun q => y_lpN_0 q)
    | succ nn2 ih2 =>
      intro x1 h H locs ls hB hl vv2 hv kv2
      obtain ⟨w, hq, kw2⟩ := y_lpN_e hv
      clear hv
      have hv : fX12_clears_b2_i o0 x1 h = some w := hq
      clear hq
      refine lv_iload_n hx hb dX12_clears_2 rfl (lv_at hl 1 rfl) ?_
      refine lv_bipush (v := (36 : Int32)) hx hb dX12_clears_3 (by decide) ?_
      refine lv_icmp_ge (tgt := 21) hx hb dX12_clears_5 (by decide) (fun c1 => ?_) (fun c1 => ?_)
      · replace hv := y_br_t hv c1
        obtain ⟨t2, hq, ew⟩ := y_mp_e hv
        clear hv; subst ew
        replace kw2 : t2 = _ := kw2
        subst kw2
        have hv := hq
        clear hq
        refine lv_aload_n hx hb dX12_clears_21 rfl (lv_at hl 0 rfl) ?_
        obtain ⟨g3, hv⟩ := y_gd_e hv
        obtain ⟨o4, eo4, hv⟩ := y_bi_e hv
        refine z_getR hc hB 11 7 g3 eo4 (by decide) (by decide) rfl (z_l1 hc qfX12_37) dX12_clears_22 ?_
        refine lv_iconst (v := (2 : Int32)) hx hb dX12_clears_25 (by decide) ?_
        refine lv_iconst (v := (1 : Int32)) hx hb dX12_clears_26 (by decide) ?_
        obtain ⟨g5, hv⟩ := y_gd_e hv
        obtain ⟨i6, hv⟩ := y_gd_e hv
        obtain ⟨h7, eh7, hv⟩ := y_nm_e hv
        refine y_iast hc hB eh7 g5 i6 dX12_clears_27 (fun H locs hB => ?_)
        refine lv_aload_n hx hb dX12_clears_28 rfl (lv_at hl 0 rfl) ?_
        refine z_getR hc hB 11 7 (by rw [eh7]; exact g3) (by rw [eh7]; exact eo4) (by decide) (by decide) rfl (z_l1 hc qfX12_37) dX12_clears_29 ?_
        refine lv_iconst (v := (4 : Int32)) hx hb dX12_clears_32 (by decide) ?_
        refine lv_bipush (v := (8 : Int32)) hx hb dX12_clears_33 (by decide) ?_
        obtain ⟨i8, hv⟩ := y_gd_e hv
        obtain ⟨h9, eh9, hv⟩ := y_nm_e hv
        refine y_iast hc hB eh9 (by rw [eh7]; exact g5) i8 dX12_clears_35 (fun H locs hB => ?_)
        refine lv_aload_n hx hb dX12_clears_36 rfl (lv_at hl 0 rfl) ?_
        refine z_getR hc hB 11 7 (by rw [eh9, eh7]; exact g3) (by rw [eh9, eh7]; exact eo4) (by decide) (by decide) rfl (z_l1 hc qfX12_37) dX12_clears_37 ?_
        refine lv_iconst (v := (5 : Int32)) hx hb dX12_clears_40 (by decide) ?_
        refine lv_iconst (v := (1 : Int32)) hx hb dX12_clears_41 (by decide) ?_
        obtain ⟨i10, hv⟩ := y_gd_e hv
        obtain ⟨h11, eh11, hv⟩ := y_nm_e hv
        refine y_iast hc hB eh11 (by rw [eh9, eh7]; exact g5) i10 dX12_clears_42 (fun H locs hB => ?_)
        refine lv_aload_n hx hb dX12_clears_43 rfl (lv_at hl 0 rfl) ?_
        refine z_getR hc hB 11 7 (by rw [eh11, eh9, eh7]; exact g3) (by rw [eh11, eh9, eh7]; exact eo4) (by decide) (by decide) rfl (z_l1 hc qfX12_37) dX12_clears_44 ?_
        refine lv_bipush (v := (6 : Int32)) hx hb dX12_clears_47 (by decide) ?_
        refine lv_iconst (v := (1 : Int32)) hx hb dX12_clears_49 (by decide) ?_
        obtain ⟨i12, hv⟩ := y_gd_e hv
        obtain ⟨h13, eh13, hv⟩ := y_nm_e hv
        refine y_iast hc hB eh13 (by rw [eh11, eh9, eh7]; exact g5) i12 dX12_clears_50 (fun H locs hB => ?_)
        replace hv := Option.some.inj hv
        subst hv
        rw [← kv2]
        exact z_vret hc hB hr dX12_clears_51
      · replace hv := y_br_f hv c1
        refine lv_aload_n hx hb dX12_clears_8 rfl (lv_at hl 0 rfl) ?_
        obtain ⟨g14, hv⟩ := y_gd_e hv
        obtain ⟨o15, eo15, hv⟩ := y_bi_e hv
        refine z_getR hc hB 11 7 g14 eo15 (by decide) (by decide) rfl (z_l1 hc qfX12_37) dX12_clears_9 ?_
        refine lv_iload_n hx hb dX12_clears_12 rfl (lv_at hl 1 rfl) ?_
        refine lv_iconst (v := (0 : Int32)) hx hb dX12_clears_13 (by decide) ?_
        obtain ⟨g16, hv⟩ := y_gd_e hv
        obtain ⟨i17, hv⟩ := y_gd_e hv
        obtain ⟨h18, eh18, hv⟩ := y_nm_e hv
        refine y_iast hc hB eh18 g16 i17 dX12_clears_14 (fun H locs hB => ?_)
        obtain ⟨v19, ev19, hv⟩ := y_nm_e hv
        refine lv_iinc (v := v19) (lv' := [(1, .int v19), (0, .ref (ad o0))]) hx hb dX12_clears_15 hl (k := 1) rfl (by rw [ev19]; rfl) (by decide) rfl (fun ls hl => ?_)
        refine lv_goto (tgt := 2) hx hb dX12_clears_18 (by decide) ?_
        replace hv := Option.some.inj hv
        subst hv
        exact ih2 v19 h18 _ _ _ hB (lv_sub hl [1, 0] rfl) _ kw2 kv2
  rw [← kt] at hv
  refine lv_iconst (v := (0 : Int32)) hx hb dX12_clears_0 (by decide) ?_
  refine lv_istore_n (lv' := [(1, .int (0 : Int32)), (0, .ref (ad o0))]) hx hb dX12_clears_1 rfl hl (by decide) rfl (fun ls hl => ?_)
  obtain ⟨n, hv⟩ := y_lp_e hv
  exact L2 n (0 : Int32) h _ _ _ hB (lv_sub hl [1, 0] rfl) _ hv kt
theorem dX12_peek_0 : decode cX12_peek 0 = .ok (.aload_n 0, 1) := by decide +kernel
theorem dX12_peek_1 : decode cX12_peek 1 = .ok (.getfield 21, 3) := by decide +kernel
theorem dX12_peek_4 : decode cX12_peek 4 = .ok (.aload_n 0, 1) := by decide +kernel
theorem dX12_peek_5 : decode cX12_peek 5 = .ok (.getfield 18, 3) := by decide +kernel
theorem dX12_peek_8 : decode cX12_peek 8 = .ok (.if_icmp .ge 19, 3) := by decide +kernel
theorem dX12_peek_11 : decode cX12_peek 11 = .ok (.aload_n 0, 1) := by decide +kernel
theorem dX12_peek_12 : decode cX12_peek 12 = .ok (.getfield 14, 3) := by decide +kernel
theorem dX12_peek_15 : decode cX12_peek 15 = .ok (.aload_n 0, 1) := by decide +kernel
theorem dX12_peek_16 : decode cX12_peek 16 = .ok (.getfield 21, 3) := by decide +kernel
theorem dX12_peek_19 : decode cX12_peek 19 = .ok (.baload, 1) := by decide +kernel
theorem dX12_peek_20 : decode cX12_peek 20 = .ok (.sipush 255, 3) := by decide +kernel
theorem dX12_peek_23 : decode cX12_peek 23 = .ok (.iand, 1) := by decide +kernel
theorem dX12_peek_24 : decode cX12_peek 24 = .ok (.goto 4, 3) := by decide +kernel
theorem dX12_peek_27 : decode cX12_peek 27 = .ok (.iconst (-1), 1) := by decide +kernel
theorem dX12_peek_28 : decode cX12_peek 28 = .ok (.ireturn, 1) := by decide +kernel
abbrev rm_X12_peek : Room := { frames := 0, cells := 0, slots := 0, locals := 0 }
noncomputable def fX12_peek (o0 : Nat) (h : z_T) : Option (Int32) :=
  y_gd (z_ok h o0 11) <|
  y_br ((z_I h o0 3) ≤ (z_I h o0 4))
    (some (-1 : Int32))
    (y_bi (z_R h o0 1) fun o3 =>
    y_gd (z_ok h o3 12) <|
    y_gd (z_ix (z_I h o0 4) (z_N h o3)) <|
    some ((z_I h o3 (z_I h o0 4).toNatClampNeg) &&& (255 : Int32)))
set_option maxHeartbeats 4000000 in
set_option maxRecDepth 100000 in
theorem mm_X12_peek {G : z_Gt} {S : State → Prop} (hSK : z_SK S) (l : Launch) (ad : Nat → Nat) (o0 : Nat) (h : z_T) {r0 : Int32} (hv : fX12_peek o0 h = some r0) : z_Mi G S l yX12_peek cX12_peek 1 (.int) rm_X12_peek 0 0 [.ref (ad o0)] ad h h r0 := by
  refine z_ofW hSK (by decide) (Nat.le_of_ble_eq_true rfl) ?_
  intro p e s m args below meth c ls hc hr hnm hB hl
  have hx := hc.1.1
  have hb := hc.1.2.1
  have hown := hc.1.2.2.2.1
  have hts := hc.1.2.2.2.2
  replace hc : z_C G S ad (z_n h) p m c cX12_peek 1 s args RX12 meth := hc
  replace hown : s.vm.findClass RX12 = some m.cls := hown
  replace hl : lv_has ls 1 [(0, .ref (ad o0))] := hl
  show W p l e rm_X12_peek s m args below meth c s.heap [] 0 0 (MQ below (z_Qi G ad h (z_n h) s.heap.size r0) args s 0 0 (z_A ad (z_n h) s.heap.size)) (F0 m 0 ls [])
  obtain ⟨rs, kt⟩ : ∃ rs : Int32, rs = r0 := ⟨_, rfl⟩
  generalize hn0 : z_n h = n0 at hc hB ⊢
  rw [← kt] at hv
  refine lv_aload_n hx hb dX12_peek_0 rfl (lv_at hl 0 rfl) ?_
  obtain ⟨g1, hv⟩ := y_gd_e hv
  refine z_getI hc hB 11 4 g1 (by decide) (by decide) rfl (z_l1 hc qfX12_21) dX12_peek_1 ?_
  refine lv_aload_n hx hb dX12_peek_4 rfl (lv_at hl 0 rfl) ?_
  refine z_getI hc hB 11 3 g1 (by decide) (by decide) rfl (z_l1 hc qfX12_18) dX12_peek_5 ?_
  refine lv_icmp_ge (tgt := 27) hx hb dX12_peek_8 (by decide) (fun c2 => ?_) (fun c2 => ?_)
  · replace hv := y_br_t hv c2
    refine lv_iconst (v := (-1 : Int32)) hx hb dX12_peek_27 (by decide) ?_
    replace hv := Option.some.inj hv
    subst hv
    rw [← kt]
    exact z_iret hc hB hr dX12_peek_28
  · replace hv := y_br_f hv c2
    refine lv_aload_n hx hb dX12_peek_11 rfl (lv_at hl 0 rfl) ?_
    obtain ⟨o3, eo3, hv⟩ := y_bi_e hv
    refine z_getR hc hB 11 1 g1 eo3 (by decide) (by decide) rfl (z_l1 hc qfX12_14) dX12_peek_12 ?_
    refine lv_aload_n hx hb dX12_peek_15 rfl (lv_at hl 0 rfl) ?_
    refine z_getI hc hB 11 4 g1 (by decide) (by decide) rfl (z_l1 hc qfX12_21) dX12_peek_16 ?_
    obtain ⟨g4, hv⟩ := y_gd_e hv
    obtain ⟨i5, hv⟩ := y_gd_e hv
    refine z_bald hc hB g4 i5 dX12_peek_19 ?_
    refine lv_sipush (v := (255 : Int32)) hx hb dX12_peek_20 (by decide) ?_
    refine lv_iand hx hb dX12_peek_23 ?_
    refine lv_goto (tgt := 28) hx hb dX12_peek_24 (by decide) ?_
    replace hv := Option.some.inj hv
    subst hv
    rw [← kt]
    exact z_iret hc hB hr dX12_peek_28
theorem dX12_isSmall_0 : decode cX12_isSmall 0 = .ok (.iload_n 0, 1) := by decide +kernel
theorem dX12_isSmall_1 : decode cX12_isSmall 1 = .ok (.bipush 97, 2) := by decide +kernel
theorem dX12_isSmall_3 : decode cX12_isSmall 3 = .ok (.if_icmp .lt 13, 3) := by decide +kernel
theorem dX12_isSmall_6 : decode cX12_isSmall 6 = .ok (.iload_n 0, 1) := by decide +kernel
theorem dX12_isSmall_7 : decode cX12_isSmall 7 = .ok (.bipush 122, 2) := by decide +kernel
theorem dX12_isSmall_9 : decode cX12_isSmall 9 = .ok (.if_icmp .gt 7, 3) := by decide +kernel
theorem dX12_isSmall_12 : decode cX12_isSmall 12 = .ok (.iconst 1, 1) := by decide +kernel
theorem dX12_isSmall_13 : decode cX12_isSmall 13 = .ok (.goto 4, 3) := by decide +kernel
theorem dX12_isSmall_16 : decode cX12_isSmall 16 = .ok (.iconst 0, 1) := by decide +kernel
theorem dX12_isSmall_17 : decode cX12_isSmall 17 = .ok (.ireturn, 1) := by decide +kernel
abbrev rm_X12_isSmall : Room := { frames := 0, cells := 0, slots := 0, locals := 0 }
noncomputable def fX12_isSmall_b16  : Option (Int32) :=
  some (0 : Int32)
noncomputable def fX12_isSmall (x0 : Int32) : Option (Int32) :=
  y_br (x0 < (97 : Int32))
    (fX12_isSmall_b16)
    (y_br ((122 : Int32) < x0)
      (fX12_isSmall_b16)
      (some (1 : Int32)))
set_option maxHeartbeats 4000000 in
set_option maxRecDepth 100000 in
theorem mm_X12_isSmall {G : z_Gt} {S : State → Prop} (hSK : z_SK S) (l : Launch) (ad : Nat → Nat) (x0 : Int32) (h : z_T) {r0 : Int32} (hv : fX12_isSmall x0 = some r0) : z_Mi G S l yX12_isSmall cX12_isSmall 1 (.boolean) rm_X12_isSmall 0 0 [.int x0] ad h h r0 := by
  refine z_ofW hSK (by decide) (Nat.le_of_ble_eq_true rfl) ?_
  intro p e s m args below meth c ls hc hr hnm hB hl
  have hx := hc.1.1
  have hb := hc.1.2.1
  have hown := hc.1.2.2.2.1
  have hts := hc.1.2.2.2.2
  replace hc : z_C G S ad (z_n h) p m c cX12_isSmall 1 s args RX12 meth := hc
  replace hown : s.vm.findClass RX12 = some m.cls := hown
  replace hl : lv_has ls 1 [(0, .int x0)] := hl
  show W p l e rm_X12_isSmall s m args below meth c s.heap [] 0 0 (MQ below (z_Qi G ad h (z_n h) s.heap.size r0) args s 0 0 (z_A ad (z_n h) s.heap.size)) (F0 m 0 ls [])
  obtain ⟨rs, kt⟩ : ∃ rs : Int32, rs = r0 := ⟨_, rfl⟩
  generalize hn0 : z_n h = n0 at hc hB ⊢
  have b16 : ∀ (H : Heap) (locs : List Loc) (ls : Array Slot), z_B G ad n0 s h H locs → lv_has ls 1 [] → ∀ w, fX12_isSmall_b16 = some w → w = r0 → W p l e rm_X12_isSmall s m args below meth c H locs 0 0 (MQ below (z_Qi G ad h n0 s.heap.size r0) args s 0 0 (z_A ad n0 s.heap.size)) (F0 m 16 ls []) := by
    intro H locs ls hB hl w hv kb
    refine lv_iconst (v := (0 : Int32)) hx hb dX12_isSmall_16 (by decide) ?_
    replace hv := Option.some.inj hv
    subst hv
    rw [← kb]
    exact z_zret hc hB hr rfl dX12_isSmall_17
  rw [← kt] at hv
  refine lv_iload_n hx hb dX12_isSmall_0 rfl (lv_at hl 0 rfl) ?_
  refine lv_bipush (v := (97 : Int32)) hx hb dX12_isSmall_1 (by decide) ?_
  refine lv_icmp_lt (tgt := 16) hx hb dX12_isSmall_3 (by decide) (fun c1 => ?_) (fun c1 => ?_)
  · replace hv := y_br_t hv c1
    exact b16 _ _ _ hB (lv_sub hl [] rfl) _ hv kt
  · replace hv := y_br_f hv c1
    refine lv_iload_n hx hb dX12_isSmall_6 rfl (lv_at hl 0 rfl) ?_
    refine lv_bipush (v := (122 : Int32)) hx hb dX12_isSmall_7 (by decide) ?_
    refine lv_icmp_gt (tgt := 16) hx hb dX12_isSmall_9 (by decide) (fun c2 => ?_) (fun c2 => ?_)
    · replace hv := y_br_t hv c2
      exact b16 _ _ _ hB (lv_sub hl [] rfl) _ hv kt
    · replace hv := y_br_f hv c2
      refine lv_iconst (v := (1 : Int32)) hx hb dX12_isSmall_12 (by decide) ?_
      refine lv_goto (tgt := 17) hx hb dX12_isSmall_13 (by decide) ?_
      replace hv := Option.some.inj hv
      subst hv
      rw [← kt]
      exact z_zret hc hB hr rfl dX12_isSmall_17
theorem dX12_isDigit_0 : decode cX12_isDigit 0 = .ok (.iload_n 0, 1) := by decide +kernel
theorem dX12_isDigit_1 : decode cX12_isDigit 1 = .ok (.bipush 48, 2) := by decide +kernel
theorem dX12_isDigit_3 : decode cX12_isDigit 3 = .ok (.if_icmp .lt 13, 3) := by decide +kernel
theorem dX12_isDigit_6 : decode cX12_isDigit 6 = .ok (.iload_n 0, 1) := by decide +kernel
theorem dX12_isDigit_7 : decode cX12_isDigit 7 = .ok (.bipush 57, 2) := by decide +kernel
theorem dX12_isDigit_9 : decode cX12_isDigit 9 = .ok (.if_icmp .gt 7, 3) := by decide +kernel
theorem dX12_isDigit_12 : decode cX12_isDigit 12 = .ok (.iconst 1, 1) := by decide +kernel
theorem dX12_isDigit_13 : decode cX12_isDigit 13 = .ok (.goto 4, 3) := by decide +kernel
theorem dX12_isDigit_16 : decode cX12_isDigit 16 = .ok (.iconst 0, 1) := by decide +kernel
theorem dX12_isDigit_17 : decode cX12_isDigit 17 = .ok (.ireturn, 1) := by decide +kernel
abbrev rm_X12_isDigit : Room := { frames := 0, cells := 0, slots := 0, locals := 0 }
noncomputable def fX12_isDigit_b16  : Option (Int32) :=
  some (0 : Int32)
noncomputable def fX12_isDigit (x0 : Int32) : Option (Int32) :=
  y_br (x0 < (48 : Int32))
    (fX12_isDigit_b16)
    (y_br ((57 : Int32) < x0)
      (fX12_isDigit_b16)
      (some (1 : Int32)))
set_option maxHeartbeats 4000000 in
set_option maxRecDepth 100000 in
theorem mm_X12_isDigit {G : z_Gt} {S : State → Prop} (hSK : z_SK S) (l : Launch) (ad : Nat → Nat) (x0 : Int32) (h : z_T) {r0 : Int32} (hv : fX12_isDigit x0 = some r0) : z_Mi G S l yX12_isDigit cX12_isDigit 1 (.boolean) rm_X12_isDigit 0 0 [.int x0] ad h h r0 := by
  refine z_ofW hSK (by decide) (Nat.le_of_ble_eq_true rfl) ?_
  intro p e s m args below meth c ls hc hr hnm hB hl
  have hx := hc.1.1
  have hb := hc.1.2.1
  have hown := hc.1.2.2.2.1
  have hts := hc.1.2.2.2.2
  replace hc : z_C G S ad (z_n h) p m c cX12_isDigit 1 s args RX12 meth := hc
  replace hown : s.vm.findClass RX12 = some m.cls := hown
  replace hl : lv_has ls 1 [(0, .int x0)] := hl
  show W p l e rm_X12_isDigit s m args below meth c s.heap [] 0 0 (MQ below (z_Qi G ad h (z_n h) s.heap.size r0) args s 0 0 (z_A ad (z_n h) s.heap.size)) (F0 m 0 ls [])
  obtain ⟨rs, kt⟩ : ∃ rs : Int32, rs = r0 := ⟨_, rfl⟩
  generalize hn0 : z_n h = n0 at hc hB ⊢
  have b16 : ∀ (H : Heap) (locs : List Loc) (ls : Array Slot), z_B G ad n0 s h H locs → lv_has ls 1 [] → ∀ w, fX12_isDigit_b16 = some w → w = r0 → W p l e rm_X12_isDigit s m args below meth c H locs 0 0 (MQ below (z_Qi G ad h n0 s.heap.size r0) args s 0 0 (z_A ad n0 s.heap.size)) (F0 m 16 ls []) := by
    intro H locs ls hB hl w hv kb
    refine lv_iconst (v := (0 : Int32)) hx hb dX12_isDigit_16 (by decide) ?_
    replace hv := Option.some.inj hv
    subst hv
    rw [← kb]
    exact z_zret hc hB hr rfl dX12_isDigit_17
  rw [← kt] at hv
  refine lv_iload_n hx hb dX12_isDigit_0 rfl (lv_at hl 0 rfl) ?_
  refine lv_bipush (v := (48 : Int32)) hx hb dX12_isDigit_1 (by decide) ?_
  refine lv_icmp_lt (tgt := 16) hx hb dX12_isDigit_3 (by decide) (fun c1 => ?_) (fun c1 => ?_)
  · replace hv := y_br_t hv c1
    exact b16 _ _ _ hB (lv_sub hl [] rfl) _ hv kt
  · replace hv := y_br_f hv c1
    refine lv_iload_n hx hb dX12_isDigit_6 rfl (lv_at hl 0 rfl) ?_
    refine lv_bipush (v := (57 : Int32)) hx hb dX12_isDigit_7 (by decide) ?_
    refine lv_icmp_gt (tgt := 16) hx hb dX12_isDigit_9 (by decide) (fun c2 => ?_) (fun c2 => ?_)
    · replace hv := y_br_t hv c2
      exact b16 _ _ _ hB (lv_sub hl [] rfl) _ hv kt
    · replace hv := y_br_f hv c2
      refine lv_iconst (v := (1 : Int32)) hx hb dX12_isDigit_12 (by decide) ?_
      refine lv_goto (tgt := 17) hx hb dX12_isDigit_13 (by decide) ?_
      replace hv := Option.some.inj hv
      subst hv
      rw [← kt]
      exact z_zret hc hB hr rfl dX12_isDigit_17
theorem qfX12_156 : Cond.fieldLink RX12 156 "DreamTestsModel" "token" "I" ∈ z_ws := List.mem_filter.mpr ⟨List.mem_append_right _ (List.mem_of_getElem? (i := 1311) (by decide +kernel)), rfl⟩
theorem qfX12_166 : Cond.fieldLink RX12 166 "DreamTestsModel" "number" "I" ∈ z_ws := List.mem_filter.mpr ⟨List.mem_append_right _ (List.mem_of_getElem? (i := 1314) (by decide +kernel)), rfl⟩
theorem qfX12_153 : Cond.fieldLink RX12 153 "DreamTestsModel" "span" "I" ∈ z_ws := List.mem_filter.mpr ⟨List.mem_append_right _ (List.mem_of_getElem? (i := 1313) (by decide +kernel)), rfl⟩
theorem qmX12_146 : Cond.methodLink RX12 146 yX12_peek ∈ z_ws := List.mem_filter.mpr ⟨List.mem_append_right _ (List.mem_of_getElem? (i := 1484) (by decide +kernel)), rfl⟩
theorem qc_X12_peek : Cond.code yX12_peek cX12_peek 1 (some .int) ∈ z_ws := List.mem_filter.mpr ⟨List.mem_append_right _ (List.mem_of_getElem? (i := 1487) (by decide +kernel)), rfl⟩
theorem qi_X12_peek : Cond.instanceMethod yX12_peek ∈ z_ws := List.mem_filter.mpr ⟨List.mem_append_right _ (List.mem_of_getElem? (i := 1486) (by decide +kernel)), rfl⟩
theorem qs_X12_peek : Cond.selects RX12 yX12_peek yX12_peek ∈ z_ws := List.mem_filter.mpr ⟨List.mem_append_left _ (List.mem_of_getElem? (i := 36) (by decide +kernel)), rfl⟩
theorem md_X12_peek : z_mdV yX12_peek cX12_peek 1 (some .int) 0 := ⟨⟨qn_RX12, qc_X12_peek, ⟨by decide +kernel, by decide +kernel, by decide +kernel⟩⟩, qi_X12_peek, qs_X12_peek⟩
theorem qfX12_169 : Cond.fieldLink RX12 169 "DreamTestsModel" "word" "J" ∈ z_ws := List.mem_filter.mpr ⟨List.mem_append_right _ (List.mem_of_getElem? (i := 1317) (by decide +kernel)), rfl⟩
theorem qmX12_159 : Cond.methodLink RX12 159 yX12_isSmall ∈ z_ws := List.mem_filter.mpr ⟨List.mem_append_right _ (List.mem_of_getElem? (i := 1488) (by decide +kernel)), rfl⟩
theorem qc_X12_isSmall : Cond.code yX12_isSmall cX12_isSmall 1 (some .boolean) ∈ z_ws := List.mem_filter.mpr ⟨List.mem_append_right _ (List.mem_of_getElem? (i := 1490) (by decide +kernel)), rfl⟩
theorem qs_X12_isSmall : Cond.static yX12_isSmall ∈ z_ws := List.mem_filter.mpr ⟨List.mem_append_right _ (List.mem_of_getElem? (i := 1489) (by decide +kernel)), rfl⟩
theorem md_X12_isSmall : z_mdS yX12_isSmall cX12_isSmall 1 (some .boolean) 1 := ⟨⟨qn_RX12, qc_X12_isSmall, ⟨by decide +kernel, by decide +kernel, by decide +kernel⟩⟩, qs_X12_isSmall⟩
theorem qmX12_163 : Cond.methodLink RX12 163 yX12_isDigit ∈ z_ws := List.mem_filter.mpr ⟨List.mem_append_right _ (List.mem_of_getElem? (i := 1491) (by decide +kernel)), rfl⟩
theorem qc_X12_isDigit : Cond.code yX12_isDigit cX12_isDigit 1 (some .boolean) ∈ z_ws := List.mem_filter.mpr ⟨List.mem_append_right _ (List.mem_of_getElem? (i := 1493) (by decide +kernel)), rfl⟩
theorem qs_X12_isDigit : Cond.static yX12_isDigit ∈ z_ws := List.mem_filter.mpr ⟨List.mem_append_right _ (List.mem_of_getElem? (i := 1492) (by decide +kernel)), rfl⟩
theorem md_X12_isDigit : z_mdS yX12_isDigit cX12_isDigit 1 (some .boolean) 1 := ⟨⟨qn_RX12, qc_X12_isDigit, ⟨by decide +kernel, by decide +kernel, by decide +kernel⟩⟩, qs_X12_isDigit⟩
theorem qfX12_150 : Cond.fieldLink RX12 150 "DreamTestsModel" "at" "I" ∈ z_ws := List.mem_filter.mpr ⟨List.mem_append_right _ (List.mem_of_getElem? (i := 1312) (by decide +kernel)), rfl⟩
theorem dX12_go_0 : decode cX12_go 0 = .ok (.aload_n 0, 1) := by decide +kernel
theorem dX12_go_1 : decode cX12_go 1 = .ok (.invokevirtual 146, 3) := by decide +kernel
theorem dX12_go_4 : decode cX12_go 4 = .ok (.bipush 32, 2) := by decide +kernel
theorem dX12_go_6 : decode cX12_go 6 = .ok (.if_icmp .eq 12, 3) := by decide +kernel
theorem dX12_go_9 : decode cX12_go 9 = .ok (.aload_n 0, 1) := by decide +kernel
theorem dX12_go_10 : decode cX12_go 10 = .ok (.invokevirtual 146, 3) := by decide +kernel
theorem dX12_go_13 : decode cX12_go 13 = .ok (.bipush 10, 2) := by decide +kernel
theorem dX12_go_15 : decode cX12_go 15 = .ok (.if_icmp .ne 16, 3) := by decide +kernel
theorem dX12_go_18 : decode cX12_go 18 = .ok (.aload_n 0, 1) := by decide +kernel
theorem dX12_go_19 : decode cX12_go 19 = .ok (.dup, 1) := by decide +kernel
theorem dX12_go_20 : decode cX12_go 20 = .ok (.getfield 21, 3) := by decide +kernel
theorem dX12_go_23 : decode cX12_go 23 = .ok (.iconst 1, 1) := by decide +kernel
theorem dX12_go_24 : decode cX12_go 24 = .ok (.iadd, 1) := by decide +kernel
theorem dX12_go_25 : decode cX12_go 25 = .ok (.putfield 21, 3) := by decide +kernel
theorem dX12_go_28 : decode cX12_go 28 = .ok (.goto (-28), 3) := by decide +kernel
theorem dX12_go_31 : decode cX12_go 31 = .ok (.aload_n 0, 1) := by decide +kernel
theorem dX12_go_32 : decode cX12_go 32 = .ok (.aload_n 0, 1) := by decide +kernel
theorem dX12_go_33 : decode cX12_go 33 = .ok (.getfield 21, 3) := by decide +kernel
theorem dX12_go_36 : decode cX12_go 36 = .ok (.putfield 150, 3) := by decide +kernel
theorem dX12_go_39 : decode cX12_go 39 = .ok (.aload_n 0, 1) := by decide +kernel
theorem dX12_go_40 : decode cX12_go 40 = .ok (.iconst 0, 1) := by decide +kernel
theorem dX12_go_41 : decode cX12_go 41 = .ok (.putfield 153, 3) := by decide +kernel
theorem dX12_go_44 : decode cX12_go 44 = .ok (.aload_n 0, 1) := by decide +kernel
theorem dX12_go_45 : decode cX12_go 45 = .ok (.getfield 18, 3) := by decide +kernel
theorem dX12_go_48 : decode cX12_go 48 = .ok (.aload_n 0, 1) := by decide +kernel
theorem dX12_go_49 : decode cX12_go 49 = .ok (.getfield 24, 3) := by decide +kernel
theorem dX12_go_52 : decode cX12_go 52 = .ok (.if_icmp .le 28, 3) := by decide +kernel
theorem dX12_go_55 : decode cX12_go 55 = .ok (.aload_n 0, 1) := by decide +kernel
theorem dX12_go_56 : decode cX12_go 56 = .ok (.getfield 21, 3) := by decide +kernel
theorem dX12_go_59 : decode cX12_go 59 = .ok (.aload_n 0, 1) := by decide +kernel
theorem dX12_go_60 : decode cX12_go 60 = .ok (.getfield 24, 3) := by decide +kernel
theorem dX12_go_63 : decode cX12_go 63 = .ok (.if_icmp .lt 17, 3) := by decide +kernel
theorem dX12_go_66 : decode cX12_go 66 = .ok (.aload_n 0, 1) := by decide +kernel
theorem dX12_go_67 : decode cX12_go 67 = .ok (.aload_n 0, 1) := by decide +kernel
theorem dX12_go_68 : decode cX12_go 68 = .ok (.getfield 24, 3) := by decide +kernel
theorem dX12_go_71 : decode cX12_go 71 = .ok (.putfield 150, 3) := by decide +kernel
theorem dX12_go_74 : decode cX12_go 74 = .ok (.aload_n 0, 1) := by decide +kernel
theorem dX12_go_75 : decode cX12_go 75 = .ok (.iconst 4, 1) := by decide +kernel
theorem dX12_go_76 : decode cX12_go 76 = .ok (.putfield 156, 3) := by decide +kernel
theorem dX12_go_79 : decode cX12_go 79 = .ok (.return_, 1) := by decide +kernel
theorem dX12_go_80 : decode cX12_go 80 = .ok (.aload_n 0, 1) := by decide +kernel
theorem dX12_go_81 : decode cX12_go 81 = .ok (.invokevirtual 146, 3) := by decide +kernel
theorem dX12_go_84 : decode cX12_go 84 = .ok (.istore_n 1, 1) := by decide +kernel
theorem dX12_go_85 : decode cX12_go 85 = .ok (.iload_n 1, 1) := by decide +kernel
theorem dX12_go_86 : decode cX12_go 86 = .ok (.ifCond .ge 9, 3) := by decide +kernel
theorem dX12_go_89 : decode cX12_go 89 = .ok (.aload_n 0, 1) := by decide +kernel
theorem dX12_go_90 : decode cX12_go 90 = .ok (.iconst 0, 1) := by decide +kernel
theorem dX12_go_91 : decode cX12_go 91 = .ok (.putfield 156, 3) := by decide +kernel
theorem dX12_go_94 : decode cX12_go 94 = .ok (.return_, 1) := by decide +kernel
theorem dX12_go_95 : decode cX12_go 95 = .ok (.iload_n 1, 1) := by decide +kernel
theorem dX12_go_96 : decode cX12_go 96 = .ok (.invokestatic 159, 3) := by decide +kernel
theorem dX12_go_99 : decode cX12_go 99 = .ok (.ifCond .ne 65, 3) := by decide +kernel
theorem dX12_go_102 : decode cX12_go 102 = .ok (.iload_n 1, 1) := by decide +kernel
theorem dX12_go_103 : decode cX12_go 103 = .ok (.invokestatic 163, 3) := by decide +kernel
theorem dX12_go_106 : decode cX12_go 106 = .ok (.ifCond .ne 58, 3) := by decide +kernel
theorem dX12_go_109 : decode cX12_go 109 = .ok (.aload_n 0, 1) := by decide +kernel
theorem dX12_go_110 : decode cX12_go 110 = .ok (.iload_n 1, 1) := by decide +kernel
theorem dX12_go_111 : decode cX12_go 111 = .ok (.bipush 59, 2) := by decide +kernel
theorem dX12_go_113 : decode cX12_go 113 = .ok (.if_icmp .eq 27, 3) := by decide +kernel
theorem dX12_go_116 : decode cX12_go 116 = .ok (.iload_n 1, 1) := by decide +kernel
theorem dX12_go_117 : decode cX12_go 117 = .ok (.bipush 40, 2) := by decide +kernel
theorem dX12_go_119 : decode cX12_go 119 = .ok (.if_icmp .eq 21, 3) := by decide +kernel
theorem dX12_go_122 : decode cX12_go 122 = .ok (.iload_n 1, 1) := by decide +kernel
theorem dX12_go_123 : decode cX12_go 123 = .ok (.bipush 41, 2) := by decide +kernel
theorem dX12_go_125 : decode cX12_go 125 = .ok (.if_icmp .eq 15, 3) := by decide +kernel
theorem dX12_go_128 : decode cX12_go 128 = .ok (.iload_n 1, 1) := by decide +kernel
theorem dX12_go_129 : decode cX12_go 129 = .ok (.bipush 60, 2) := by decide +kernel
theorem dX12_go_131 : decode cX12_go 131 = .ok (.if_icmp .lt 13, 3) := by decide +kernel
theorem dX12_go_134 : decode cX12_go 134 = .ok (.iload_n 1, 1) := by decide +kernel
theorem dX12_go_135 : decode cX12_go 135 = .ok (.bipush 62, 2) := by decide +kernel
theorem dX12_go_137 : decode cX12_go 137 = .ok (.if_icmp .gt 7, 3) := by decide +kernel
theorem dX12_go_140 : decode cX12_go 140 = .ok (.iconst 3, 1) := by decide +kernel
theorem dX12_go_141 : decode cX12_go 141 = .ok (.goto 4, 3) := by decide +kernel
theorem dX12_go_144 : decode cX12_go 144 = .ok (.iconst 4, 1) := by decide +kernel
theorem dX12_go_145 : decode cX12_go 145 = .ok (.putfield 156, 3) := by decide +kernel
theorem dX12_go_148 : decode cX12_go 148 = .ok (.aload_n 0, 1) := by decide +kernel
theorem dX12_go_149 : decode cX12_go 149 = .ok (.iload_n 1, 1) := by decide +kernel
theorem dX12_go_150 : decode cX12_go 150 = .ok (.putfield 166, 3) := by decide +kernel
theorem dX12_go_153 : decode cX12_go 153 = .ok (.aload_n 0, 1) := by decide +kernel
theorem dX12_go_154 : decode cX12_go 154 = .ok (.dup, 1) := by decide +kernel
theorem dX12_go_155 : decode cX12_go 155 = .ok (.getfield 21, 3) := by decide +kernel
theorem dX12_go_158 : decode cX12_go 158 = .ok (.iconst 1, 1) := by decide +kernel
theorem dX12_go_159 : decode cX12_go 159 = .ok (.iadd, 1) := by decide +kernel
theorem dX12_go_160 : decode cX12_go 160 = .ok (.putfield 21, 3) := by decide +kernel
theorem dX12_go_163 : decode cX12_go 163 = .ok (.return_, 1) := by decide +kernel
theorem dX12_go_164 : decode cX12_go 164 = .ok (.iload_n 1, 1) := by decide +kernel
theorem dX12_go_165 : decode cX12_go 165 = .ok (.invokestatic 159, 3) := by decide +kernel
theorem dX12_go_168 : decode cX12_go 168 = .ok (.istore_n 2, 1) := by decide +kernel
theorem dX12_go_169 : decode cX12_go 169 = .ok (.iconst 1, 1) := by decide +kernel
theorem dX12_go_170 : decode cX12_go 170 = .ok (.istore_n 3, 1) := by decide +kernel
theorem dX12_go_171 : decode cX12_go 171 = .ok (.aload_n 0, 1) := by decide +kernel
theorem dX12_go_172 : decode cX12_go 172 = .ok (.lconst 0, 1) := by decide +kernel
theorem dX12_go_173 : decode cX12_go 173 = .ok (.putfield 169, 3) := by decide +kernel
theorem dX12_go_176 : decode cX12_go 176 = .ok (.aload_n 0, 1) := by decide +kernel
theorem dX12_go_177 : decode cX12_go 177 = .ok (.iconst 0, 1) := by decide +kernel
theorem dX12_go_178 : decode cX12_go 178 = .ok (.putfield 166, 3) := by decide +kernel
theorem dX12_go_181 : decode cX12_go 181 = .ok (.aload_n 0, 1) := by decide +kernel
theorem dX12_go_182 : decode cX12_go 182 = .ok (.invokevirtual 146, 3) := by decide +kernel
theorem dX12_go_185 : decode cX12_go 185 = .ok (.invokestatic 159, 3) := by decide +kernel
theorem dX12_go_188 : decode cX12_go 188 = .ok (.ifCond .ne 13, 3) := by decide +kernel
theorem dX12_go_191 : decode cX12_go 191 = .ok (.aload_n 0, 1) := by decide +kernel
theorem dX12_go_192 : decode cX12_go 192 = .ok (.invokevirtual 146, 3) := by decide +kernel
theorem dX12_go_195 : decode cX12_go 195 = .ok (.invokestatic 163, 3) := by decide +kernel
theorem dX12_go_198 : decode cX12_go 198 = .ok (.ifCond .eq 100, 3) := by decide +kernel
theorem dX12_go_201 : decode cX12_go 201 = .ok (.iload_n 3, 1) := by decide +kernel
theorem dX12_go_202 : decode cX12_go 202 = .ok (.ifCond .eq 18, 3) := by decide +kernel
theorem dX12_go_205 : decode cX12_go 205 = .ok (.aload_n 0, 1) := by decide +kernel
theorem dX12_go_206 : decode cX12_go 206 = .ok (.invokevirtual 146, 3) := by decide +kernel
theorem dX12_go_209 : decode cX12_go 209 = .ok (.invokestatic 159, 3) := by decide +kernel
theorem dX12_go_212 : decode cX12_go 212 = .ok (.iload_n 2, 1) := by decide +kernel
theorem dX12_go_213 : decode cX12_go 213 = .ok (.if_icmp .ne 7, 3) := by decide +kernel
theorem dX12_go_216 : decode cX12_go 216 = .ok (.iconst 1, 1) := by decide +kernel
theorem dX12_go_217 : decode cX12_go 217 = .ok (.goto 4, 3) := by decide +kernel
theorem dX12_go_220 : decode cX12_go 220 = .ok (.iconst 0, 1) := by decide +kernel
theorem dX12_go_221 : decode cX12_go 221 = .ok (.istore_n 3, 1) := by decide +kernel
theorem dX12_go_222 : decode cX12_go 222 = .ok (.aload_n 0, 1) := by decide +kernel
theorem dX12_go_223 : decode cX12_go 223 = .ok (.getfield 153, 3) := by decide +kernel
theorem dX12_go_226 : decode cX12_go 226 = .ok (.bipush 7, 2) := by decide +kernel
theorem dX12_go_228 : decode cX12_go 228 = .ok (.if_icmp .ge 20, 3) := by decide +kernel
theorem dX12_go_231 : decode cX12_go 231 = .ok (.aload_n 0, 1) := by decide +kernel
theorem dX12_go_232 : decode cX12_go 232 = .ok (.aload_n 0, 1) := by decide +kernel
theorem dX12_go_233 : decode cX12_go 233 = .ok (.getfield 169, 3) := by decide +kernel
theorem dX12_go_236 : decode cX12_go 236 = .ok (.bipush 8, 2) := by decide +kernel
theorem dX12_go_238 : decode cX12_go 238 = .ok (.lshl, 1) := by decide +kernel
theorem dX12_go_239 : decode cX12_go 239 = .ok (.aload_n 0, 1) := by decide +kernel
theorem dX12_go_240 : decode cX12_go 240 = .ok (.invokevirtual 146, 3) := by decide +kernel
theorem dX12_go_243 : decode cX12_go 243 = .ok (.i2l, 1) := by decide +kernel
theorem dX12_go_244 : decode cX12_go 244 = .ok (.lor, 1) := by decide +kernel
theorem dX12_go_245 : decode cX12_go 245 = .ok (.putfield 169, 3) := by decide +kernel
theorem dX12_go_248 : decode cX12_go 248 = .ok (.aload_n 0, 1) := by decide +kernel
theorem dX12_go_249 : decode cX12_go 249 = .ok (.getfield 153, 3) := by decide +kernel
theorem dX12_go_252 : decode cX12_go 252 = .ok (.iconst 2, 1) := by decide +kernel
theorem dX12_go_253 : decode cX12_go 253 = .ok (.if_icmp .ge 22, 3) := by decide +kernel
theorem dX12_go_256 : decode cX12_go 256 = .ok (.aload_n 0, 1) := by decide +kernel
theorem dX12_go_257 : decode cX12_go 257 = .ok (.bipush 10, 2) := by decide +kernel
theorem dX12_go_259 : decode cX12_go 259 = .ok (.aload_n 0, 1) := by decide +kernel
theorem dX12_go_260 : decode cX12_go 260 = .ok (.getfield 166, 3) := by decide +kernel
theorem dX12_go_263 : decode cX12_go 263 = .ok (.imul, 1) := by decide +kernel
theorem dX12_go_264 : decode cX12_go 264 = .ok (.aload_n 0, 1) := by decide +kernel
theorem dX12_go_265 : decode cX12_go 265 = .ok (.invokevirtual 146, 3) := by decide +kernel
theorem dX12_go_268 : decode cX12_go 268 = .ok (.iadd, 1) := by decide +kernel
theorem dX12_go_269 : decode cX12_go 269 = .ok (.bipush 48, 2) := by decide +kernel
theorem dX12_go_271 : decode cX12_go 271 = .ok (.isub, 1) := by decide +kernel
theorem dX12_go_272 : decode cX12_go 272 = .ok (.putfield 166, 3) := by decide +kernel
theorem dX12_go_275 : decode cX12_go 275 = .ok (.aload_n 0, 1) := by decide +kernel
theorem dX12_go_276 : decode cX12_go 276 = .ok (.dup, 1) := by decide +kernel
theorem dX12_go_277 : decode cX12_go 277 = .ok (.getfield 153, 3) := by decide +kernel
theorem dX12_go_280 : decode cX12_go 280 = .ok (.iconst 1, 1) := by decide +kernel
theorem dX12_go_281 : decode cX12_go 281 = .ok (.iadd, 1) := by decide +kernel
theorem dX12_go_282 : decode cX12_go 282 = .ok (.putfield 153, 3) := by decide +kernel
theorem dX12_go_285 : decode cX12_go 285 = .ok (.aload_n 0, 1) := by decide +kernel
theorem dX12_go_286 : decode cX12_go 286 = .ok (.dup, 1) := by decide +kernel
theorem dX12_go_287 : decode cX12_go 287 = .ok (.getfield 21, 3) := by decide +kernel
theorem dX12_go_290 : decode cX12_go 290 = .ok (.iconst 1, 1) := by decide +kernel
theorem dX12_go_291 : decode cX12_go 291 = .ok (.iadd, 1) := by decide +kernel
theorem dX12_go_292 : decode cX12_go 292 = .ok (.putfield 21, 3) := by decide +kernel
theorem dX12_go_295 : decode cX12_go 295 = .ok (.goto (-114), 3) := by decide +kernel
theorem dX12_go_298 : decode cX12_go 298 = .ok (.aload_n 0, 1) := by decide +kernel
theorem dX12_go_299 : decode cX12_go 299 = .ok (.iload_n 3, 1) := by decide +kernel
theorem dX12_go_300 : decode cX12_go 300 = .ok (.ifCond .eq 20, 3) := by decide +kernel
theorem dX12_go_303 : decode cX12_go 303 = .ok (.aload_n 0, 1) := by decide +kernel
theorem dX12_go_304 : decode cX12_go 304 = .ok (.getfield 153, 3) := by decide +kernel
theorem dX12_go_307 : decode cX12_go 307 = .ok (.iload_n 2, 1) := by decide +kernel
theorem dX12_go_308 : decode cX12_go 308 = .ok (.ifCond .eq 8, 3) := by decide +kernel
theorem dX12_go_311 : decode cX12_go 311 = .ok (.bipush 7, 2) := by decide +kernel
theorem dX12_go_313 : decode cX12_go 313 = .ok (.goto 4, 3) := by decide +kernel
theorem dX12_go_316 : decode cX12_go 316 = .ok (.iconst 2, 1) := by decide +kernel
theorem dX12_go_317 : decode cX12_go 317 = .ok (.if_icmp .le 7, 3) := by decide +kernel
theorem dX12_go_320 : decode cX12_go 320 = .ok (.iconst 4, 1) := by decide +kernel
theorem dX12_go_321 : decode cX12_go 321 = .ok (.goto 12, 3) := by decide +kernel
theorem dX12_go_324 : decode cX12_go 324 = .ok (.iload_n 2, 1) := by decide +kernel
theorem dX12_go_325 : decode cX12_go 325 = .ok (.ifCond .eq 7, 3) := by decide +kernel
theorem dX12_go_328 : decode cX12_go 328 = .ok (.iconst 1, 1) := by decide +kernel
theorem dX12_go_329 : decode cX12_go 329 = .ok (.goto 4, 3) := by decide +kernel
theorem dX12_go_332 : decode cX12_go 332 = .ok (.iconst 2, 1) := by decide +kernel
theorem dX12_go_333 : decode cX12_go 333 = .ok (.putfield 156, 3) := by decide +kernel
theorem dX12_go_336 : decode cX12_go 336 = .ok (.return_, 1) := by decide +kernel
abbrev rm_X12_go : Room := { frames := 1, cells := 0, slots := 0, locals := 20 }
noncomputable def fX12_go_b145 (o0 : Nat) (x1 : Int32) (s0 : Nat) (s1 : Int32) (h : z_T) : Option (z_T) :=
  y_gd (z_ok h s0 11) <|
  y_nm (z_sI h s0 11 s1) fun h2 =>
  y_gd (z_ok h2 o0 11) <|
  y_nm (z_sI h2 o0 14 x1) fun h4 =>
  y_nm (z_sI h4 o0 4 ((z_I h4 o0 4) + (1 : Int32))) fun h5 =>
  some h5
noncomputable def fX12_go_b140 (o0 : Nat) (x1 : Int32) (s0 : Nat) (h : z_T) : Option (z_T) :=
  fX12_go_b145 o0 x1 s0 (3 : Int32) h
noncomputable def fX12_go_b144 (o0 : Nat) (x1 : Int32) (s0 : Nat) (h : z_T) : Option (z_T) :=
  fX12_go_b145 o0 x1 s0 (4 : Int32) h
noncomputable def fX12_go_b320 (s0 : Nat) (h : z_T) : Option (z_T) :=
  y_gd (z_ok h s0 11) <|
  y_nm (z_sI h s0 11 (4 : Int32)) fun h7 =>
  some h7
noncomputable def fX12_go_b317 (x2 : Int32) (s0 : Nat) (s1 : Int32) (s2 : Int32) (h : z_T) : Option (z_T) :=
  y_br (s1 ≤ s2)
    (y_br (x2 = 0)
      (y_gd (z_ok h s0 11) <|
      y_nm (z_sI h s0 11 (2 : Int32)) fun h11 =>
      some h11)
      (y_gd (z_ok h s0 11) <|
      y_nm (z_sI h s0 11 (1 : Int32)) fun h13 =>
      some h13))
    (fX12_go_b320 s0 h)
noncomputable def fX12_go_b275 (o0 : Nat) (x2 : Int32) (x3 : Int32) (h : z_T) : Option ((Int32 × z_T) ⊕ (z_T)) :=
  y_gd (z_ok h o0 11) <|
  y_nm (z_sI h o0 13 ((z_I h o0 13) + (1 : Int32))) fun h15 =>
  y_nm (z_sI h15 o0 4 ((z_I h15 o0 4) + (1 : Int32))) fun h16 =>
  some (.inl (x3, h16))
noncomputable def fX12_go_b248 (o0 : Nat) (x2 : Int32) (x3 : Int32) (h : z_T) : Option ((Int32 × z_T) ⊕ (z_T)) :=
  y_gd (z_ok h o0 11) <|
  y_br ((2 : Int32) ≤ (z_I h o0 13))
    (fX12_go_b275 o0 x2 x3 h)
    (y_bi (fX12_peek o0 h) fun r20 =>
    y_nm (z_sI h o0 14 ((((10 : Int32) * (z_I h o0 14)) + r20) - (48 : Int32))) fun h24 =>
    fX12_go_b275 o0 x2 x3 h24)
noncomputable def fX12_go_b221 (o0 : Nat) (x2 : Int32) (s0 : Int32) (h : z_T) : Option ((Int32 × z_T) ⊕ (z_T)) :=
  y_gd (z_ok h o0 11) <|
  y_br ((7 : Int32) ≤ (z_I h o0 13))
    (fX12_go_b248 o0 x2 s0 h)
    (y_bi (fX12_peek o0 h) fun r28 =>
    y_nm (z_sL h o0 17 (((z_L h o0 17) <<< (((8 : Int32)).toInt64 &&& 63)) ||| (r28).toInt64)) fun h32 =>
    fX12_go_b248 o0 x2 s0 h32)
noncomputable def fX12_go_b220 (o0 : Nat) (x2 : Int32) (h : z_T) : Option ((Int32 × z_T) ⊕ (z_T)) :=
  fX12_go_b221 o0 x2 (0 : Int32) h
noncomputable def fX12_go_b201 (o0 : Nat) (x2 : Int32) (x3 : Int32) (h : z_T) : Option ((Int32 × z_T) ⊕ (z_T)) :=
  y_br (x3 = 0)
    (fX12_go_b220 o0 x2 h)
    (y_gd (z_ok h o0 11) <|
    y_bi (fX12_peek o0 h) fun r35 =>
    y_bi (fX12_isSmall r35) fun r41 =>
    y_br (r41 = x2)
      (fX12_go_b221 o0 x2 (1 : Int32) h)
      (fX12_go_b220 o0 x2 h))
noncomputable def fX12_go_b181_i (o0 : Nat) (x2 : Int32) (x3 : Int32) (h : z_T) : Option ((Int32 × z_T) ⊕ (z_T)) :=
  y_gd (z_ok h o0 11) <|
  y_bi (fX12_peek o0 h) fun r47 =>
  y_bi (fX12_isSmall r47) fun r53 =>
  y_br (r53 = 0)
    (y_bi (fX12_peek o0 h) fun r59 =>
    y_bi (fX12_isDigit r59) fun r64 =>
    y_br (r64 = 0)
      (y_mp <|
      y_br (x3 = 0)
        (fX12_go_b320 o0 h)
        (y_br (x2 = 0)
          (fX12_go_b317 x2 o0 (z_I h o0 13) (2 : Int32) h)
          (fX12_go_b317 x2 o0 (z_I h o0 13) (7 : Int32) h)))
      (fX12_go_b201 o0 x2 x3 h))
    (fX12_go_b201 o0 x2 x3 h)
noncomputable def fX12_go_b181 (o0 : Nat) (x2 : Int32) (x3 : Int32) (h : z_T) : Option (z_T) := y_lp (fun q : Int32 × z_T => fX12_go_b181_i o0 x2 q.1 q.2) (x3, h)
noncomputable def fX12_go_b164 (o0 : Nat) (x1 : Int32) (h : z_T) : Option (z_T) :=
  y_bi (fX12_isSmall x1) fun r73 =>
  y_gd (z_ok h o0 11) <|
  y_nm (z_sL h o0 17 (0 : Int64)) fun h78 =>
  y_nm (z_sI h78 o0 14 (0 : Int32)) fun h79 =>
  fX12_go_b181 o0 r73 (1 : Int32) h79
noncomputable def fX12_go_b80 (o0 : Nat) (h : z_T) : Option (z_T) :=
  y_gd (z_ok h o0 11) <|
  y_bi (fX12_peek o0 h) fun r81 =>
  y_br (0 ≤ r81)
    (y_bi (fX12_isSmall r81) fun r88 =>
    y_br (r88 = 0)
      (y_bi (fX12_isDigit r81) fun r94 =>
      y_br (r94 = 0)
        (y_br (r81 = (59 : Int32))
          (fX12_go_b140 o0 r81 o0 h)
          (y_br (r81 = (40 : Int32))
            (fX12_go_b140 o0 r81 o0 h)
            (y_br (r81 = (41 : Int32))
              (fX12_go_b140 o0 r81 o0 h)
              (y_br (r81 < (60 : Int32))
                (fX12_go_b144 o0 r81 o0 h)
                (y_br ((62 : Int32) < r81)
                  (fX12_go_b144 o0 r81 o0 h)
                  (fX12_go_b140 o0 r81 o0 h))))))
        (fX12_go_b164 o0 r81 h))
      (fX12_go_b164 o0 r81 h))
    (y_nm (z_sI h o0 11 (0 : Int32)) fun h104 =>
    some h104)
noncomputable def fX12_go_b18 (o0 : Nat) (h : z_T) : Option ((z_T) ⊕ (z_T)) :=
  y_gd (z_ok h o0 11) <|
  y_nm (z_sI h o0 4 ((z_I h o0 4) + (1 : Int32))) fun h106 =>
  some (.inl (h106))
noncomputable def fX12_go_b0_i (o0 : Nat) (h : z_T) : Option ((z_T) ⊕ (z_T)) :=
  y_gd (z_ok h o0 11) <|
  y_bi (fX12_peek o0 h) fun r108 =>
  y_br (r108 = (32 : Int32))
    (fX12_go_b18 o0 h)
    (y_bi (fX12_peek o0 h) fun r115 =>
    y_br (r115 = (10 : Int32))
      (fX12_go_b18 o0 h)
      (y_mp <|
      y_nm (z_sI h o0 12 (z_I h o0 4)) fun h121 =>
      y_nm (z_sI h121 o0 13 (0 : Int32)) fun h122 =>
      y_br ((z_I h122 o0 3) ≤ (z_I h122 o0 5))
        (fX12_go_b80 o0 h122)
        (y_br ((z_I h122 o0 4) < (z_I h122 o0 5))
          (fX12_go_b80 o0 h122)
          (y_nm (z_sI h122 o0 12 (z_I h122 o0 5)) fun h125 =>
          y_nm (z_sI h125 o0 11 (4 : Int32)) fun h126 =>
          some h126))))
noncomputable def fX12_go_b0 (o0 : Nat) (h : z_T) : Option (z_T) := y_lp (fun q : z_T => fX12_go_b0_i o0 q) (h)
noncomputable def fX12_go (o0 : Nat) (h : z_T) : Option (z_T) :=
  fX12_go_b0 o0 h
set_option maxHeartbeats 4000000 in
set_option maxRecDepth 100000 in
theorem mm_X12_go {G : z_Gt} {S : State → Prop} (hSK : z_SK S) (l : Launch) (ad : Nat → Nat) (o0 : Nat) (h : z_T) {h9 : z_T} (hv : fX12_go o0 h = some h9) : z_Mv G S l yX12_go cX12_go 4 rm_X12_go 0 0 [.ref (ad o0)] ad h h9 := by
  refine z_ofW hSK (by decide) (Nat.le_of_ble_eq_true rfl) ?_
  intro p e s m args below meth c ls hc hr hnm hB hl
  have hx := hc.1.1
  have hb := hc.1.2.1
  have hown := hc.1.2.2.2.1
  have hts := hc.1.2.2.2.2
  replace hc : z_C G S ad (z_n h) p m c cX12_go 4 s args RX12 meth := hc
  replace hown : s.vm.findClass RX12 = some m.cls := hown
  replace hl : lv_has ls 4 [(0, .ref (ad o0))] := hl
  show W p l e rm_X12_go s m args below meth c s.heap [] 0 0 (MQ below (z_Qv G ad h9 (z_n h) s.heap.size) args s 0 0 (z_A ad (z_n h) s.heap.size)) (F0 m 0 ls [])
  obtain ⟨rs, kt⟩ : ∃ rs : z_T, rs = h9 := ⟨_, rfl⟩
  generalize hn0 : z_n h = n0 at hc hB ⊢
  have b145 : ∀ (x1 : Int32) (s0 : Nat) (s1 : Int32) (h : z_T) (H : Heap) (locs : List Loc) (ls : Array Slot), z_B G ad n0 s h H locs → lv_has ls 4 [(0, .ref (ad o0)), (1, .int x1)] → ∀ w, fX12_go_b145 o0 x1 s0 s1 h = some w → w = h9 → W p l e rm_X12_go s m args below meth c H locs 0 0 (MQ below (z_Qv G ad h9 n0 s.heap.size) args s 0 0 (z_A ad n0 s.heap.size)) (F0 m 145 ls [.int s1, .ref (ad s0)]) := by
    intro x1 s0 s1 h H locs ls hB hl w hv kb
    obtain ⟨g1, hv⟩ := y_gd_e hv
    obtain ⟨h2, eh2, hv⟩ := y_nm_e hv
    refine y_putI hc hB 11 11 eh2 g1 (z_l1 hc qfX12_156) dX12_go_145 (by decide) (by decide) rfl rfl rfl rfl (fun H locs hB => ?_)
    refine lv_aload_n hx hb dX12_go_148 rfl (lv_at hl 0 rfl) ?_
    refine lv_iload_n hx hb dX12_go_149 rfl (lv_at hl 1 rfl) ?_
    obtain ⟨g3, hv⟩ := y_gd_e hv
    obtain ⟨h4, eh4, hv⟩ := y_nm_e hv
    refine y_putI hc hB 11 14 eh4 g3 (z_l1 hc qfX12_166) dX12_go_150 (by decide) (by decide) rfl rfl rfl rfl (fun H locs hB => ?_)
    refine lv_aload_n hx hb dX12_go_153 rfl (lv_at hl 0 rfl) ?_
    refine lv_dup hx hb dX12_go_154 rfl ?_
    refine z_getI hc hB 11 4 (by rw [eh4]; exact g3) (by decide) (by decide) rfl (z_l1 hc qfX12_21) dX12_go_155 ?_
    refine lv_iconst (v := (1 : Int32)) hx hb dX12_go_158 (by decide) ?_
    refine lv_iadd hx hb dX12_go_159 ?_
    obtain ⟨h5, eh5, hv⟩ := y_nm_e hv
    refine y_putI hc hB 11 4 eh5 (by rw [eh4]; exact g3) (z_l1 hc qfX12_21) dX12_go_160 (by decide) (by decide) rfl rfl rfl rfl (fun H locs hB => ?_)
    replace hv := Option.some.inj hv
    subst hv
    rw [← kb]
    exact z_vret hc hB hr dX12_go_163
  have b140 : ∀ (x1 : Int32) (s0 : Nat) (h : z_T) (H : Heap) (locs : List Loc) (ls : Array Slot), z_B G ad n0 s h H locs → lv_has ls 4 [(0, .ref (ad o0)), (1, .int x1)] → ∀ w, fX12_go_b140 o0 x1 s0 h = some w → w = h9 → W p l e rm_X12_go s m args below meth c H locs 0 0 (MQ below (z_Qv G ad h9 n0 s.heap.size) args s 0 0 (z_A ad n0 s.heap.size)) (F0 m 140 ls [.ref (ad s0)]) := by
    intro x1 s0 h H locs ls hB hl w hv kb
    refine lv_iconst (v := (3 : Int32)) hx hb dX12_go_140 (by decide) ?_
    refine lv_goto (tgt := 145) hx hb dX12_go_141 (by decide) ?_
    exact b145 x1 s0 (3 : Int32) h _ _ _ hB (lv_sub hl [0, 1] rfl) _ hv kb
  have b144 : ∀ (x1 : Int32) (s0 : Nat) (h : z_T) (H : Heap) (locs : List Loc) (ls : Array Slot), z_B G ad n0 s h H locs → lv_has ls 4 [(0, .ref (ad o0)), (1, .int x1)] → ∀ w, fX12_go_b144 o0 x1 s0 h = some w → w = h9 → W p l e rm_X12_go s m args below meth c H locs 0 0 (MQ below (z_Qv G ad h9 n0 s.heap.size) args s 0 0 (z_A ad n0 s.heap.size)) (F0 m 144 ls [.ref (ad s0)]) := by
    intro x1 s0 h H locs ls hB hl w hv kb
    refine lv_iconst (v := (4 : Int32)) hx hb dX12_go_144 (by decide) ?_
    exact b145 x1 s0 (4 : Int32) h _ _ _ hB (lv_sub hl [0, 1] rfl) _ hv kb
  have b320 : ∀ (s0 : Nat) (h : z_T) (H : Heap) (locs : List Loc) (ls : Array Slot), z_B G ad n0 s h H locs → lv_has ls 4 [] → ∀ w, fX12_go_b320 s0 h = some w → w = h9 → W p l e rm_X12_go s m args below meth c H locs 0 0 (MQ below (z_Qv G ad h9 n0 s.heap.size) args s 0 0 (z_A ad n0 s.heap.size)) (F0 m 320 ls [.ref (ad s0)]) := by
    intro s0 h H locs ls hB hl w hv kb
    refine lv_iconst (v := (4 : Int32)) hx hb dX12_go_320 (by decide) ?_
    refine lv_goto (tgt := 333) hx hb dX12_go_321 (by decide) ?_
    obtain ⟨g6, hv⟩ := y_gd_e hv
    obtain ⟨h7, eh7, hv⟩ := y_nm_e hv
    refine y_putI hc hB 11 11 eh7 g6 (z_l1 hc qfX12_156) dX12_go_333 (by decide) (by decide) rfl rfl rfl rfl (fun H locs hB => ?_)
    replace hv := Option.some.inj hv
    subst hv
    rw [← kb]
    exact z_vret hc hB hr dX12_go_336
  have b317 : ∀ (x2 : Int32) (s0 : Nat) (s1 : Int32) (s2 : Int32) (h : z_T) (H : Heap) (locs : List Loc) (ls : Array Slot), z_B G ad n0 s h H locs → lv_has ls 4 [(2, .int x2)] → ∀ w, fX12_go_b317 x2 s0 s1 s2 h = some w → w = h9 → W p l e rm_X12_go s m args below meth c H locs 0 0 (MQ below (z_Qv G ad h9 n0 s.heap.size) args s 0 0 (z_A ad n0 s.heap.size)) (F0 m 317 ls [.int s2, .int s1, .ref (ad s0)]) := by
    intro x2 s0 s1 s2 h H locs ls hB hl w hv kb
    refine lv_icmp_le (tgt := 324) hx hb dX12_go_317 (by decide) (fun c8 => ?_) (fun c8 => ?_)
    · replace hv := y_br_t hv c8
      refine lv_iload_n hx hb dX12_go_324 rfl (lv_at hl 0 rfl) ?_
      refine lv_if_eq (tgt := 332) hx hb dX12_go_325 (by decide) (fun c9 => ?_) (fun c9 => ?_)
      · replace hv := y_br_t hv c9
        refine lv_iconst (v := (2 : Int32)) hx hb dX12_go_332 (by decide) ?_
        obtain ⟨g10, hv⟩ := y_gd_e hv
        obtain ⟨h11, eh11, hv⟩ := y_nm_e hv
        refine y_putI hc hB 11 11 eh11 g10 (z_l1 hc qfX12_156) dX12_go_333 (by decide) (by decide) rfl rfl rfl rfl (fun H locs hB => ?_)
        replace hv := Option.some.inj hv
        subst hv
        rw [← kb]
        exact z_vret hc hB hr dX12_go_336
      · replace hv := y_br_f hv c9
        refine lv_iconst (v := (1 : Int32)) hx hb dX12_go_328 (by decide) ?_
        refine lv_goto (tgt := 333) hx hb dX12_go_329 (by decide) ?_
        obtain ⟨g12, hv⟩ := y_gd_e hv
        obtain ⟨h13, eh13, hv⟩ := y_nm_e hv
        refine y_putI hc hB 11 11 eh13 g12 (z_l1 hc qfX12_156) dX12_go_333 (by decide) (by decide) rfl rfl rfl rfl (fun H locs hB => ?_)
        replace hv := Option.some.inj hv
        subst hv
        rw [← kb]
        exact z_vret hc hB hr dX12_go_336
    · replace hv := y_br_f hv c8
      exact b320 s0 h _ _ _ hB (lv_sub hl [] rfl) _ hv kb
  have L181 : ∀ (x2 : Int32) (nn181 : Nat) (x3 : Int32) (h : z_T) (H : Heap) (locs : List Loc) (ls : Array Slot), z_B G ad n0 s h H locs → lv_has ls 4 [(0, .ref (ad o0)), (2, .int x2), (3, .int x3)] → ∀ vv181, y_lpN (fun q : Int32 × z_T => fX12_go_b181_i o0 x2 q.1 q.2) nn181 (x3, h) = some vv181 → vv181 = h9 → W p l e rm_X12_go s m args below meth c H locs 0 0 (MQ below (z_Qv G ad h9 n0 s.heap.size) args s 0 0 (z_A ad n0 s.heap.size)) (F0 m 181 ls []) := by
    intro x2 nn181
    induction nn181 with
    | zero => intro x3 h H locs ls hB hl vv181 hv kv181; exact absurd hv (fun q => y_lpN_0 q)
    | succ nn181 ih181 =>
      intro x3 h H locs ls hB hl vv181 hv kv181
      obtain ⟨w, hq, kw181⟩ := y_lpN_e hv
      clear hv
      have hv : fX12_go_b181_i o0 x2 x3 h = some w := hq
      clear hq
      have b275 : ∀ (x3 : Int32) (h : z_T) (H : Heap) (locs : List Loc) (ls : Array Slot), z_B G ad n0 s h H locs → lv_has ls 4 [(0, .ref (ad o0)), (2, .int x2), (3, .int x3)] → ∀ w, fX12_go_b275 o0 x2 x3 h = some w → y_lq (fun q : Int32 × z_T => fX12_go_b181_i o0 x2 q.1 q.2) nn181 vv181 w → W p l e rm_X12_go s m args below meth c H locs 0 0 (MQ below (z_Qv G ad h9 n0 s.heap.size) args s 0 0 (z_A ad n0 s.heap.size)) (F0 m 275 ls []) := by
        intro x3 h H locs ls hB hl w hv kw181
        refine lv_aload_n hx hb dX12_go_275 rfl (lv_at hl 0 rfl) ?_
        refine lv_dup hx hb dX12_go_276 rfl ?_
        obtain ⟨g14, hv⟩ := y_gd_e hv
        refine z_getI hc hB 11 13 g14 (by decide) (by decide) rfl (z_l1 hc qfX12_153) dX12_go_277 ?_
        refine lv_iconst (v := (1 : Int32)) hx hb dX12_go_280 (by decide) ?_
        refine lv_iadd hx hb dX12_go_281 ?_
        obtain ⟨h15, eh15, hv⟩ := y_nm_e hv
        refine y_putI hc hB 11 13 eh15 g14 (z_l1 hc qfX12_153) dX12_go_282 (by decide) (by decide) rfl rfl rfl rfl (fun H locs hB => ?_)
        refine lv_aload_n hx hb dX12_go_285 rfl (lv_at hl 0 rfl) ?_
        refine lv_dup hx hb dX12_go_286 rfl ?_
        refine z_getI hc hB 11 4 (by rw [eh15]; exact g14) (by decide) (by decide) rfl (z_l1 hc qfX12_21) dX12_go_287 ?_
        refine lv_iconst (v := (1 : Int32)) hx hb dX12_go_290 (by decide) ?_
        refine lv_iadd hx hb dX12_go_291 ?_
        obtain ⟨h16, eh16, hv⟩ := y_nm_e hv
        refine y_putI hc hB 11 4 eh16 (by rw [eh15]; exact g14) (z_l1 hc qfX12_21) dX12_go_292 (by decide) (by decide) rfl rfl rfl rfl (fun H locs hB => ?_)
        refine lv_goto (tgt := 181) hx hb dX12_go_295 (by decide) ?_
        replace hv := Option.some.inj hv
        subst hv
        exact ih181 x3 h16 _ _ _ hB (lv_sub hl [0, 1, 2] rfl) _ kw181 kv181
      have b248 : ∀ (x3 : Int32) (h : z_T) (H : Heap) (locs : List Loc) (ls : Array Slot), z_B G ad n0 s h H locs → lv_has ls 4 [(0, .ref (ad o0)), (2, .int x2), (3, .int x3)] → ∀ w, fX12_go_b248 o0 x2 x3 h = some w → y_lq (fun q : Int32 × z_T => fX12_go_b181_i o0 x2 q.1 q.2) nn181 vv181 w → W p l e rm_X12_go s m args below meth c H locs 0 0 (MQ below (z_Qv G ad h9 n0 s.heap.size) args s 0 0 (z_A ad n0 s.heap.size)) (F0 m 248 ls []) := by
        intro x3 h H locs ls hB hl w hv kw181
        refine lv_aload_n hx hb dX12_go_248 rfl (lv_at hl 0 rfl) ?_
        obtain ⟨g17, hv⟩ := y_gd_e hv
        refine z_getI hc hB 11 13 g17 (by decide) (by decide) rfl (z_l1 hc qfX12_153) dX12_go_249 ?_
        refine lv_iconst (v := (2 : Int32)) hx hb dX12_go_252 (by decide) ?_
        refine lv_icmp_ge (tgt := 275) hx hb dX12_go_253 (by decide) (fun c18 => ?_) (fun c18 => ?_)
        · replace hv := y_br_t hv c18
          exact b275 x3 h _ _ _ hB (lv_sub hl [0, 1, 2] rfl) _ hv kw181
        · replace hv := y_br_f hv c18
          refine lv_aload_n hx hb dX12_go_256 rfl (lv_at hl 0 rfl) ?_
          refine lv_bipush (v := (10 : Int32)) hx hb dX12_go_257 (by decide) ?_
          refine lv_aload_n hx hb dX12_go_259 rfl (lv_at hl 0 rfl) ?_
          refine z_getI hc hB 11 14 g17 (by decide) (by decide) rfl (z_l1 hc qfX12_166) dX12_go_260 ?_
          refine lv_imul hx hb dX12_go_263 ?_
          refine lv_aload_n hx hb dX12_go_264 rfl (lv_at hl 0 rfl) ?_
          obtain ⟨r20, c19, hv⟩ := y_bi_e hv
          refine z_thI hc hB (z_runV hc hB 11 (mm_X12_peek hSK l ad o0 h c19) md_X12_peek qmX12_146 g17 (by decide) rfl rfl rfl ⟨Nat.le_of_ble_eq_true rfl, Nat.le_of_ble_eq_true rfl⟩ rfl hl.1 rfl (Nat.le_of_ble_eq_true rfl) dX12_go_265 ⟨Nat.le_of_ble_eq_true rfl, Nat.le_of_ble_eq_true rfl⟩) (fun H locs hB => ?_)
          refine lv_iadd hx hb dX12_go_268 ?_
          refine lv_bipush (v := (48 : Int32)) hx hb dX12_go_269 (by decide) ?_
          refine lv_isub hx hb dX12_go_271 ?_
          obtain ⟨h24, eh24, hv⟩ := y_nm_e hv
          refine y_putI hc hB 11 14 eh24 g17 (z_l1 hc qfX12_166) dX12_go_272 (by decide) (by decide) rfl rfl rfl rfl (fun H locs hB => ?_)
          exact b275 x3 h24 _ _ _ hB (lv_sub hl [0, 1, 2] rfl) _ hv kw181
      have b221 : ∀ (s0 : Int32) (h : z_T) (H : Heap) (locs : List Loc) (ls : Array Slot), z_B G ad n0 s h H locs → lv_has ls 4 [(0, .ref (ad o0)), (2, .int x2)] → ∀ w, fX12_go_b221 o0 x2 s0 h = some w → y_lq (fun q : Int32 × z_T => fX12_go_b181_i o0 x2 q.1 q.2) nn181 vv181 w → W p l e rm_X12_go s m args below meth c H locs 0 0 (MQ below (z_Qv G ad h9 n0 s.heap.size) args s 0 0 (z_A ad n0 s.heap.size)) (F0 m 221 ls [.int s0]) := by
        intro s0 h H locs ls hB hl w hv kw181
        refine lv_istore_n (lv' := [(3, .int s0), (0, .ref (ad o0)), (2, .int x2)]) hx hb dX12_go_221 rfl hl (by decide) rfl (fun ls hl => ?_)
        refine lv_aload_n hx hb dX12_go_222 rfl (lv_at hl 1 rfl) ?_
        obtain ⟨g25, hv⟩ := y_gd_e hv
        refine z_getI hc hB 11 13 g25 (by decide) (by decide) rfl (z_l1 hc qfX12_153) dX12_go_223 ?_
        refine lv_bipush (v := (7 : Int32)) hx hb dX12_go_226 (by decide) ?_
        refine lv_icmp_ge (tgt := 248) hx hb dX12_go_228 (by decide) (fun c26 => ?_) (fun c26 => ?_)
        · replace hv := y_br_t hv c26
          exact b248 s0 h _ _ _ hB (lv_sub hl [1, 2, 0] rfl) _ hv kw181
        · replace hv := y_br_f hv c26
          refine lv_aload_n hx hb dX12_go_231 rfl (lv_at hl 1 rfl) ?_
          refine lv_aload_n hx hb dX12_go_232 rfl (lv_at hl 1 rfl) ?_
          refine z_getL hc hB 11 17 g25 (by decide) (by decide) rfl (z_l1 hc qfX12_169) dX12_go_233 ?_
          refine lv_bipush (v := (8 : Int32)) hx hb dX12_go_236 (by decide) ?_
          refine lv_lshl hx hb dX12_go_238 rfl ?_
          refine lv_aload_n hx hb dX12_go_239 rfl (lv_at hl 1 rfl) ?_
          obtain ⟨r28, c27, hv⟩ := y_bi_e hv
          refine z_thI hc hB (z_runV hc hB 11 (mm_X12_peek hSK l ad o0 h c27) md_X12_peek qmX12_146 g25 (by decide) rfl rfl rfl ⟨Nat.le_of_ble_eq_true rfl, Nat.le_of_ble_eq_true rfl⟩ rfl hl.1 rfl (Nat.le_of_ble_eq_true rfl) dX12_go_240 ⟨Nat.le_of_ble_eq_true rfl, Nat.le_of_ble_eq_true rfl⟩) (fun H locs hB => ?_)
          refine lv_i2l hx hb dX12_go_243 rfl ?_
          refine lv_lor hx hb dX12_go_244 ?_
          obtain ⟨h32, eh32, hv⟩ := y_nm_e hv
          refine y_putL hc hB 11 17 eh32 g25 (z_l1 hc qfX12_169) dX12_go_245 (by decide) (by decide) rfl rfl rfl rfl (fun H locs hB => ?_)
          exact b248 s0 h32 _ _ _ hB (lv_sub hl [1, 2, 0] rfl) _ hv kw181
      have b220 : ∀ (h : z_T) (H : Heap) (locs : List Loc) (ls : Array Slot), z_B G ad n0 s h H locs → lv_has ls 4 [(0, .ref (ad o0)), (2, .int x2)] → ∀ w, fX12_go_b220 o0 x2 h = some w → y_lq (fun q : Int32 × z_T => fX12_go_b181_i o0 x2 q.1 q.2) nn181 vv181 w → W p l e rm_X12_go s m args below meth c H locs 0 0 (MQ below (z_Qv G ad h9 n0 s.heap.size) args s 0 0 (z_A ad n0 s.heap.size)) (F0 m 220 ls []) := by
        intro h H locs ls hB hl w hv kw181
        refine lv_iconst (v := (0 : Int32)) hx hb dX12_go_220 (by decide) ?_
        exact b221 (0 : Int32) h _ _ _ hB (lv_sub hl [0, 1] rfl) _ hv kw181
      have b201 : ∀ (x3 : Int32) (h : z_T) (H : Heap) (locs : List Loc) (ls : Array Slot), z_B G ad n0 s h H locs → lv_has ls 4 [(0, .ref (ad o0)), (2, .int x2), (3, .int x3)] → ∀ w, fX12_go_b201 o0 x2 x3 h = some w → y_lq (fun q : Int32 × z_T => fX12_go_b181_i o0 x2 q.1 q.2) nn181 vv181 w → W p l e rm_X12_go s m args below meth c H locs 0 0 (MQ below (z_Qv G ad h9 n0 s.heap.size) args s 0 0 (z_A ad n0 s.heap.size)) (F0 m 201 ls []) := by
        intro x3 h H locs ls hB hl w hv kw181
        refine lv_iload_n hx hb dX12_go_201 rfl (lv_at hl 2 rfl) ?_
        refine lv_if_eq (tgt := 220) hx hb dX12_go_202 (by decide) (fun c33 => ?_) (fun c33 => ?_)
        · replace hv := y_br_t hv c33
          exact b220 h _ _ _ hB (lv_sub hl [0, 1] rfl) _ hv kw181
        · replace hv := y_br_f hv c33
          refine lv_aload_n hx hb dX12_go_205 rfl (lv_at hl 0 rfl) ?_
          obtain ⟨g39, hv⟩ := y_gd_e hv
          obtain ⟨r35, c34, hv⟩ := y_bi_e hv
          refine z_thI hc hB (z_runV hc hB 11 (mm_X12_peek hSK l ad o0 h c34) md_X12_peek qmX12_146 g39 (by decide) rfl rfl rfl ⟨Nat.le_of_ble_eq_true rfl, Nat.le_of_ble_eq_true rfl⟩ rfl hl.1 rfl (Nat.le_of_ble_eq_true rfl) dX12_go_206 ⟨Nat.le_of_ble_eq_true rfl, Nat.le_of_ble_eq_true rfl⟩) (fun H locs hB => ?_)
          obtain ⟨r41, c40, hv⟩ := y_bi_e hv
          refine z_thI hc hB (z_runS hc hB (mm_X12_isSmall hSK l ad r35 h c40) md_X12_isSmall qmX12_159 rfl rfl ⟨Nat.le_of_ble_eq_true rfl, Nat.le_of_ble_eq_true rfl⟩ rfl hl.1 rfl (Nat.le_of_ble_eq_true rfl) dX12_go_209 ⟨Nat.le_of_ble_eq_true rfl, Nat.le_of_ble_eq_true rfl⟩) (fun H locs hB => ?_)
          refine lv_iload_n hx hb dX12_go_212 rfl (lv_at hl 1 rfl) ?_
          refine lv_icmp_ne (tgt := 220) hx hb dX12_go_213 (by decide) (fun c45 => ?_) (fun c45 => ?_)
          · replace hv := y_br_f hv c45
            exact b220 h _ _ _ hB (lv_sub hl [0, 1] rfl) _ hv kw181
          · replace hv := y_br_t hv c45
            refine lv_iconst (v := (1 : Int32)) hx hb dX12_go_216 (by decide) ?_
            refine lv_goto (tgt := 221) hx hb dX12_go_217 (by decide) ?_
            exact b221 (1 : Int32) h _ _ _ hB (lv_sub hl [0, 1] rfl) _ hv kw181
      refine lv_aload_n hx hb dX12_go_181 rfl (lv_at hl 0 rfl) ?_
      obtain ⟨g51, hv⟩ := y_gd_e hv
      obtain ⟨r47, c46, hv⟩ := y_bi_e hv
      refine z_thI hc hB (z_runV hc hB 11 (mm_X12_peek hSK l ad o0 h c46) md_X12_peek qmX12_146 g51 (by decide) rfl rfl rfl ⟨Nat.le_of_ble_eq_true rfl, Nat.le_of_ble_eq_true rfl⟩ rfl hl.1 rfl (Nat.le_of_ble_eq_true rfl) dX12_go_182 ⟨Nat.le_of_ble_eq_true rfl, Nat.le_of_ble_eq_true rfl⟩) (fun H locs hB => ?_)
      obtain ⟨r53, c52, hv⟩ := y_bi_e hv
      refine z_thI hc hB (z_runS hc hB (mm_X12_isSmall hSK l ad r47 h c52) md_X12_isSmall qmX12_159 rfl rfl ⟨Nat.le_of_ble_eq_true rfl, Nat.le_of_ble_eq_true rfl⟩ rfl hl.1 rfl (Nat.le_of_ble_eq_true rfl) dX12_go_185 ⟨Nat.le_of_ble_eq_true rfl, Nat.le_of_ble_eq_true rfl⟩) (fun H locs hB => ?_)
      refine lv_if_ne (tgt := 201) hx hb dX12_go_188 (by decide) (fun c57 => ?_) (fun c57 => ?_)
      · replace hv := y_br_f hv c57
        exact b201 x3 h _ _ _ hB (lv_sub hl [0, 1, 2] rfl) _ hv kw181
      · replace hv := y_br_t hv c57
        refine lv_aload_n hx hb dX12_go_191 rfl (lv_at hl 0 rfl) ?_
        obtain ⟨r59, c58, hv⟩ := y_bi_e hv
        refine z_thI hc hB (z_runV hc hB 11 (mm_X12_peek hSK l ad o0 h c58) md_X12_peek qmX12_146 g51 (by decide) rfl rfl rfl ⟨Nat.le_of_ble_eq_true rfl, Nat.le_of_ble_eq_true rfl⟩ rfl hl.1 rfl (Nat.le_of_ble_eq_true rfl) dX12_go_192 ⟨Nat.le_of_ble_eq_true rfl, Nat.le_of_ble_eq_true rfl⟩) (fun H locs hB => ?_)
        obtain ⟨r64, c63, hv⟩ := y_bi_e hv
        refine z_thI hc hB (z_runS hc hB (mm_X12_isDigit hSK l ad r59 h c63) md_X12_isDigit qmX12_163 rfl rfl ⟨Nat.le_of_ble_eq_true rfl, Nat.le_of_ble_eq_true rfl⟩ rfl hl.1 rfl (Nat.le_of_ble_eq_true rfl) dX12_go_195 ⟨Nat.le_of_ble_eq_true rfl, Nat.le_of_ble_eq_true rfl⟩) (fun H locs hB => ?_)
        refine lv_if_eq (tgt := 298) hx hb dX12_go_198 (by decide) (fun c68 => ?_) (fun c68 => ?_)
        · replace hv := y_br_t hv c68
          obtain ⟨t69, hq, ew⟩ := y_mp_e hv
          clear hv; subst ew
          replace kw181 : t69 = _ := kw181
          subst kw181
          have hv := hq
          clear hq
          refine lv_aload_n hx hb dX12_go_298 rfl (lv_at hl 0 rfl) ?_
          refine lv_iload_n hx hb dX12_go_299 rfl (lv_at hl 2 rfl) ?_
          refine lv_if_eq (tgt := 320) hx hb dX12_go_300 (by decide) (fun c70 => ?_) (fun c70 => ?_)
          · replace hv := y_br_t hv c70
            exact b320 o0 h _ _ _ hB (lv_sub hl [] rfl) _ hv kv181
          · replace hv := y_br_f hv c70
            refine lv_aload_n hx hb dX12_go_303 rfl (lv_at hl 0 rfl) ?_
            refine z_getI hc hB 11 13 g51 (by decide) (by decide) rfl (z_l1 hc qfX12_153) dX12_go_304 ?_
            refine lv_iload_n hx hb dX12_go_307 rfl (lv_at hl 1 rfl) ?_
            refine lv_if_eq (tgt := 316) hx hb dX12_go_308 (by decide) (fun c71 => ?_) (fun c71 => ?_)
            · replace hv := y_br_t hv c71
              refine lv_iconst (v := (2 : Int32)) hx hb dX12_go_316 (by decide) ?_
              exact b317 x2 o0 (z_I h o0 13) (2 : Int32) h _ _ _ hB (lv_sub hl [1] rfl) _ hv kv181
            · replace hv := y_br_f hv c71
              refine lv_bipush (v := (7 : Int32)) hx hb dX12_go_311 (by decide) ?_
              refine lv_goto (tgt := 317) hx hb dX12_go_313 (by decide) ?_
              exact b317 x2 o0 (z_I h o0 13) (7 : Int32) h _ _ _ hB (lv_sub hl [1] rfl) _ hv kv181
        · replace hv := y_br_f hv c68
          exact b201 x3 h _ _ _ hB (lv_sub hl [0, 1, 2] rfl) _ hv kw181
  have b164 : ∀ (x1 : Int32) (h : z_T) (H : Heap) (locs : List Loc) (ls : Array Slot), z_B G ad n0 s h H locs → lv_has ls 4 [(0, .ref (ad o0)), (1, .int x1)] → ∀ w, fX12_go_b164 o0 x1 h = some w → w = h9 → W p l e rm_X12_go s m args below meth c H locs 0 0 (MQ below (z_Qv G ad h9 n0 s.heap.size) args s 0 0 (z_A ad n0 s.heap.size)) (F0 m 164 ls []) := by
    intro x1 h H locs ls hB hl w hv kb
    refine lv_iload_n hx hb dX12_go_164 rfl (lv_at hl 1 rfl) ?_
    obtain ⟨r73, c72, hv⟩ := y_bi_e hv
    refine z_thI hc hB (z_runS hc hB (mm_X12_isSmall hSK l ad x1 h c72) md_X12_isSmall qmX12_159 rfl rfl ⟨Nat.le_of_ble_eq_true rfl, Nat.le_of_ble_eq_true rfl⟩ rfl hl.1 rfl (Nat.le_of_ble_eq_true rfl) dX12_go_165 ⟨Nat.le_of_ble_eq_true rfl, Nat.le_of_ble_eq_true rfl⟩) (fun H locs hB => ?_)
    refine lv_istore_n (lv' := [(2, .int r73), (0, .ref (ad o0)), (1, .int x1)]) hx hb dX12_go_168 rfl hl (by decide) rfl (fun ls hl => ?_)
    refine lv_iconst (v := (1 : Int32)) hx hb dX12_go_169 (by decide) ?_
    refine lv_istore_n (lv' := [(3, .int (1 : Int32)), (2, .int r73), (0, .ref (ad o0)), (1, .int x1)]) hx hb dX12_go_170 rfl hl (by decide) rfl (fun ls hl => ?_)
    refine lv_aload_n hx hb dX12_go_171 rfl (lv_at hl 2 rfl) ?_
    refine lv_lconst (v := (0 : Int64)) hx hb dX12_go_172 (by decide) ?_
    obtain ⟨g77, hv⟩ := y_gd_e hv
    obtain ⟨h78, eh78, hv⟩ := y_nm_e hv
    refine y_putL hc hB 11 17 eh78 g77 (z_l1 hc qfX12_169) dX12_go_173 (by decide) (by decide) rfl rfl rfl rfl (fun H locs hB => ?_)
    refine lv_aload_n hx hb dX12_go_176 rfl (lv_at hl 2 rfl) ?_
    refine lv_iconst (v := (0 : Int32)) hx hb dX12_go_177 (by decide) ?_
    obtain ⟨h79, eh79, hv⟩ := y_nm_e hv
    refine y_putI hc hB 11 14 eh79 (by rw [eh78]; exact g77) (z_l1 hc qfX12_166) dX12_go_178 (by decide) (by decide) rfl rfl rfl rfl (fun H locs hB => ?_)
    obtain ⟨n, hv⟩ := y_lp_e hv
    exact L181 r73 n (1 : Int32) h79 _ _ _ hB (lv_sub hl [2, 1, 0] rfl) _ hv kb
  have b80 : ∀ (h : z_T) (H : Heap) (locs : List Loc) (ls : Array Slot), z_B G ad n0 s h H locs → lv_has ls 4 [(0, .ref (ad o0))] → ∀ w, fX12_go_b80 o0 h = some w → w = h9 → W p l e rm_X12_go s m args below meth c H locs 0 0 (MQ below (z_Qv G ad h9 n0 s.heap.size) args s 0 0 (z_A ad n0 s.heap.size)) (F0 m 80 ls []) := by
    intro h H locs ls hB hl w hv kb
    refine lv_aload_n hx hb dX12_go_80 rfl (lv_at hl 0 rfl) ?_
    obtain ⟨g85, hv⟩ := y_gd_e hv
    obtain ⟨r81, c80, hv⟩ := y_bi_e hv
    refine z_thI hc hB (z_runV hc hB 11 (mm_X12_peek hSK l ad o0 h c80) md_X12_peek qmX12_146 g85 (by decide) rfl rfl rfl ⟨Nat.le_of_ble_eq_true rfl, Nat.le_of_ble_eq_true rfl⟩ rfl hl.1 rfl (Nat.le_of_ble_eq_true rfl) dX12_go_81 ⟨Nat.le_of_ble_eq_true rfl, Nat.le_of_ble_eq_true rfl⟩) (fun H locs hB => ?_)
    refine lv_istore_n (lv' := [(1, .int r81), (0, .ref (ad o0))]) hx hb dX12_go_84 rfl hl (by decide) rfl (fun ls hl => ?_)
    refine lv_iload_n hx hb dX12_go_85 rfl (lv_at hl 0 rfl) ?_
    refine lv_if_ge (tgt := 95) hx hb dX12_go_86 (by decide) (fun c86 => ?_) (fun c86 => ?_)
    · replace hv := y_br_t hv c86
      refine lv_iload_n hx hb dX12_go_95 rfl (lv_at hl 0 rfl) ?_
      obtain ⟨r88, c87, hv⟩ := y_bi_e hv
      refine z_thI hc hB (z_runS hc hB (mm_X12_isSmall hSK l ad r81 h c87) md_X12_isSmall qmX12_159 rfl rfl ⟨Nat.le_of_ble_eq_true rfl, Nat.le_of_ble_eq_true rfl⟩ rfl hl.1 rfl (Nat.le_of_ble_eq_true rfl) dX12_go_96 ⟨Nat.le_of_ble_eq_true rfl, Nat.le_of_ble_eq_true rfl⟩) (fun H locs hB => ?_)
      refine lv_if_ne (tgt := 164) hx hb dX12_go_99 (by decide) (fun c92 => ?_) (fun c92 => ?_)
      · replace hv := y_br_f hv c92
        exact b164 r81 h _ _ _ hB (lv_sub hl [1, 0] rfl) _ hv kb
      · replace hv := y_br_t hv c92
        refine lv_iload_n hx hb dX12_go_102 rfl (lv_at hl 0 rfl) ?_
        obtain ⟨r94, c93, hv⟩ := y_bi_e hv
        refine z_thI hc hB (z_runS hc hB (mm_X12_isDigit hSK l ad r81 h c93) md_X12_isDigit qmX12_163 rfl rfl ⟨Nat.le_of_ble_eq_true rfl, Nat.le_of_ble_eq_true rfl⟩ rfl hl.1 rfl (Nat.le_of_ble_eq_true rfl) dX12_go_103 ⟨Nat.le_of_ble_eq_true rfl, Nat.le_of_ble_eq_true rfl⟩) (fun H locs hB => ?_)
        refine lv_if_ne (tgt := 164) hx hb dX12_go_106 (by decide) (fun c98 => ?_) (fun c98 => ?_)
        · replace hv := y_br_f hv c98
          exact b164 r81 h _ _ _ hB (lv_sub hl [1, 0] rfl) _ hv kb
        · replace hv := y_br_t hv c98
          refine lv_aload_n hx hb dX12_go_109 rfl (lv_at hl 1 rfl) ?_
          refine lv_iload_n hx hb dX12_go_110 rfl (lv_at hl 0 rfl) ?_
          refine lv_bipush (v := (59 : Int32)) hx hb dX12_go_111 (by decide) ?_
          refine lv_icmp_eq (tgt := 140) hx hb dX12_go_113 (by decide) (fun c99 => ?_) (fun c99 => ?_)
          · replace hv := y_br_t hv c99
            exact b140 r81 o0 h _ _ _ hB (lv_sub hl [1, 0] rfl) _ hv kb
          · replace hv := y_br_f hv c99
            refine lv_iload_n hx hb dX12_go_116 rfl (lv_at hl 0 rfl) ?_
            refine lv_bipush (v := (40 : Int32)) hx hb dX12_go_117 (by decide) ?_
            refine lv_icmp_eq (tgt := 140) hx hb dX12_go_119 (by decide) (fun c100 => ?_) (fun c100 => ?_)
            · replace hv := y_br_t hv c100
              exact b140 r81 o0 h _ _ _ hB (lv_sub hl [1, 0] rfl) _ hv kb
            · replace hv := y_br_f hv c100
              refine lv_iload_n hx hb dX12_go_122 rfl (lv_at hl 0 rfl) ?_
              refine lv_bipush (v := (41 : Int32)) hx hb dX12_go_123 (by decide) ?_
              refine lv_icmp_eq (tgt := 140) hx hb dX12_go_125 (by decide) (fun c101 => ?_) (fun c101 => ?_)
              · replace hv := y_br_t hv c101
                exact b140 r81 o0 h _ _ _ hB (lv_sub hl [1, 0] rfl) _ hv kb
              · replace hv := y_br_f hv c101
                refine lv_iload_n hx hb dX12_go_128 rfl (lv_at hl 0 rfl) ?_
                refine lv_bipush (v := (60 : Int32)) hx hb dX12_go_129 (by decide) ?_
                refine lv_icmp_lt (tgt := 144) hx hb dX12_go_131 (by decide) (fun c102 => ?_) (fun c102 => ?_)
                · replace hv := y_br_t hv c102
                  exact b144 r81 o0 h _ _ _ hB (lv_sub hl [1, 0] rfl) _ hv kb
                · replace hv := y_br_f hv c102
                  refine lv_iload_n hx hb dX12_go_134 rfl (lv_at hl 0 rfl) ?_
                  refine lv_bipush (v := (62 : Int32)) hx hb dX12_go_135 (by decide) ?_
                  refine lv_icmp_gt (tgt := 144) hx hb dX12_go_137 (by decide) (fun c103 => ?_) (fun c103 => ?_)
                  · replace hv := y_br_t hv c103
                    exact b144 r81 o0 h _ _ _ hB (lv_sub hl [1, 0] rfl) _ hv kb
                  · replace hv := y_br_f hv c103
                    exact b140 r81 o0 h _ _ _ hB (lv_sub hl [1, 0] rfl) _ hv kb
    · replace hv := y_br_f hv c86
      refine lv_aload_n hx hb dX12_go_89 rfl (lv_at hl 1 rfl) ?_
      refine lv_iconst (v := (0 : Int32)) hx hb dX12_go_90 (by decide) ?_
      obtain ⟨h104, eh104, hv⟩ := y_nm_e hv
      refine y_putI hc hB 11 11 eh104 g85 (z_l1 hc qfX12_156) dX12_go_91 (by decide) (by decide) rfl rfl rfl rfl (fun H locs hB => ?_)
      replace hv := Option.some.inj hv
      subst hv
      rw [← kb]
      exact z_vret hc hB hr dX12_go_94
  have L0 : ∀ (nn0 : Nat) (h : z_T) (H : Heap) (locs : List Loc) (ls : Array Slot), z_B G ad n0 s h H locs → lv_has ls 4 [(0, .ref (ad o0))] → ∀ vv0, y_lpN (fun q : z_T => fX12_go_b0_i o0 q) nn0 (h) = some vv0 → vv0 = h9 → W p l e rm_X12_go s m args below meth c H locs 0 0 (MQ below (z_Qv G ad h9 n0 s.heap.size) args s 0 0 (z_A ad n0 s.heap.size)) (F0 m 0 ls []) := by
    intro nn0
    induction nn0 with
    | zero => intro h H locs ls hB hl vv0 hv kv0; exact absurd hv (fun q => y_lpN_0 q)
    | succ nn0 ih0 =>
      intro h H locs ls hB hl vv0 hv kv0
      obtain ⟨w, hq, kw0⟩ := y_lpN_e hv
      clear hv
      have hv : fX12_go_b0_i o0 h = some w := hq
      clear hq
      have b18 : ∀ (h : z_T) (H : Heap) (locs : List Loc) (ls : Array Slot), z_B G ad n0 s h H locs → lv_has ls 4 [(0, .ref (ad o0))] → ∀ w, fX12_go_b18 o0 h = some w → y_lq (fun q : z_T => fX12_go_b0_i o0 q) nn0 vv0 w → W p l e rm_X12_go s m args below meth c H locs 0 0 (MQ below (z_Qv G ad h9 n0 s.heap.size) args s 0 0 (z_A ad n0 s.heap.size)) (F0 m 18 ls []) := by
        intro h H locs ls hB hl w hv kw0
        refine lv_aload_n hx hb dX12_go_18 rfl (lv_at hl 0 rfl) ?_
        refine lv_dup hx hb dX12_go_19 rfl ?_
        obtain ⟨g105, hv⟩ := y_gd_e hv
        refine z_getI hc hB 11 4 g105 (by decide) (by decide) rfl (z_l1 hc qfX12_21) dX12_go_20 ?_
        refine lv_iconst (v := (1 : Int32)) hx hb dX12_go_23 (by decide) ?_
        refine lv_iadd hx hb dX12_go_24 ?_
        obtain ⟨h106, eh106, hv⟩ := y_nm_e hv
        refine y_putI hc hB 11 4 eh106 g105 (z_l1 hc qfX12_21) dX12_go_25 (by decide) (by decide) rfl rfl rfl rfl (fun H locs hB => ?_)
        refine lv_goto (tgt := 0) hx hb dX12_go_28 (by decide) ?_
        replace hv := Option.some.inj hv
        subst hv
        exact ih0 h106 _ _ _ hB (lv_sub hl [0] rfl) _ kw0 kv0
      refine lv_aload_n hx hb dX12_go_0 rfl (lv_at hl 0 rfl) ?_
      obtain ⟨g112, hv⟩ := y_gd_e hv
      obtain ⟨r108, c107, hv⟩ := y_bi_e hv
      refine z_thI hc hB (z_runV hc hB 11 (mm_X12_peek hSK l ad o0 h c107) md_X12_peek qmX12_146 g112 (by decide) rfl rfl rfl ⟨Nat.le_of_ble_eq_true rfl, Nat.le_of_ble_eq_true rfl⟩ rfl hl.1 rfl (Nat.le_of_ble_eq_true rfl) dX12_go_1 ⟨Nat.le_of_ble_eq_true rfl, Nat.le_of_ble_eq_true rfl⟩) (fun H locs hB => ?_)
      refine lv_bipush (v := (32 : Int32)) hx hb dX12_go_4 (by decide) ?_
      refine lv_icmp_eq (tgt := 18) hx hb dX12_go_6 (by decide) (fun c113 => ?_) (fun c113 => ?_)
      · replace hv := y_br_t hv c113
        exact b18 h _ _ _ hB (lv_sub hl [0] rfl) _ hv kw0
      · replace hv := y_br_f hv c113
        refine lv_aload_n hx hb dX12_go_9 rfl (lv_at hl 0 rfl) ?_
        obtain ⟨r115, c114, hv⟩ := y_bi_e hv
        refine z_thI hc hB (z_runV hc hB 11 (mm_X12_peek hSK l ad o0 h c114) md_X12_peek qmX12_146 g112 (by decide) rfl rfl rfl ⟨Nat.le_of_ble_eq_true rfl, Nat.le_of_ble_eq_true rfl⟩ rfl hl.1 rfl (Nat.le_of_ble_eq_true rfl) dX12_go_10 ⟨Nat.le_of_ble_eq_true rfl, Nat.le_of_ble_eq_true rfl⟩) (fun H locs hB => ?_)
        refine lv_bipush (v := (10 : Int32)) hx hb dX12_go_13 (by decide) ?_
        refine lv_icmp_ne (tgt := 31) hx hb dX12_go_15 (by decide) (fun c119 => ?_) (fun c119 => ?_)
        · replace hv := y_br_f hv c119
          obtain ⟨t120, hq, ew⟩ := y_mp_e hv
          clear hv; subst ew
          replace kw0 : t120 = _ := kw0
          subst kw0
          have hv := hq
          clear hq
          refine lv_aload_n hx hb dX12_go_31 rfl (lv_at hl 0 rfl) ?_
          refine lv_aload_n hx hb dX12_go_32 rfl (lv_at hl 0 rfl) ?_
          refine z_getI hc hB 11 4 g112 (by decide) (by decide) rfl (z_l1 hc qfX12_21) dX12_go_33 ?_
          obtain ⟨h121, eh121, hv⟩ := y_nm_e hv
          refine y_putI hc hB 11 12 eh121 g112 (z_l1 hc qfX12_150) dX12_go_36 (by decide) (by decide) rfl rfl rfl rfl (fun H locs hB => ?_)
          refine lv_aload_n hx hb dX12_go_39 rfl (lv_at hl 0 rfl) ?_
          refine lv_iconst (v := (0 : Int32)) hx hb dX12_go_40 (by decide) ?_
          obtain ⟨h122, eh122, hv⟩ := y_nm_e hv
          refine y_putI hc hB 11 13 eh122 (by rw [eh121]; exact g112) (z_l1 hc qfX12_153) dX12_go_41 (by decide) (by decide) rfl rfl rfl rfl (fun H locs hB => ?_)
          refine lv_aload_n hx hb dX12_go_44 rfl (lv_at hl 0 rfl) ?_
          refine z_getI hc hB 11 3 (by rw [eh122, eh121]; exact g112) (by decide) (by decide) rfl (z_l1 hc qfX12_18) dX12_go_45 ?_
          refine lv_aload_n hx hb dX12_go_48 rfl (lv_at hl 0 rfl) ?_
          refine z_getI hc hB 11 5 (by rw [eh122, eh121]; exact g112) (by decide) (by decide) rfl (z_l1 hc qfX12_24) dX12_go_49 ?_
          refine lv_icmp_le (tgt := 80) hx hb dX12_go_52 (by decide) (fun c123 => ?_) (fun c123 => ?_)
          · replace hv := y_br_t hv c123
            exact b80 h122 _ _ _ hB (lv_sub hl [0] rfl) _ hv kv0
          · replace hv := y_br_f hv c123
            refine lv_aload_n hx hb dX12_go_55 rfl (lv_at hl 0 rfl) ?_
            refine z_getI hc hB 11 4 (by rw [eh122, eh121]; exact g112) (by decide) (by decide) rfl (z_l1 hc qfX12_21) dX12_go_56 ?_
            refine lv_aload_n hx hb dX12_go_59 rfl (lv_at hl 0 rfl) ?_
            refine z_getI hc hB 11 5 (by rw [eh122, eh121]; exact g112) (by decide) (by decide) rfl (z_l1 hc qfX12_24) dX12_go_60 ?_
            refine lv_icmp_lt (tgt := 80) hx hb dX12_go_63 (by decide) (fun c124 => ?_) (fun c124 => ?_)
            · replace hv := y_br_t hv c124
              exact b80 h122 _ _ _ hB (lv_sub hl [0] rfl) _ hv kv0
            · replace hv := y_br_f hv c124
              refine lv_aload_n hx hb dX12_go_66 rfl (lv_at hl 0 rfl) ?_
              refine lv_aload_n hx hb dX12_go_67 rfl (lv_at hl 0 rfl) ?_
              refine z_getI hc hB 11 5 (by rw [eh122, eh121]; exact g112) (by decide) (by decide) rfl (z_l1 hc qfX12_24) dX12_go_68 ?_
              obtain ⟨h125, eh125, hv⟩ := y_nm_e hv
              refine y_putI hc hB 11 12 eh125 (by rw [eh122, eh121]; exact g112) (z_l1 hc qfX12_150) dX12_go_71 (by decide) (by decide) rfl rfl rfl rfl (fun H locs hB => ?_)
              refine lv_aload_n hx hb dX12_go_74 rfl (lv_at hl 0 rfl) ?_
              refine lv_iconst (v := (4 : Int32)) hx hb dX12_go_75 (by decide) ?_
              obtain ⟨h126, eh126, hv⟩ := y_nm_e hv
              refine y_putI hc hB 11 11 eh126 (by rw [eh125, eh122, eh121]; exact g112) (z_l1 hc qfX12_156) dX12_go_76 (by decide) (by decide) rfl rfl rfl rfl (fun H locs hB => ?_)
              replace hv := Option.some.inj hv
              subst hv
              rw [← kv0]
              exact z_vret hc hB hr dX12_go_79
        · replace hv := y_br_t hv c119
          exact b18 h _ _ _ hB (lv_sub hl [0] rfl) _ hv kw0
  rw [← kt] at hv
  obtain ⟨n, hv⟩ := y_lp_e hv
  exact L0 n h _ _ _ hB (lv_sub hl [0] rfl) _ hv kt
theorem qfX12_173 : Cond.fieldLink RX12 173 "DreamTestsModel" "fault" "I" ∈ z_ws := List.mem_filter.mpr ⟨List.mem_append_right _ (List.mem_of_getElem? (i := 1315) (by decide +kernel)), rfl⟩
theorem qfX12_176 : Cond.fieldLink RX12 176 "DreamTestsModel" "faultAt" "I" ∈ z_ws := List.mem_filter.mpr ⟨List.mem_append_right _ (List.mem_of_getElem? (i := 1316) (by decide +kernel)), rfl⟩
theorem dX12_bad_0 : decode cX12_bad 0 = .ok (.aload_n 0, 1) := by decide +kernel
theorem dX12_bad_1 : decode cX12_bad 1 = .ok (.iload_n 1, 1) := by decide +kernel
theorem dX12_bad_2 : decode cX12_bad 2 = .ok (.putfield 173, 3) := by decide +kernel
theorem dX12_bad_5 : decode cX12_bad 5 = .ok (.aload_n 0, 1) := by decide +kernel
theorem dX12_bad_6 : decode cX12_bad 6 = .ok (.aload_n 0, 1) := by decide +kernel
theorem dX12_bad_7 : decode cX12_bad 7 = .ok (.getfield 150, 3) := by decide +kernel
theorem dX12_bad_10 : decode cX12_bad 10 = .ok (.putfield 176, 3) := by decide +kernel
theorem dX12_bad_13 : decode cX12_bad 13 = .ok (.iconst 0, 1) := by decide +kernel
theorem dX12_bad_14 : decode cX12_bad 14 = .ok (.ireturn, 1) := by decide +kernel
abbrev rm_X12_bad : Room := { frames := 0, cells := 0, slots := 0, locals := 0 }
noncomputable def fX12_bad (o0 : Nat) (x1 : Int32) (h : z_T) : Option (Int32 × z_T) :=
  y_gd (z_ok h o0 11) <|
  y_nm (z_sI h o0 15 x1) fun h2 =>
  y_nm (z_sI h2 o0 16 (z_I h2 o0 12)) fun h3 =>
  some ((0 : Int32), h3)
set_option maxHeartbeats 4000000 in
set_option maxRecDepth 100000 in
theorem mm_X12_bad {G : z_Gt} {S : State → Prop} (hSK : z_SK S) (l : Launch) (ad : Nat → Nat) (o0 : Nat) (x1 : Int32) (h : z_T) {r0 : Int32} {h9 : z_T} (hv : fX12_bad o0 x1 h = some (r0, h9)) : z_Mi G S l yX12_bad cX12_bad 2 (.boolean) rm_X12_bad 0 0 [.ref (ad o0), .int x1] ad h h9 r0 := by
  refine z_ofW hSK (by decide) (Nat.le_of_ble_eq_true rfl) ?_
  intro p e s m args below meth c ls hc hr hnm hB hl
  have hx := hc.1.1
  have hb := hc.1.2.1
  have hown := hc.1.2.2.2.1
  have hts := hc.1.2.2.2.2
  replace hc : z_C G S ad (z_n h) p m c cX12_bad 2 s args RX12 meth := hc
  replace hown : s.vm.findClass RX12 = some m.cls := hown
  replace hl : lv_has ls 2 [(0, .ref (ad o0)), (1, .int x1)] := hl
  show W p l e rm_X12_bad s m args below meth c s.heap [] 0 0 (MQ below (z_Qi G ad h9 (z_n h) s.heap.size r0) args s 0 0 (z_A ad (z_n h) s.heap.size)) (F0 m 0 ls [])
  obtain ⟨rs, kt⟩ : ∃ rs : Int32 × z_T, rs = (r0, h9) := ⟨_, rfl⟩
  generalize hn0 : z_n h = n0 at hc hB ⊢
  rw [← kt] at hv
  refine lv_aload_n hx hb dX12_bad_0 rfl (lv_at hl 0 rfl) ?_
  refine lv_iload_n hx hb dX12_bad_1 rfl (lv_at hl 1 rfl) ?_
  obtain ⟨g1, hv⟩ := y_gd_e hv
  obtain ⟨h2, eh2, hv⟩ := y_nm_e hv
  refine y_putI hc hB 11 15 eh2 g1 (z_l1 hc qfX12_173) dX12_bad_2 (by decide) (by decide) rfl rfl rfl rfl (fun H locs hB => ?_)
  refine lv_aload_n hx hb dX12_bad_5 rfl (lv_at hl 0 rfl) ?_
  refine lv_aload_n hx hb dX12_bad_6 rfl (lv_at hl 0 rfl) ?_
  refine z_getI hc hB 11 12 (by rw [eh2]; exact g1) (by decide) (by decide) rfl (z_l1 hc qfX12_150) dX12_bad_7 ?_
  obtain ⟨h3, eh3, hv⟩ := y_nm_e hv
  refine y_putI hc hB 11 16 eh3 (by rw [eh2]; exact g1) (z_l1 hc qfX12_176) dX12_bad_10 (by decide) (by decide) rfl rfl rfl rfl (fun H locs hB => ?_)
  refine lv_iconst (v := (0 : Int32)) hx hb dX12_bad_13 (by decide) ?_
  replace hv := Option.some.inj hv
  subst hv
  obtain ⟨e1, e2⟩ := y_pr kt
  rw [← e1, ← e2]
  exact z_zret hc hB hr rfl dX12_bad_14
theorem dX12_isWord_0 : decode cX12_isWord 0 = .ok (.aload_n 0, 1) := by decide +kernel
theorem dX12_isWord_1 : decode cX12_isWord 1 = .ok (.getfield 156, 3) := by decide +kernel
theorem dX12_isWord_4 : decode cX12_isWord 4 = .ok (.iconst 1, 1) := by decide +kernel
theorem dX12_isWord_5 : decode cX12_isWord 5 = .ok (.if_icmp .ne 16, 3) := by decide +kernel
theorem dX12_isWord_8 : decode cX12_isWord 8 = .ok (.aload_n 0, 1) := by decide +kernel
theorem dX12_isWord_9 : decode cX12_isWord 9 = .ok (.getfield 169, 3) := by decide +kernel
theorem dX12_isWord_12 : decode cX12_isWord 12 = .ok (.lload_n 1, 1) := by decide +kernel
theorem dX12_isWord_13 : decode cX12_isWord 13 = .ok (.lcmp, 1) := by decide +kernel
theorem dX12_isWord_14 : decode cX12_isWord 14 = .ok (.ifCond .ne 7, 3) := by decide +kernel
theorem dX12_isWord_17 : decode cX12_isWord 17 = .ok (.iconst 1, 1) := by decide +kernel
theorem dX12_isWord_18 : decode cX12_isWord 18 = .ok (.goto 4, 3) := by decide +kernel
theorem dX12_isWord_21 : decode cX12_isWord 21 = .ok (.iconst 0, 1) := by decide +kernel
theorem dX12_isWord_22 : decode cX12_isWord 22 = .ok (.ireturn, 1) := by decide +kernel
abbrev rm_X12_isWord : Room := { frames := 0, cells := 0, slots := 0, locals := 0 }
noncomputable def fX12_isWord_b21  (h : z_T) : Option (Int32) :=
  some (0 : Int32)
noncomputable def fX12_isWord (o0 : Nat) (l1 : Int64) (h : z_T) : Option (Int32) :=
  y_gd (z_ok h o0 11) <|
  y_br ((z_I h o0 11) = (1 : Int32))
    (y_br ((lg_cmp (z_L h o0 17) l1) = 0)
      (some (1 : Int32))
      (fX12_isWord_b21 h))
    (fX12_isWord_b21 h)
set_option maxHeartbeats 4000000 in
set_option maxRecDepth 100000 in
theorem mm_X12_isWord {G : z_Gt} {S : State → Prop} (hSK : z_SK S) (l : Launch) (ad : Nat → Nat) (o0 : Nat) (l1 : Int64) (h : z_T) {r0 : Int32} (hv : fX12_isWord o0 l1 h = some r0) : z_Mi G S l yX12_isWord cX12_isWord 3 (.boolean) rm_X12_isWord 0 0 [.ref (ad o0), .long l1] ad h h r0 := by
  refine z_ofW hSK (by decide) (Nat.le_of_ble_eq_true rfl) ?_
  intro p e s m args below meth c ls hc hr hnm hB hl
  have hx := hc.1.1
  have hb := hc.1.2.1
  have hown := hc.1.2.2.2.1
  have hts := hc.1.2.2.2.2
  replace hc : z_C G S ad (z_n h) p m c cX12_isWord 3 s args RX12 meth := hc
  replace hown : s.vm.findClass RX12 = some m.cls := hown
  replace hl : lv_has ls 3 [(0, .ref (ad o0)), (1, .long l1)] := hl
  show W p l e rm_X12_isWord s m args below meth c s.heap [] 0 0 (MQ below (z_Qi G ad h (z_n h) s.heap.size r0) args s 0 0 (z_A ad (z_n h) s.heap.size)) (F0 m 0 ls [])
  obtain ⟨rs, kt⟩ : ∃ rs : Int32, rs = r0 := ⟨_, rfl⟩
  generalize hn0 : z_n h = n0 at hc hB ⊢
  have b21 : ∀ (H : Heap) (locs : List Loc) (ls : Array Slot), z_B G ad n0 s h H locs → lv_has ls 3 [] → ∀ w, fX12_isWord_b21 h = some w → w = r0 → W p l e rm_X12_isWord s m args below meth c H locs 0 0 (MQ below (z_Qi G ad h n0 s.heap.size r0) args s 0 0 (z_A ad n0 s.heap.size)) (F0 m 21 ls []) := by
    intro H locs ls hB hl w hv kb
    refine lv_iconst (v := (0 : Int32)) hx hb dX12_isWord_21 (by decide) ?_
    replace hv := Option.some.inj hv
    subst hv
    rw [← kb]
    exact z_zret hc hB hr rfl dX12_isWord_22
  rw [← kt] at hv
  refine lv_aload_n hx hb dX12_isWord_0 rfl (lv_at hl 0 rfl) ?_
  obtain ⟨g1, hv⟩ := y_gd_e hv
  refine z_getI hc hB 11 11 g1 (by decide) (by decide) rfl (z_l1 hc qfX12_156) dX12_isWord_1 ?_
  refine lv_iconst (v := (1 : Int32)) hx hb dX12_isWord_4 (by decide) ?_
  refine lv_icmp_ne (tgt := 21) hx hb dX12_isWord_5 (by decide) (fun c2 => ?_) (fun c2 => ?_)
  · replace hv := y_br_f hv c2
    exact b21 _ _ _ hB (lv_sub hl [] rfl) _ hv kt
  · replace hv := y_br_t hv c2
    refine lv_aload_n hx hb dX12_isWord_8 rfl (lv_at hl 0 rfl) ?_
    refine z_getL hc hB 11 17 g1 (by decide) (by decide) rfl (z_l1 hc qfX12_169) dX12_isWord_9 ?_
    refine lv_lload_n hx hb dX12_isWord_12 rfl (lv_at hl 1 rfl) ?_
    refine W.lcmp hx hb dX12_isWord_13 ?_
    refine lv_if_ne (tgt := 21) hx hb dX12_isWord_14 (by decide) (fun c3 => ?_) (fun c3 => ?_)
    · replace hv := y_br_f hv c3
      exact b21 _ _ _ hB (lv_sub hl [] rfl) _ hv kt
    · replace hv := y_br_t hv c3
      refine lv_iconst (v := (1 : Int32)) hx hb dX12_isWord_17 (by decide) ?_
      refine lv_goto (tgt := 22) hx hb dX12_isWord_18 (by decide) ?_
      replace hv := Option.some.inj hv
      subst hv
      rw [← kt]
      exact z_zret hc hB hr rfl dX12_isWord_22
theorem dX12_isSign_0 : decode cX12_isSign 0 = .ok (.aload_n 0, 1) := by decide +kernel
theorem dX12_isSign_1 : decode cX12_isSign 1 = .ok (.getfield 156, 3) := by decide +kernel
theorem dX12_isSign_4 : decode cX12_isSign 4 = .ok (.iconst 3, 1) := by decide +kernel
theorem dX12_isSign_5 : decode cX12_isSign 5 = .ok (.if_icmp .ne 15, 3) := by decide +kernel
theorem dX12_isSign_8 : decode cX12_isSign 8 = .ok (.aload_n 0, 1) := by decide +kernel
theorem dX12_isSign_9 : decode cX12_isSign 9 = .ok (.getfield 166, 3) := by decide +kernel
theorem dX12_isSign_12 : decode cX12_isSign 12 = .ok (.iload_n 1, 1) := by decide +kernel
theorem dX12_isSign_13 : decode cX12_isSign 13 = .ok (.if_icmp .ne 7, 3) := by decide +kernel
theorem dX12_isSign_16 : decode cX12_isSign 16 = .ok (.iconst 1, 1) := by decide +kernel
theorem dX12_isSign_17 : decode cX12_isSign 17 = .ok (.goto 4, 3) := by decide +kernel
theorem dX12_isSign_20 : decode cX12_isSign 20 = .ok (.iconst 0, 1) := by decide +kernel
theorem dX12_isSign_21 : decode cX12_isSign 21 = .ok (.ireturn, 1) := by decide +kernel
abbrev rm_X12_isSign : Room := { frames := 0, cells := 0, slots := 0, locals := 0 }
noncomputable def fX12_isSign_b20  (h : z_T) : Option (Int32) :=
  some (0 : Int32)
noncomputable def fX12_isSign (o0 : Nat) (x1 : Int32) (h : z_T) : Option (Int32) :=
  y_gd (z_ok h o0 11) <|
  y_br ((z_I h o0 11) = (3 : Int32))
    (y_br ((z_I h o0 14) = x1)
      (some (1 : Int32))
      (fX12_isSign_b20 h))
    (fX12_isSign_b20 h)
set_option maxHeartbeats 4000000 in
set_option maxRecDepth 100000 in
theorem mm_X12_isSign {G : z_Gt} {S : State → Prop} (hSK : z_SK S) (l : Launch) (ad : Nat → Nat) (o0 : Nat) (x1 : Int32) (h : z_T) {r0 : Int32} (hv : fX12_isSign o0 x1 h = some r0) : z_Mi G S l yX12_isSign cX12_isSign 2 (.boolean) rm_X12_isSign 0 0 [.ref (ad o0), .int x1] ad h h r0 := by
  refine z_ofW hSK (by decide) (Nat.le_of_ble_eq_true rfl) ?_
  intro p e s m args below meth c ls hc hr hnm hB hl
  have hx := hc.1.1
  have hb := hc.1.2.1
  have hown := hc.1.2.2.2.1
  have hts := hc.1.2.2.2.2
  replace hc : z_C G S ad (z_n h) p m c cX12_isSign 2 s args RX12 meth := hc
  replace hown : s.vm.findClass RX12 = some m.cls := hown
  replace hl : lv_has ls 2 [(0, .ref (ad o0)), (1, .int x1)] := hl
  show W p l e rm_X12_isSign s m args below meth c s.heap [] 0 0 (MQ below (z_Qi G ad h (z_n h) s.heap.size r0) args s 0 0 (z_A ad (z_n h) s.heap.size)) (F0 m 0 ls [])
  obtain ⟨rs, kt⟩ : ∃ rs : Int32, rs = r0 := ⟨_, rfl⟩
  generalize hn0 : z_n h = n0 at hc hB ⊢
  have b20 : ∀ (H : Heap) (locs : List Loc) (ls : Array Slot), z_B G ad n0 s h H locs → lv_has ls 2 [] → ∀ w, fX12_isSign_b20 h = some w → w = r0 → W p l e rm_X12_isSign s m args below meth c H locs 0 0 (MQ below (z_Qi G ad h n0 s.heap.size r0) args s 0 0 (z_A ad n0 s.heap.size)) (F0 m 20 ls []) := by
    intro H locs ls hB hl w hv kb
    refine lv_iconst (v := (0 : Int32)) hx hb dX12_isSign_20 (by decide) ?_
    replace hv := Option.some.inj hv
    subst hv
    rw [← kb]
    exact z_zret hc hB hr rfl dX12_isSign_21
  rw [← kt] at hv
  refine lv_aload_n hx hb dX12_isSign_0 rfl (lv_at hl 0 rfl) ?_
  obtain ⟨g1, hv⟩ := y_gd_e hv
  refine z_getI hc hB 11 11 g1 (by decide) (by decide) rfl (z_l1 hc qfX12_156) dX12_isSign_1 ?_
  refine lv_iconst (v := (3 : Int32)) hx hb dX12_isSign_4 (by decide) ?_
  refine lv_icmp_ne (tgt := 20) hx hb dX12_isSign_5 (by decide) (fun c2 => ?_) (fun c2 => ?_)
  · replace hv := y_br_f hv c2
    exact b20 _ _ _ hB (lv_sub hl [] rfl) _ hv kt
  · replace hv := y_br_t hv c2
    refine lv_aload_n hx hb dX12_isSign_8 rfl (lv_at hl 0 rfl) ?_
    refine z_getI hc hB 11 14 g1 (by decide) (by decide) rfl (z_l1 hc qfX12_166) dX12_isSign_9 ?_
    refine lv_iload_n hx hb dX12_isSign_12 rfl (lv_at hl 1 rfl) ?_
    refine lv_icmp_ne (tgt := 20) hx hb dX12_isSign_13 (by decide) (fun c3 => ?_) (fun c3 => ?_)
    · replace hv := y_br_f hv c3
      exact b20 _ _ _ hB (lv_sub hl [] rfl) _ hv kt
    · replace hv := y_br_t hv c3
      refine lv_iconst (v := (1 : Int32)) hx hb dX12_isSign_16 (by decide) ?_
      refine lv_goto (tgt := 21) hx hb dX12_isSign_17 (by decide) ?_
      replace hv := Option.some.inj hv
      subst hv
      rw [← kt]
      exact z_zret hc hB hr rfl dX12_isSign_21
theorem qmX12_179 : Cond.methodLink RX12 179 yX12_isSign ∈ z_ws := List.mem_filter.mpr ⟨List.mem_append_right _ (List.mem_of_getElem? (i := 1536) (by decide +kernel)), rfl⟩
theorem qc_X12_isSign : Cond.code yX12_isSign cX12_isSign 2 (some .boolean) ∈ z_ws := List.mem_filter.mpr ⟨List.mem_append_right _ (List.mem_of_getElem? (i := 1539) (by decide +kernel)), rfl⟩
theorem qi_X12_isSign : Cond.instanceMethod yX12_isSign ∈ z_ws := List.mem_filter.mpr ⟨List.mem_append_right _ (List.mem_of_getElem? (i := 1538) (by decide +kernel)), rfl⟩
theorem qs_X12_isSign : Cond.selects RX12 yX12_isSign yX12_isSign ∈ z_ws := List.mem_filter.mpr ⟨List.mem_append_left _ (List.mem_of_getElem? (i := 46) (by decide +kernel)), rfl⟩
theorem md_X12_isSign : z_mdV yX12_isSign cX12_isSign 2 (some .boolean) 1 := ⟨⟨qn_RX12, qc_X12_isSign, ⟨by decide +kernel, by decide +kernel, by decide +kernel⟩⟩, qi_X12_isSign, qs_X12_isSign⟩
theorem qmX12_185 : Cond.methodLink RX12 185 yX12_go ∈ z_ws := List.mem_filter.mpr ⟨List.mem_append_right _ (List.mem_of_getElem? (i := 1480) (by decide +kernel)), rfl⟩
theorem qc_X12_go : Cond.code yX12_go cX12_go 4 none ∈ z_ws := List.mem_filter.mpr ⟨List.mem_append_right _ (List.mem_of_getElem? (i := 1483) (by decide +kernel)), rfl⟩
theorem qi_X12_go : Cond.instanceMethod yX12_go ∈ z_ws := List.mem_filter.mpr ⟨List.mem_append_right _ (List.mem_of_getElem? (i := 1482) (by decide +kernel)), rfl⟩
theorem qs_X12_go : Cond.selects RX12 yX12_go yX12_go ∈ z_ws := List.mem_filter.mpr ⟨List.mem_append_left _ (List.mem_of_getElem? (i := 35) (by decide +kernel)), rfl⟩
theorem md_X12_go : z_mdV yX12_go cX12_go 4 none 0 := ⟨⟨qn_RX12, qc_X12_go, ⟨by decide +kernel, by decide +kernel, by decide +kernel⟩⟩, qi_X12_go, qs_X12_go⟩
theorem qmX12_182 : Cond.methodLink RX12 182 yX12_bad ∈ z_ws := List.mem_filter.mpr ⟨List.mem_append_right _ (List.mem_of_getElem? (i := 1513) (by decide +kernel)), rfl⟩
theorem qc_X12_bad : Cond.code yX12_bad cX12_bad 2 (some .boolean) ∈ z_ws := List.mem_filter.mpr ⟨List.mem_append_right _ (List.mem_of_getElem? (i := 1516) (by decide +kernel)), rfl⟩
theorem qi_X12_bad : Cond.instanceMethod yX12_bad ∈ z_ws := List.mem_filter.mpr ⟨List.mem_append_right _ (List.mem_of_getElem? (i := 1515) (by decide +kernel)), rfl⟩
theorem qs_X12_bad : Cond.selects RX12 yX12_bad yX12_bad ∈ z_ws := List.mem_filter.mpr ⟨List.mem_append_left _ (List.mem_of_getElem? (i := 41) (by decide +kernel)), rfl⟩
theorem md_X12_bad : z_mdV yX12_bad cX12_bad 2 (some .boolean) 1 := ⟨⟨qn_RX12, qc_X12_bad, ⟨by decide +kernel, by decide +kernel, by decide +kernel⟩⟩, qi_X12_bad, qs_X12_bad⟩
theorem dX12_sign_0 : decode cX12_sign 0 = .ok (.aload_n 0, 1) := by decide +kernel
theorem dX12_sign_1 : decode cX12_sign 1 = .ok (.iload_n 1, 1) := by decide +kernel
theorem dX12_sign_2 : decode cX12_sign 2 = .ok (.invokevirtual 179, 3) := by decide +kernel
theorem dX12_sign_5 : decode cX12_sign 5 = .ok (.ifCond .ne 9, 3) := by decide +kernel
theorem dX12_sign_8 : decode cX12_sign 8 = .ok (.aload_n 0, 1) := by decide +kernel
theorem dX12_sign_9 : decode cX12_sign 9 = .ok (.iconst 1, 1) := by decide +kernel
theorem dX12_sign_10 : decode cX12_sign 10 = .ok (.invokevirtual 182, 3) := by decide +kernel
theorem dX12_sign_13 : decode cX12_sign 13 = .ok (.ireturn, 1) := by decide +kernel
theorem dX12_sign_14 : decode cX12_sign 14 = .ok (.aload_n 0, 1) := by decide +kernel
theorem dX12_sign_15 : decode cX12_sign 15 = .ok (.invokevirtual 185, 3) := by decide +kernel
theorem dX12_sign_18 : decode cX12_sign 18 = .ok (.iconst 1, 1) := by decide +kernel
theorem dX12_sign_19 : decode cX12_sign 19 = .ok (.ireturn, 1) := by decide +kernel
abbrev rm_X12_sign : Room := { frames := 2, cells := 0, slots := 0, locals := 43 }
noncomputable def fX12_sign (o0 : Nat) (x1 : Int32) (h : z_T) : Option (Int32 × z_T) :=
  y_gd (z_ok h o0 11) <|
  y_bi (fX12_isSign o0 x1 h) fun r2 =>
  y_br (r2 = 0)
    (y_bi (fX12_bad o0 (1 : Int32) h) fun ⟨r11, h15⟩ =>
    y_gd (y_b r11) <|
    some (r11, h15))
    (y_bi (fX12_go o0 h) fun h9 =>
    some ((1 : Int32), h9))
set_option maxHeartbeats 4000000 in
set_option maxRecDepth 100000 in
theorem mm_X12_sign {G : z_Gt} {S : State → Prop} (hSK : z_SK S) (l : Launch) (ad : Nat → Nat) (o0 : Nat) (x1 : Int32) (h : z_T) {r0 : Int32} {h9 : z_T} (hv : fX12_sign o0 x1 h = some (r0, h9)) : z_Mi G S l yX12_sign cX12_sign 2 (.boolean) rm_X12_sign 0 0 [.ref (ad o0), .int x1] ad h h9 r0 := by
  refine z_ofW hSK (by decide) (Nat.le_of_ble_eq_true rfl) ?_
  intro p e s m args below meth c ls hc hr hnm hB hl
  have hx := hc.1.1
  have hb := hc.1.2.1
  have hown := hc.1.2.2.2.1
  have hts := hc.1.2.2.2.2
  replace hc : z_C G S ad (z_n h) p m c cX12_sign 2 s args RX12 meth := hc
  replace hown : s.vm.findClass RX12 = some m.cls := hown
  replace hl : lv_has ls 2 [(0, .ref (ad o0)), (1, .int x1)] := hl
  show W p l e rm_X12_sign s m args below meth c s.heap [] 0 0 (MQ below (z_Qi G ad h9 (z_n h) s.heap.size r0) args s 0 0 (z_A ad (z_n h) s.heap.size)) (F0 m 0 ls [])
  obtain ⟨rs, kt⟩ : ∃ rs : Int32 × z_T, rs = (r0, h9) := ⟨_, rfl⟩
  generalize hn0 : z_n h = n0 at hc hB ⊢
  rw [← kt] at hv
  refine lv_aload_n hx hb dX12_sign_0 rfl (lv_at hl 0 rfl) ?_
  refine lv_iload_n hx hb dX12_sign_1 rfl (lv_at hl 1 rfl) ?_
  obtain ⟨g6, hv⟩ := y_gd_e hv
  obtain ⟨r2, c1, hv⟩ := y_bi_e hv
  refine z_thI hc hB (z_runV hc hB 11 (mm_X12_isSign hSK l ad o0 x1 h c1) md_X12_isSign qmX12_179 g6 (by decide) rfl rfl rfl ⟨Nat.le_of_ble_eq_true rfl, Nat.le_of_ble_eq_true rfl⟩ rfl hl.1 rfl (Nat.le_of_ble_eq_true rfl) dX12_sign_2 ⟨Nat.le_of_ble_eq_true rfl, Nat.le_of_ble_eq_true rfl⟩) (fun H locs hB => ?_)
  refine lv_if_ne (tgt := 14) hx hb dX12_sign_5 (by decide) (fun c7 => ?_) (fun c7 => ?_)
  · replace hv := y_br_f hv c7
    refine lv_aload_n hx hb dX12_sign_14 rfl (lv_at hl 0 rfl) ?_
    obtain ⟨h9, c8, hv⟩ := y_bi_e hv
    refine z_thV hc hB (z_runV hc hB 11 (mm_X12_go hSK l ad o0 h c8) md_X12_go qmX12_185 g6 (by decide) rfl rfl rfl ⟨Nat.le_of_ble_eq_true rfl, Nat.le_of_ble_eq_true rfl⟩ rfl hl.1 rfl (Nat.le_of_ble_eq_true rfl) dX12_sign_15 ⟨Nat.le_of_ble_eq_true rfl, Nat.le_of_ble_eq_true rfl⟩) (fun H locs hB => ?_)
    refine lv_iconst (v := (1 : Int32)) hx hb dX12_sign_18 (by decide) ?_
    replace hv := Option.some.inj hv
    subst hv
    obtain ⟨e1, e2⟩ := y_pr kt
    rw [← e1, ← e2]
    exact z_zret hc hB hr rfl dX12_sign_19
  · replace hv := y_br_t hv c7
    refine lv_aload_n hx hb dX12_sign_8 rfl (lv_at hl 0 rfl) ?_
    refine lv_iconst (v := (1 : Int32)) hx hb dX12_sign_9 (by decide) ?_
    obtain ⟨⟨r11, h15⟩, c10, hv⟩ := y_bi_e hv
    refine z_thI hc hB (z_runV hc hB 11 (mm_X12_bad hSK l ad o0 (1 : Int32) h c10) md_X12_bad qmX12_182 g6 (by decide) rfl rfl rfl ⟨Nat.le_of_ble_eq_true rfl, Nat.le_of_ble_eq_true rfl⟩ rfl hl.1 rfl (Nat.le_of_ble_eq_true rfl) dX12_sign_10 ⟨Nat.le_of_ble_eq_true rfl, Nat.le_of_ble_eq_true rfl⟩) (fun H locs hB => ?_)
    obtain ⟨y16, hv⟩ := y_gd_e hv
    replace hv := Option.some.inj hv
    subst hv
    obtain ⟨e1, e2⟩ := y_pr kt
    rw [← e1, ← e2]
    exact z_zret hc hB hr (y_b_n y16) dX12_sign_13
theorem qfX12_47 : Cond.fieldLink RX12 47 "DreamTestsModel" "reserved" "[J" ∈ z_ws := List.mem_filter.mpr ⟨List.mem_append_right _ (List.mem_of_getElem? (i := 1310) (by decide +kernel)), rfl⟩
theorem dX12_isName_0 : decode cX12_isName 0 = .ok (.aload_n 0, 1) := by decide +kernel
theorem dX12_isName_1 : decode cX12_isName 1 = .ok (.getfield 156, 3) := by decide +kernel
theorem dX12_isName_4 : decode cX12_isName 4 = .ok (.iconst 1, 1) := by decide +kernel
theorem dX12_isName_5 : decode cX12_isName 5 = .ok (.if_icmp .ne 7, 3) := by decide +kernel
theorem dX12_isName_8 : decode cX12_isName 8 = .ok (.iconst 1, 1) := by decide +kernel
theorem dX12_isName_9 : decode cX12_isName 9 = .ok (.goto 4, 3) := by decide +kernel
theorem dX12_isName_12 : decode cX12_isName 12 = .ok (.iconst 0, 1) := by decide +kernel
theorem dX12_isName_13 : decode cX12_isName 13 = .ok (.istore_n 1, 1) := by decide +kernel
theorem dX12_isName_14 : decode cX12_isName 14 = .ok (.iconst 0, 1) := by decide +kernel
theorem dX12_isName_15 : decode cX12_isName 15 = .ok (.istore_n 2, 1) := by decide +kernel
theorem dX12_isName_16 : decode cX12_isName 16 = .ok (.iload_n 2, 1) := by decide +kernel
theorem dX12_isName_17 : decode cX12_isName 17 = .ok (.bipush 22, 2) := by decide +kernel
theorem dX12_isName_19 : decode cX12_isName 19 = .ok (.if_icmp .ge 33, 3) := by decide +kernel
theorem dX12_isName_22 : decode cX12_isName 22 = .ok (.iload_n 1, 1) := by decide +kernel
theorem dX12_isName_23 : decode cX12_isName 23 = .ok (.ifCond .eq 21, 3) := by decide +kernel
theorem dX12_isName_26 : decode cX12_isName 26 = .ok (.aload_n 0, 1) := by decide +kernel
theorem dX12_isName_27 : decode cX12_isName 27 = .ok (.getfield 169, 3) := by decide +kernel
theorem dX12_isName_30 : decode cX12_isName 30 = .ok (.aload_n 0, 1) := by decide +kernel
theorem dX12_isName_31 : decode cX12_isName 31 = .ok (.getfield 47, 3) := by decide +kernel
theorem dX12_isName_34 : decode cX12_isName 34 = .ok (.iload_n 2, 1) := by decide +kernel
theorem dX12_isName_35 : decode cX12_isName 35 = .ok (.laload, 1) := by decide +kernel
theorem dX12_isName_36 : decode cX12_isName 36 = .ok (.lcmp, 1) := by decide +kernel
theorem dX12_isName_37 : decode cX12_isName 37 = .ok (.ifCond .eq 7, 3) := by decide +kernel
theorem dX12_isName_40 : decode cX12_isName 40 = .ok (.iconst 1, 1) := by decide +kernel
theorem dX12_isName_41 : decode cX12_isName 41 = .ok (.goto 4, 3) := by decide +kernel
theorem dX12_isName_44 : decode cX12_isName 44 = .ok (.iconst 0, 1) := by decide +kernel
theorem dX12_isName_45 : decode cX12_isName 45 = .ok (.istore_n 1, 1) := by decide +kernel
theorem dX12_isName_46 : decode cX12_isName 46 = .ok (.iinc 2 1, 3) := by decide +kernel
theorem dX12_isName_49 : decode cX12_isName 49 = .ok (.goto (-33), 3) := by decide +kernel
theorem dX12_isName_52 : decode cX12_isName 52 = .ok (.iload_n 1, 1) := by decide +kernel
theorem dX12_isName_53 : decode cX12_isName 53 = .ok (.ireturn, 1) := by decide +kernel
abbrev rm_X12_isName : Room := { frames := 0, cells := 0, slots := 0, locals := 0 }
noncomputable def fX12_isName_b45 (o0 : Nat) (x2 : Int32) (s0 : Int32) (h : z_T) : Option ((Int32 × Int32) ⊕ (Int32)) :=
  y_nm (x2 + 1) fun v1 =>
  some (.inl (s0, v1))
noncomputable def fX12_isName_b44 (o0 : Nat) (x2 : Int32) (h : z_T) : Option ((Int32 × Int32) ⊕ (Int32)) :=
  fX12_isName_b45 o0 x2 (0 : Int32) h
noncomputable def fX12_isName_b16_i (o0 : Nat) (h : z_T) (x1 : Int32) (x2 : Int32) : Option ((Int32 × Int32) ⊕ (Int32)) :=
  y_br ((22 : Int32) ≤ x2)
    (y_mp <|
    y_gd (y_b x1) <|
    some x1)
    (y_br (x1 = 0)
      (fX12_isName_b44 o0 x2 h)
      (y_gd (z_ok h o0 11) <|
      y_bi (z_R h o0 10) fun o7 =>
      y_gd (z_ok h o7 14) <|
      y_gd (z_ix x2 (z_N h o7)) <|
      y_br ((lg_cmp (z_L h o0 17) (z_L h o7 x2.toNatClampNeg)) = 0)
        (fX12_isName_b44 o0 x2 h)
        (fX12_isName_b45 o0 x2 (1 : Int32) h)))
noncomputable def fX12_isName_b16 (o0 : Nat) (x1 : Int32) (x2 : Int32) (h : z_T) : Option (Int32) := y_lp (fun q : Int32 × Int32 => fX12_isName_b16_i o0 h q.1 q.2) (x1, x2)
noncomputable def fX12_isName_b13 (o0 : Nat) (s0 : Int32) (h : z_T) : Option (Int32) :=
  fX12_isName_b16 o0 s0 (0 : Int32) h
noncomputable def fX12_isName (o0 : Nat) (h : z_T) : Option (Int32) :=
  y_gd (z_ok h o0 11) <|
  y_br ((z_I h o0 11) = (1 : Int32))
    (fX12_isName_b13 o0 (1 : Int32) h)
    (fX12_isName_b13 o0 (0 : Int32) h)
set_option maxHeartbeats 4000000 in
set_option maxRecDepth 100000 in
theorem mm_X12_isName {G : z_Gt} {S : State → Prop} (hSK : z_SK S) (l : Launch) (ad : Nat → Nat) (o0 : Nat) (h : z_T) {r0 : Int32} (hv : fX12_isName o0 h = some r0) : z_Mi G S l yX12_isName cX12_isName 3 (.boolean) rm_X12_isName 0 0 [.ref (ad o0)] ad h h r0 := by
  refine z_ofW hSK (by decide) (Nat.le_of_ble_eq_true rfl) ?_
  intro p e s m args below meth c ls hc hr hnm hB hl
  have hx := hc.1.1
  have hb := hc.1.2.1
  have hown := hc.1.2.2.2.1
  have hts := hc.1.2.2.2.2
  replace hc : z_C G S ad (z_n h) p m c cX12_isName 3 s args RX12 meth := hc
  replace hown : s.vm.findClass RX12 = some m.cls := hown
  replace hl : lv_has ls 3 [(0, .ref (ad o0))] := hl
  show W p l e rm_X12_isName s m args below meth c s.heap [] 0 0 (MQ below (z_Qi G ad h (z_n h) s.heap.size r0) args s 0 0 (z_A ad (z_n h) s.heap.size)) (F0 m 0 ls [])
  obtain ⟨rs, kt⟩ : ∃ rs : Int32, rs = r0 := ⟨_, rfl⟩
  generalize hn0 : z_n h = n0 at hc hB ⊢
  have L16 : ∀ (nn16 : Nat) (x1 : Int32) (x2 : Int32) (H : Heap) (locs : List Loc) (ls : Array Slot), z_B G ad n0 s h H locs → lv_has ls 3 [(0, .ref (ad o0)), (1, .int x1), (2, .int x2)] → ∀ vv16, y_lpN (fun q : Int32 × Int32 => fX12_isName_b16_i o0 h q.1 q.2) nn16 (x1, x2) = some vv16 → vv16 = r0 → W p l e rm_X12_isName s m args below meth c H locs 0 0 (MQ below (z_Qi G ad h n0 s.heap.size r0) args s 0 0 (z_A ad n0 s.heap.size)) (F0 m 16 ls []) := by
    intro nn16
    induction nn16 with
    | zero => intro x1 x2 H locs ls hB hl vv16 hv kv16; exact absurd hv (fun q => y_lpN_0 q)
    | succ nn16 ih16 =>
      intro x1 x2 H locs ls hB hl vv16 hv kv16
      obtain ⟨w, hq, kw16⟩ := y_lpN_e hv
      clear hv
      have hv : fX12_isName_b16_i o0 h x1 x2 = some w := hq
      clear hq
      have b45 : ∀ (x2 : Int32) (s0 : Int32) (H : Heap) (locs : List Loc) (ls : Array Slot), z_B G ad n0 s h H locs → lv_has ls 3 [(0, .ref (ad o0)), (2, .int x2)] → ∀ w, fX12_isName_b45 o0 x2 s0 h = some w → y_lq (fun q : Int32 × Int32 => fX12_isName_b16_i o0 h q.1 q.2) nn16 vv16 w → W p l e rm_X12_isName s m args below meth c H locs 0 0 (MQ below (z_Qi G ad h n0 s.heap.size r0) args s 0 0 (z_A ad n0 s.heap.size)) (F0 m 45 ls [.int s0]) := by
        intro x2 s0 H locs ls hB hl w hv kw16
        refine lv_istore_n (lv' := [(1, .int s0), (0, .ref (ad o0)), (2, .int x2)]) hx hb dX12_isName_45 rfl hl (by decide) rfl (fun ls hl => ?_)
        obtain ⟨v1, ev1, hv⟩ := y_nm_e hv
        refine lv_iinc (v := v1) (lv' := [(2, .int v1), (1, .int s0), (0, .ref (ad o0))]) hx hb dX12_isName_46 hl (k := 2) rfl (by rw [ev1]; rfl) (by decide) rfl (fun ls hl => ?_)
        refine lv_goto (tgt := 16) hx hb dX12_isName_49 (by decide) ?_
        replace hv := Option.some.inj hv
        subst hv
        exact ih16 s0 v1 _ _ _ hB (lv_sub hl [2, 1, 0] rfl) _ kw16 kv16
      have b44 : ∀ (x2 : Int32) (H : Heap) (locs : List Loc) (ls : Array Slot), z_B G ad n0 s h H locs → lv_has ls 3 [(0, .ref (ad o0)), (2, .int x2)] → ∀ w, fX12_isName_b44 o0 x2 h = some w → y_lq (fun q : Int32 × Int32 => fX12_isName_b16_i o0 h q.1 q.2) nn16 vv16 w → W p l e rm_X12_isName s m args below meth c H locs 0 0 (MQ below (z_Qi G ad h n0 s.heap.size r0) args s 0 0 (z_A ad n0 s.heap.size)) (F0 m 44 ls []) := by
        intro x2 H locs ls hB hl w hv kw16
        refine lv_iconst (v := (0 : Int32)) hx hb dX12_isName_44 (by decide) ?_
        exact b45 x2 (0 : Int32) _ _ _ hB (lv_sub hl [0, 1] rfl) _ hv kw16
      refine lv_iload_n hx hb dX12_isName_16 rfl (lv_at hl 2 rfl) ?_
      refine lv_bipush (v := (22 : Int32)) hx hb dX12_isName_17 (by decide) ?_
      refine lv_icmp_ge (tgt := 52) hx hb dX12_isName_19 (by decide) (fun c2 => ?_) (fun c2 => ?_)
      · replace hv := y_br_t hv c2
        obtain ⟨t3, hq, ew⟩ := y_mp_e hv
        clear hv; subst ew
        replace kw16 : t3 = _ := kw16
        subst kw16
        have hv := hq
        clear hq
        refine lv_iload_n hx hb dX12_isName_52 rfl (lv_at hl 1 rfl) ?_
        obtain ⟨y4, hv⟩ := y_gd_e hv
        replace hv := Option.some.inj hv
        subst hv
        rw [← kv16]
        exact z_zret hc hB hr (y_b_n y4) dX12_isName_53
      · replace hv := y_br_f hv c2
        refine lv_iload_n hx hb dX12_isName_22 rfl (lv_at hl 1 rfl) ?_
        refine lv_if_eq (tgt := 44) hx hb dX12_isName_23 (by decide) (fun c5 => ?_) (fun c5 => ?_)
        · replace hv := y_br_t hv c5
          exact b44 x2 _ _ _ hB (lv_sub hl [0, 2] rfl) _ hv kw16
        · replace hv := y_br_f hv c5
          refine lv_aload_n hx hb dX12_isName_26 rfl (lv_at hl 0 rfl) ?_
          obtain ⟨g6, hv⟩ := y_gd_e hv
          refine z_getL hc hB 11 17 g6 (by decide) (by decide) rfl (z_l1 hc qfX12_169) dX12_isName_27 ?_
          refine lv_aload_n hx hb dX12_isName_30 rfl (lv_at hl 0 rfl) ?_
          obtain ⟨o7, eo7, hv⟩ := y_bi_e hv
          refine z_getR hc hB 11 10 g6 eo7 (by decide) (by decide) rfl (z_l1 hc qfX12_47) dX12_isName_31 ?_
          refine lv_iload_n hx hb dX12_isName_34 rfl (lv_at hl 2 rfl) ?_
          obtain ⟨g8, hv⟩ := y_gd_e hv
          obtain ⟨i9, hv⟩ := y_gd_e hv
          refine z_lald hc hB g8 i9 dX12_isName_35 ?_
          refine W.lcmp hx hb dX12_isName_36 ?_
          refine lv_if_eq (tgt := 44) hx hb dX12_isName_37 (by decide) (fun c10 => ?_) (fun c10 => ?_)
          · replace hv := y_br_t hv c10
            exact b44 x2 _ _ _ hB (lv_sub hl [0, 2] rfl) _ hv kw16
          · replace hv := y_br_f hv c10
            refine lv_iconst (v := (1 : Int32)) hx hb dX12_isName_40 (by decide) ?_
            refine lv_goto (tgt := 45) hx hb dX12_isName_41 (by decide) ?_
            exact b45 x2 (1 : Int32) _ _ _ hB (lv_sub hl [0, 2] rfl) _ hv kw16
  have b13 : ∀ (s0 : Int32) (H : Heap) (locs : List Loc) (ls : Array Slot), z_B G ad n0 s h H locs → lv_has ls 3 [(0, .ref (ad o0))] → ∀ w, fX12_isName_b13 o0 s0 h = some w → w = r0 → W p l e rm_X12_isName s m args below meth c H locs 0 0 (MQ below (z_Qi G ad h n0 s.heap.size r0) args s 0 0 (z_A ad n0 s.heap.size)) (F0 m 13 ls [.int s0]) := by
    intro s0 H locs ls hB hl w hv kb
    refine lv_istore_n (lv' := [(1, .int s0), (0, .ref (ad o0))]) hx hb dX12_isName_13 rfl hl (by decide) rfl (fun ls hl => ?_)
    refine lv_iconst (v := (0 : Int32)) hx hb dX12_isName_14 (by decide) ?_
    refine lv_istore_n (lv' := [(2, .int (0 : Int32)), (1, .int s0), (0, .ref (ad o0))]) hx hb dX12_isName_15 rfl hl (by decide) rfl (fun ls hl => ?_)
    obtain ⟨n, hv⟩ := y_lp_e hv
    exact L16 n s0 (0 : Int32) _ _ _ hB (lv_sub hl [2, 1, 0] rfl) _ hv kb
  rw [← kt] at hv
  refine lv_aload_n hx hb dX12_isName_0 rfl (lv_at hl 0 rfl) ?_
  obtain ⟨g11, hv⟩ := y_gd_e hv
  refine z_getI hc hB 11 11 g11 (by decide) (by decide) rfl (z_l1 hc qfX12_156) dX12_isName_1 ?_
  refine lv_iconst (v := (1 : Int32)) hx hb dX12_isName_4 (by decide) ?_
  refine lv_icmp_ne (tgt := 12) hx hb dX12_isName_5 (by decide) (fun c12 => ?_) (fun c12 => ?_)
  · replace hv := y_br_f hv c12
    refine lv_iconst (v := (0 : Int32)) hx hb dX12_isName_12 (by decide) ?_
    exact b13 (0 : Int32) _ _ _ hB (lv_sub hl [0] rfl) _ hv kt
  · replace hv := y_br_t hv c12
    refine lv_iconst (v := (1 : Int32)) hx hb dX12_isName_8 (by decide) ?_
    refine lv_goto (tgt := 13) hx hb dX12_isName_9 (by decide) ?_
    exact b13 (1 : Int32) _ _ _ hB (lv_sub hl [0] rfl) _ hv kt
theorem qmX12_188 : Cond.methodLink RX12 188 yX12_isIn ∈ z_ws := List.mem_filter.mpr ⟨List.mem_append_right _ (List.mem_of_getElem? (i := 1521) (by decide +kernel)), rfl⟩
theorem qc_X12_isIn : Cond.code yX12_isIn cX12_isIn 3 (some .boolean) ∈ z_ws := List.mem_filter.mpr ⟨List.mem_append_right _ (List.mem_of_getElem? (i := 1523) (by decide +kernel)), rfl⟩
theorem qs_X12_isIn : Cond.static yX12_isIn ∈ z_ws := List.mem_filter.mpr ⟨List.mem_append_right _ (List.mem_of_getElem? (i := 1522) (by decide +kernel)), rfl⟩
theorem md_X12_isIn : z_mdS yX12_isIn cX12_isIn 3 (some .boolean) 3 := ⟨⟨qn_RX12, qc_X12_isIn, ⟨by decide +kernel, by decide +kernel, by decide +kernel⟩⟩, qs_X12_isIn⟩
theorem qfX12_192 : Cond.fieldLink RX12 192 "DreamTestsModel" "got" "I" ∈ z_ws := List.mem_filter.mpr ⟨List.mem_append_right _ (List.mem_of_getElem? (i := 1318) (by decide +kernel)), rfl⟩
theorem dX12_takes_0 : decode cX12_takes 0 = .ok (.aload_n 0, 1) := by decide +kernel
theorem dX12_takes_1 : decode cX12_takes 1 = .ok (.getfield 156, 3) := by decide +kernel
theorem dX12_takes_4 : decode cX12_takes 4 = .ok (.iconst 2, 1) := by decide +kernel
theorem dX12_takes_5 : decode cX12_takes 5 = .ok (.if_icmp .eq 9, 3) := by decide +kernel
theorem dX12_takes_8 : decode cX12_takes 8 = .ok (.aload_n 0, 1) := by decide +kernel
theorem dX12_takes_9 : decode cX12_takes 9 = .ok (.iconst 1, 1) := by decide +kernel
theorem dX12_takes_10 : decode cX12_takes 10 = .ok (.invokevirtual 182, 3) := by decide +kernel
theorem dX12_takes_13 : decode cX12_takes 13 = .ok (.ireturn, 1) := by decide +kernel
theorem dX12_takes_14 : decode cX12_takes 14 = .ok (.aload_n 0, 1) := by decide +kernel
theorem dX12_takes_15 : decode cX12_takes 15 = .ok (.getfield 166, 3) := by decide +kernel
theorem dX12_takes_18 : decode cX12_takes 18 = .ok (.iload_n 1, 1) := by decide +kernel
theorem dX12_takes_19 : decode cX12_takes 19 = .ok (.iload_n 2, 1) := by decide +kernel
theorem dX12_takes_20 : decode cX12_takes 20 = .ok (.invokestatic 188, 3) := by decide +kernel
theorem dX12_takes_23 : decode cX12_takes 23 = .ok (.ifCond .ne 9, 3) := by decide +kernel
theorem dX12_takes_26 : decode cX12_takes 26 = .ok (.aload_n 0, 1) := by decide +kernel
theorem dX12_takes_27 : decode cX12_takes 27 = .ok (.iconst 2, 1) := by decide +kernel
theorem dX12_takes_28 : decode cX12_takes 28 = .ok (.invokevirtual 182, 3) := by decide +kernel
theorem dX12_takes_31 : decode cX12_takes 31 = .ok (.ireturn, 1) := by decide +kernel
theorem dX12_takes_32 : decode cX12_takes 32 = .ok (.aload_n 0, 1) := by decide +kernel
theorem dX12_takes_33 : decode cX12_takes 33 = .ok (.aload_n 0, 1) := by decide +kernel
theorem dX12_takes_34 : decode cX12_takes 34 = .ok (.getfield 166, 3) := by decide +kernel
theorem dX12_takes_37 : decode cX12_takes 37 = .ok (.putfield 192, 3) := by decide +kernel
theorem dX12_takes_40 : decode cX12_takes 40 = .ok (.aload_n 0, 1) := by decide +kernel
theorem dX12_takes_41 : decode cX12_takes 41 = .ok (.invokevirtual 185, 3) := by decide +kernel
theorem dX12_takes_44 : decode cX12_takes 44 = .ok (.iconst 1, 1) := by decide +kernel
theorem dX12_takes_45 : decode cX12_takes 45 = .ok (.ireturn, 1) := by decide +kernel
abbrev rm_X12_takes : Room := { frames := 2, cells := 0, slots := 0, locals := 43 }
noncomputable def fX12_takes (o0 : Nat) (x1 : Int32) (x2 : Int32) (h : z_T) : Option (Int32 × z_T) :=
  y_gd (z_ok h o0 11) <|
  y_br ((z_I h o0 11) = (2 : Int32))
    (y_bi (fX12_isIn (z_I h o0 14) x1 x2) fun r4 =>
    y_br (r4 = 0)
      (y_bi (fX12_bad o0 (2 : Int32) h) fun ⟨r13, h17⟩ =>
      y_gd (y_b r13) <|
      some (r13, h17))
      (y_nm (z_sI h o0 18 (z_I h o0 14)) fun h9 =>
      y_bi (fX12_go o0 h9) fun h11 =>
      some ((1 : Int32), h11)))
    (y_bi (fX12_bad o0 (1 : Int32) h) fun ⟨r20, h24⟩ =>
    y_gd (y_b r20) <|
    some (r20, h24))
set_option maxHeartbeats 4000000 in
set_option maxRecDepth 100000 in
theorem mm_X12_takes {G : z_Gt} {S : State → Prop} (hSK : z_SK S) (l : Launch) (ad : Nat → Nat) (o0 : Nat) (x1 : Int32) (x2 : Int32) (h : z_T) {r0 : Int32} {h9 : z_T} (hv : fX12_takes o0 x1 x2 h = some (r0, h9)) : z_Mi G S l yX12_takes cX12_takes 3 (.boolean) rm_X12_takes 0 0 [.ref (ad o0), .int x1, .int x2] ad h h9 r0 := by
  refine z_ofW hSK (by decide) (Nat.le_of_ble_eq_true rfl) ?_
  intro p e s m args below meth c ls hc hr hnm hB hl
  have hx := hc.1.1
  have hb := hc.1.2.1
  have hown := hc.1.2.2.2.1
  have hts := hc.1.2.2.2.2
  replace hc : z_C G S ad (z_n h) p m c cX12_takes 3 s args RX12 meth := hc
  replace hown : s.vm.findClass RX12 = some m.cls := hown
  replace hl : lv_has ls 3 [(0, .ref (ad o0)), (1, .int x1), (2, .int x2)] := hl
  show W p l e rm_X12_takes s m args below meth c s.heap [] 0 0 (MQ below (z_Qi G ad h9 (z_n h) s.heap.size r0) args s 0 0 (z_A ad (z_n h) s.heap.size)) (F0 m 0 ls [])
  obtain ⟨rs, kt⟩ : ∃ rs : Int32 × z_T, rs = (r0, h9) := ⟨_, rfl⟩
  generalize hn0 : z_n h = n0 at hc hB ⊢
  rw [← kt] at hv
  refine lv_aload_n hx hb dX12_takes_0 rfl (lv_at hl 0 rfl) ?_
  obtain ⟨g1, hv⟩ := y_gd_e hv
  refine z_getI hc hB 11 11 g1 (by decide) (by decide) rfl (z_l1 hc qfX12_156) dX12_takes_1 ?_
  refine lv_iconst (v := (2 : Int32)) hx hb dX12_takes_4 (by decide) ?_
  refine lv_icmp_eq (tgt := 14) hx hb dX12_takes_5 (by decide) (fun c2 => ?_) (fun c2 => ?_)
  · replace hv := y_br_t hv c2
    refine lv_aload_n hx hb dX12_takes_14 rfl (lv_at hl 0 rfl) ?_
    refine z_getI hc hB 11 14 g1 (by decide) (by decide) rfl (z_l1 hc qfX12_166) dX12_takes_15 ?_
    refine lv_iload_n hx hb dX12_takes_18 rfl (lv_at hl 1 rfl) ?_
    refine lv_iload_n hx hb dX12_takes_19 rfl (lv_at hl 2 rfl) ?_
    obtain ⟨r4, c3, hv⟩ := y_bi_e hv
    refine z_thI hc hB (z_runS hc hB (mm_X12_isIn hSK l ad (z_I h o0 14) x1 x2 h c3) md_X12_isIn qmX12_188 rfl rfl ⟨Nat.le_of_ble_eq_true rfl, Nat.le_of_ble_eq_true rfl⟩ rfl hl.1 rfl (Nat.le_of_ble_eq_true rfl) dX12_takes_20 ⟨Nat.le_of_ble_eq_true rfl, Nat.le_of_ble_eq_true rfl⟩) (fun H locs hB => ?_)
    refine lv_if_ne (tgt := 32) hx hb dX12_takes_23 (by decide) (fun c8 => ?_) (fun c8 => ?_)
    · replace hv := y_br_f hv c8
      refine lv_aload_n hx hb dX12_takes_32 rfl (lv_at hl 0 rfl) ?_
      refine lv_aload_n hx hb dX12_takes_33 rfl (lv_at hl 0 rfl) ?_
      refine z_getI hc hB 11 14 g1 (by decide) (by decide) rfl (z_l1 hc qfX12_166) dX12_takes_34 ?_
      obtain ⟨h9, eh9, hv⟩ := y_nm_e hv
      refine y_putI hc hB 11 18 eh9 g1 (z_l1 hc qfX12_192) dX12_takes_37 (by decide) (by decide) rfl rfl rfl rfl (fun H locs hB => ?_)
      refine lv_aload_n hx hb dX12_takes_40 rfl (lv_at hl 0 rfl) ?_
      obtain ⟨h11, c10, hv⟩ := y_bi_e hv
      refine z_thV hc hB (z_runV hc hB 11 (mm_X12_go hSK l ad o0 h9 c10) md_X12_go qmX12_185 (by rw [eh9]; exact g1) (by decide) rfl rfl rfl ⟨Nat.le_of_ble_eq_true rfl, Nat.le_of_ble_eq_true rfl⟩ rfl hl.1 rfl (Nat.le_of_ble_eq_true rfl) dX12_takes_41 ⟨Nat.le_of_ble_eq_true rfl, Nat.le_of_ble_eq_true rfl⟩) (fun H locs hB => ?_)
      refine lv_iconst (v := (1 : Int32)) hx hb dX12_takes_44 (by decide) ?_
      replace hv := Option.some.inj hv
      subst hv
      obtain ⟨e1, e2⟩ := y_pr kt
      rw [← e1, ← e2]
      exact z_zret hc hB hr rfl dX12_takes_45
    · replace hv := y_br_t hv c8
      refine lv_aload_n hx hb dX12_takes_26 rfl (lv_at hl 0 rfl) ?_
      refine lv_iconst (v := (2 : Int32)) hx hb dX12_takes_27 (by decide) ?_
      obtain ⟨⟨r13, h17⟩, c12, hv⟩ := y_bi_e hv
      refine z_thI hc hB (z_runV hc hB 11 (mm_X12_bad hSK l ad o0 (2 : Int32) h c12) md_X12_bad qmX12_182 g1 (by decide) rfl rfl rfl ⟨Nat.le_of_ble_eq_true rfl, Nat.le_of_ble_eq_true rfl⟩ rfl hl.1 rfl (Nat.le_of_ble_eq_true rfl) dX12_takes_28 ⟨Nat.le_of_ble_eq_true rfl, Nat.le_of_ble_eq_true rfl⟩) (fun H locs hB => ?_)
      obtain ⟨y18, hv⟩ := y_gd_e hv
      replace hv := Option.some.inj hv
      subst hv
      obtain ⟨e1, e2⟩ := y_pr kt
      rw [← e1, ← e2]
      exact z_zret hc hB hr (y_b_n y18) dX12_takes_31
  · replace hv := y_br_f hv c2
    refine lv_aload_n hx hb dX12_takes_8 rfl (lv_at hl 0 rfl) ?_
    refine lv_iconst (v := (1 : Int32)) hx hb dX12_takes_9 (by decide) ?_
    obtain ⟨⟨r20, h24⟩, c19, hv⟩ := y_bi_e hv
    refine z_thI hc hB (z_runV hc hB 11 (mm_X12_bad hSK l ad o0 (1 : Int32) h c19) md_X12_bad qmX12_182 g1 (by decide) rfl rfl rfl ⟨Nat.le_of_ble_eq_true rfl, Nat.le_of_ble_eq_true rfl⟩ rfl hl.1 rfl (Nat.le_of_ble_eq_true rfl) dX12_takes_10 ⟨Nat.le_of_ble_eq_true rfl, Nat.le_of_ble_eq_true rfl⟩) (fun H locs hB => ?_)
    obtain ⟨y25, hv⟩ := y_gd_e hv
    replace hv := Option.some.inj hv
    subst hv
    obtain ⟨e1, e2⟩ := y_pr kt
    rw [← e1, ← e2]
    exact z_zret hc hB hr (y_b_n y25) dX12_takes_13
theorem qfX12_43 : Cond.fieldLink RX12 43 "DreamTestsModel" "names" "[J" ∈ z_ws := List.mem_filter.mpr ⟨List.mem_append_right _ (List.mem_of_getElem? (i := 1309) (by decide +kernel)), rfl⟩
theorem dX12_find_0 : decode cX12_find 0 = .ok (.iconst 0, 1) := by decide +kernel
theorem dX12_find_1 : decode cX12_find 1 = .ok (.istore_n 3, 1) := by decide +kernel
theorem dX12_find_2 : decode cX12_find 2 = .ok (.iload_n 3, 1) := by decide +kernel
theorem dX12_find_3 : decode cX12_find 3 = .ok (.iload_n 2, 1) := by decide +kernel
theorem dX12_find_4 : decode cX12_find 4 = .ok (.if_icmp .ge 27, 3) := by decide +kernel
theorem dX12_find_7 : decode cX12_find 7 = .ok (.aload_n 0, 1) := by decide +kernel
theorem dX12_find_8 : decode cX12_find 8 = .ok (.getfield 43, 3) := by decide +kernel
theorem dX12_find_11 : decode cX12_find 11 = .ok (.iload_n 1, 1) := by decide +kernel
theorem dX12_find_12 : decode cX12_find 12 = .ok (.iload_n 3, 1) := by decide +kernel
theorem dX12_find_13 : decode cX12_find 13 = .ok (.iadd, 1) := by decide +kernel
theorem dX12_find_14 : decode cX12_find 14 = .ok (.laload, 1) := by decide +kernel
theorem dX12_find_15 : decode cX12_find 15 = .ok (.aload_n 0, 1) := by decide +kernel
theorem dX12_find_16 : decode cX12_find 16 = .ok (.getfield 169, 3) := by decide +kernel
theorem dX12_find_19 : decode cX12_find 19 = .ok (.lcmp, 1) := by decide +kernel
theorem dX12_find_20 : decode cX12_find 20 = .ok (.ifCond .ne 5, 3) := by decide +kernel
theorem dX12_find_23 : decode cX12_find 23 = .ok (.iload_n 3, 1) := by decide +kernel
theorem dX12_find_24 : decode cX12_find 24 = .ok (.ireturn, 1) := by decide +kernel
theorem dX12_find_25 : decode cX12_find 25 = .ok (.iinc 3 1, 3) := by decide +kernel
theorem dX12_find_28 : decode cX12_find 28 = .ok (.goto (-26), 3) := by decide +kernel
theorem dX12_find_31 : decode cX12_find 31 = .ok (.iconst (-1), 1) := by decide +kernel
theorem dX12_find_32 : decode cX12_find 32 = .ok (.ireturn, 1) := by decide +kernel
abbrev rm_X12_find : Room := { frames := 0, cells := 0, slots := 0, locals := 0 }
noncomputable def fX12_find_b2_i (o0 : Nat) (x1 : Int32) (x2 : Int32) (h : z_T) (x3 : Int32) : Option ((Int32) ⊕ (Int32)) :=
  y_br (x2 ≤ x3)
    (y_mp <|
    some (-1 : Int32))
    (y_gd (z_ok h o0 11) <|
    y_bi (z_R h o0 9) fun o4 =>
    y_gd (z_ok h o4 14) <|
    y_gd (z_ix (x1 + x3) (z_N h o4)) <|
    y_br ((lg_cmp (z_L h o4 (x1 + x3).toNatClampNeg) (z_L h o0 17)) = 0)
      (y_mp <|
      some x3)
      (y_nm (x3 + 1) fun v8 =>
      some (.inl (v8))))
noncomputable def fX12_find_b2 (o0 : Nat) (x1 : Int32) (x2 : Int32) (x3 : Int32) (h : z_T) : Option (Int32) := y_lp (fun q : Int32 => fX12_find_b2_i o0 x1 x2 h q) (x3)
noncomputable def fX12_find (o0 : Nat) (x1 : Int32) (x2 : Int32) (h : z_T) : Option (Int32) :=
  fX12_find_b2 o0 x1 x2 (0 : Int32) h
set_option maxHeartbeats 4000000 in
set_option maxRecDepth 100000 in
theorem mm_X12_find {G : z_Gt} {S : State → Prop} (hSK : z_SK S) (l : Launch) (ad : Nat → Nat) (o0 : Nat) (x1 : Int32) (x2 : Int32) (h : z_T) {r0 : Int32} (hv : fX12_find o0 x1 x2 h = some r0) : z_Mi G S l yX12_find cX12_find 4 (.int) rm_X12_find 0 0 [.ref (ad o0), .int x1, .int x2] ad h h r0 := by
  refine z_ofW hSK (by decide) (Nat.le_of_ble_eq_true rfl) ?_
  intro p e s m args below meth c ls hc hr hnm hB hl
  have hx := hc.1.1
  have hb := hc.1.2.1
  have hown := hc.1.2.2.2.1
  have hts := hc.1.2.2.2.2
  replace hc : z_C G S ad (z_n h) p m c cX12_find 4 s args RX12 meth := hc
  replace hown : s.vm.findClass RX12 = some m.cls := hown
  replace hl : lv_has ls 4 [(0, .ref (ad o0)), (1, .int x1), (2, .int x2)] := hl
  show W p l e rm_X12_find s m args below meth c s.heap [] 0 0 (MQ below (z_Qi G ad h (z_n h) s.heap.size r0) args s 0 0 (z_A ad (z_n h) s.heap.size)) (F0 m 0 ls [])
  obtain ⟨rs, kt⟩ : ∃ rs : Int32, rs = r0 := ⟨_, rfl⟩
  generalize hn0 : z_n h = n0 at hc hB ⊢
  have L2 : ∀ (nn2 : Nat) (x3 : Int32) (H : Heap) (locs : List Loc) (ls : Array Slot), z_B G ad n0 s h H locs → lv_has ls 4 [(0, .ref (ad o0)), (1, .int x1), (2, .int x2), (3, .int x3)] → ∀ vv2, y_lpN (fun q : Int32 => fX12_find_b2_i o0 x1 x2 h q) nn2 (x3) = some vv2 → vv2 = r0 → W p l e rm_X12_find s m args below meth c H locs 0 0 (MQ below (z_Qi G ad h n0 s.heap.size r0) args s 0 0 (z_A ad n0 s.heap.size)) (F0 m 2 ls []) := by
    intro nn2
    induction nn2 with
    | zero => intro x3 H locs ls hB hl vv2 hv kv2; exact absurd hv (fun q => y_lpN_0 q)
    | succ nn2 ih2 =>
      intro x3 H locs ls hB hl vv2 hv kv2
      obtain ⟨w, hq, kw2⟩ := y_lpN_e hv
      clear hv
      have hv : fX12_find_b2_i o0 x1 x2 h x3 = some w := hq
      clear hq
      refine lv_iload_n hx hb dX12_find_2 rfl (lv_at hl 3 rfl) ?_
      refine lv_iload_n hx hb dX12_find_3 rfl (lv_at hl 2 rfl) ?_
      refine lv_icmp_ge (tgt := 31) hx hb dX12_find_4 (by decide) (fun c1 => ?_) (fun c1 => ?_)
      · replace hv := y_br_t hv c1
        obtain ⟨t2, hq, ew⟩ := y_mp_e hv
        clear hv; subst ew
        replace kw2 : t2 = _ := kw2
        subst kw2
        have hv := hq
        clear hq
        refine lv_iconst (v := (-1 : Int32)) hx hb dX12_find_31 (by decide) ?_
        replace hv := Option.some.inj hv
        subst hv
        rw [← kv2]
        exact z_iret hc hB hr dX12_find_32
      · replace hv := y_br_f hv c1
        refine lv_aload_n hx hb dX12_find_7 rfl (lv_at hl 0 rfl) ?_
        obtain ⟨g3, hv⟩ := y_gd_e hv
        obtain ⟨o4, eo4, hv⟩ := y_bi_e hv
        refine z_getR hc hB 11 9 g3 eo4 (by decide) (by decide) rfl (z_l1 hc qfX12_43) dX12_find_8 ?_
        refine lv_iload_n hx hb dX12_find_11 rfl (lv_at hl 1 rfl) ?_
        refine lv_iload_n hx hb dX12_find_12 rfl (lv_at hl 3 rfl) ?_
        refine lv_iadd hx hb dX12_find_13 ?_
        obtain ⟨g5, hv⟩ := y_gd_e hv
        obtain ⟨i6, hv⟩ := y_gd_e hv
        refine z_lald hc hB g5 i6 dX12_find_14 ?_
        refine lv_aload_n hx hb dX12_find_15 rfl (lv_at hl 0 rfl) ?_
        refine z_getL hc hB 11 17 g3 (by decide) (by decide) rfl (z_l1 hc qfX12_169) dX12_find_16 ?_
        refine W.lcmp hx hb dX12_find_19 ?_
        refine lv_if_ne (tgt := 25) hx hb dX12_find_20 (by decide) (fun c7 => ?_) (fun c7 => ?_)
        · replace hv := y_br_f hv c7
          obtain ⟨v8, ev8, hv⟩ := y_nm_e hv
          refine lv_iinc (v := v8) (lv' := [(3, .int v8), (0, .ref (ad o0)), (1, .int x1), (2, .int x2)]) hx hb dX12_find_25 hl (k := 3) rfl (by rw [ev8]; rfl) (by decide) rfl (fun ls hl => ?_)
          refine lv_goto (tgt := 2) hx hb dX12_find_28 (by decide) ?_
          replace hv := Option.some.inj hv
          subst hv
          exact ih2 v8 _ _ _ hB (lv_sub hl [1, 2, 3, 0] rfl) _ kw2 kv2
        · replace hv := y_br_t hv c7
          obtain ⟨t9, hq, ew⟩ := y_mp_e hv
          clear hv; subst ew
          replace kw2 : t9 = _ := kw2
          subst kw2
          have hv := hq
          clear hq
          refine lv_iload_n hx hb dX12_find_23 rfl (lv_at hl 3 rfl) ?_
          replace hv := Option.some.inj hv
          subst hv
          rw [← kv2]
          exact z_iret hc hB hr dX12_find_24
  rw [← kt] at hv
  refine lv_iconst (v := (0 : Int32)) hx hb dX12_find_0 (by decide) ?_
  refine lv_istore_n (lv' := [(3, .int (0 : Int32)), (0, .ref (ad o0)), (1, .int x1), (2, .int x2)]) hx hb dX12_find_1 rfl hl (by decide) rfl (fun ls hl => ?_)
  obtain ⟨n, hv⟩ := y_lp_e hv
  exact L2 n (0 : Int32) _ _ _ hB (lv_sub hl [1, 2, 3, 0] rfl) _ hv kt
theorem qmX12_195 : Cond.methodLink RX12 195 yX12_isName ∈ z_ws := List.mem_filter.mpr ⟨List.mem_append_right _ (List.mem_of_getElem? (i := 1528) (by decide +kernel)), rfl⟩
theorem qc_X12_isName : Cond.code yX12_isName cX12_isName 3 (some .boolean) ∈ z_ws := List.mem_filter.mpr ⟨List.mem_append_right _ (List.mem_of_getElem? (i := 1531) (by decide +kernel)), rfl⟩
theorem qi_X12_isName : Cond.instanceMethod yX12_isName ∈ z_ws := List.mem_filter.mpr ⟨List.mem_append_right _ (List.mem_of_getElem? (i := 1530) (by decide +kernel)), rfl⟩
theorem qs_X12_isName : Cond.selects RX12 yX12_isName yX12_isName ∈ z_ws := List.mem_filter.mpr ⟨List.mem_append_left _ (List.mem_of_getElem? (i := 44) (by decide +kernel)), rfl⟩
theorem md_X12_isName : z_mdV yX12_isName cX12_isName 3 (some .boolean) 0 := ⟨⟨qn_RX12, qc_X12_isName, ⟨by decide +kernel, by decide +kernel, by decide +kernel⟩⟩, qi_X12_isName, qs_X12_isName⟩
theorem qmX12_199 : Cond.methodLink RX12 199 yX12_find ∈ z_ws := List.mem_filter.mpr ⟨List.mem_append_right _ (List.mem_of_getElem? (i := 1532) (by decide +kernel)), rfl⟩
theorem qc_X12_find : Cond.code yX12_find cX12_find 4 (some .int) ∈ z_ws := List.mem_filter.mpr ⟨List.mem_append_right _ (List.mem_of_getElem? (i := 1535) (by decide +kernel)), rfl⟩
theorem qi_X12_find : Cond.instanceMethod yX12_find ∈ z_ws := List.mem_filter.mpr ⟨List.mem_append_right _ (List.mem_of_getElem? (i := 1534) (by decide +kernel)), rfl⟩
theorem qs_X12_find : Cond.selects RX12 yX12_find yX12_find ∈ z_ws := List.mem_filter.mpr ⟨List.mem_append_left _ (List.mem_of_getElem? (i := 45) (by decide +kernel)), rfl⟩
theorem md_X12_find : z_mdV yX12_find cX12_find 4 (some .int) 2 := ⟨⟨qn_RX12, qc_X12_find, ⟨by decide +kernel, by decide +kernel, by decide +kernel⟩⟩, qi_X12_find, qs_X12_find⟩
theorem dX12_fresh_0 : decode cX12_fresh 0 = .ok (.aload_n 0, 1) := by decide +kernel
theorem dX12_fresh_1 : decode cX12_fresh 1 = .ok (.invokevirtual 195, 3) := by decide +kernel
theorem dX12_fresh_4 : decode cX12_fresh 4 = .ok (.ifCond .ne 9, 3) := by decide +kernel
theorem dX12_fresh_7 : decode cX12_fresh 7 = .ok (.aload_n 0, 1) := by decide +kernel
theorem dX12_fresh_8 : decode cX12_fresh 8 = .ok (.iconst 1, 1) := by decide +kernel
theorem dX12_fresh_9 : decode cX12_fresh 9 = .ok (.invokevirtual 182, 3) := by decide +kernel
theorem dX12_fresh_12 : decode cX12_fresh 12 = .ok (.ireturn, 1) := by decide +kernel
theorem dX12_fresh_13 : decode cX12_fresh 13 = .ok (.aload_n 0, 1) := by decide +kernel
theorem dX12_fresh_14 : decode cX12_fresh 14 = .ok (.bipush 14, 2) := by decide +kernel
theorem dX12_fresh_16 : decode cX12_fresh 16 = .ok (.aload_n 0, 1) := by decide +kernel
theorem dX12_fresh_17 : decode cX12_fresh 17 = .ok (.getfield 37, 3) := by decide +kernel
theorem dX12_fresh_20 : decode cX12_fresh 20 = .ok (.iconst 0, 1) := by decide +kernel
theorem dX12_fresh_21 : decode cX12_fresh 21 = .ok (.iaload, 1) := by decide +kernel
theorem dX12_fresh_22 : decode cX12_fresh 22 = .ok (.invokevirtual 199, 3) := by decide +kernel
theorem dX12_fresh_25 : decode cX12_fresh 25 = .ok (.ifCond .ge 18, 3) := by decide +kernel
theorem dX12_fresh_28 : decode cX12_fresh 28 = .ok (.aload_n 0, 1) := by decide +kernel
theorem dX12_fresh_29 : decode cX12_fresh 29 = .ok (.bipush 22, 2) := by decide +kernel
theorem dX12_fresh_31 : decode cX12_fresh 31 = .ok (.aload_n 0, 1) := by decide +kernel
theorem dX12_fresh_32 : decode cX12_fresh 32 = .ok (.getfield 37, 3) := by decide +kernel
theorem dX12_fresh_35 : decode cX12_fresh 35 = .ok (.iconst 1, 1) := by decide +kernel
theorem dX12_fresh_36 : decode cX12_fresh 36 = .ok (.iaload, 1) := by decide +kernel
theorem dX12_fresh_37 : decode cX12_fresh 37 = .ok (.invokevirtual 199, 3) := by decide +kernel
theorem dX12_fresh_40 : decode cX12_fresh 40 = .ok (.ifCond .lt 9, 3) := by decide +kernel
theorem dX12_fresh_43 : decode cX12_fresh 43 = .ok (.aload_n 0, 1) := by decide +kernel
theorem dX12_fresh_44 : decode cX12_fresh 44 = .ok (.iconst 3, 1) := by decide +kernel
theorem dX12_fresh_45 : decode cX12_fresh 45 = .ok (.invokevirtual 182, 3) := by decide +kernel
theorem dX12_fresh_48 : decode cX12_fresh 48 = .ok (.ireturn, 1) := by decide +kernel
theorem dX12_fresh_49 : decode cX12_fresh 49 = .ok (.aload_n 0, 1) := by decide +kernel
theorem dX12_fresh_50 : decode cX12_fresh 50 = .ok (.getfield 43, 3) := by decide +kernel
theorem dX12_fresh_53 : decode cX12_fresh 53 = .ok (.iload_n 1, 1) := by decide +kernel
theorem dX12_fresh_54 : decode cX12_fresh 54 = .ok (.aload_n 0, 1) := by decide +kernel
theorem dX12_fresh_55 : decode cX12_fresh 55 = .ok (.getfield 169, 3) := by decide +kernel
theorem dX12_fresh_58 : decode cX12_fresh 58 = .ok (.lastore, 1) := by decide +kernel
theorem dX12_fresh_59 : decode cX12_fresh 59 = .ok (.aload_n 0, 1) := by decide +kernel
theorem dX12_fresh_60 : decode cX12_fresh 60 = .ok (.invokevirtual 185, 3) := by decide +kernel
theorem dX12_fresh_63 : decode cX12_fresh 63 = .ok (.iconst 1, 1) := by decide +kernel
theorem dX12_fresh_64 : decode cX12_fresh 64 = .ok (.ireturn, 1) := by decide +kernel
abbrev rm_X12_fresh : Room := { frames := 2, cells := 0, slots := 0, locals := 43 }
noncomputable def fX12_fresh_b43 (o0 : Nat) (h : z_T) : Option (Int32 × z_T) :=
  y_gd (z_ok h o0 11) <|
  y_bi (fX12_bad o0 (3 : Int32) h) fun ⟨r2, h6⟩ =>
  y_gd (y_b r2) <|
  some (r2, h6)
noncomputable def fX12_fresh (o0 : Nat) (x1 : Int32) (h : z_T) : Option (Int32 × z_T) :=
  y_gd (z_ok h o0 11) <|
  y_bi (fX12_isName o0 h) fun r10 =>
  y_br (r10 = 0)
    (y_bi (fX12_bad o0 (1 : Int32) h) fun ⟨r39, h43⟩ =>
    y_gd (y_b r39) <|
    some (r39, h43))
    (y_bi (z_R h o0 7) fun o16 =>
    y_gd (z_ok h o16 13) <|
    y_gd (z_ix (0 : Int32) (z_N h o16)) <|
    y_bi (fX12_find o0 (14 : Int32) (z_I h o16 (0 : Int32).toNatClampNeg) h) fun r20 =>
    y_br (0 ≤ r20)
      (fX12_fresh_b43 o0 h)
      (y_gd (z_ix (1 : Int32) (z_N h o16)) <|
      y_bi (fX12_find o0 (22 : Int32) (z_I h o16 (1 : Int32).toNatClampNeg) h) fun r27 =>
      y_br (r27 < 0)
        (y_bi (z_R h o0 9) fun o32 =>
        y_gd (z_ok h o32 14) <|
        y_gd (z_ix x1 (z_N h o32)) <|
        y_nm (z_sL h o32 x1.toNatClampNeg (z_L h o0 17)) fun h35 =>
        y_bi (fX12_go o0 h35) fun h37 =>
        some ((1 : Int32), h37))
        (fX12_fresh_b43 o0 h)))
set_option maxHeartbeats 4000000 in
set_option maxRecDepth 100000 in
theorem mm_X12_fresh {G : z_Gt} {S : State → Prop} (hSK : z_SK S) (l : Launch) (ad : Nat → Nat) (o0 : Nat) (x1 : Int32) (h : z_T) {r0 : Int32} {h9 : z_T} (hv : fX12_fresh o0 x1 h = some (r0, h9)) : z_Mi G S l yX12_fresh cX12_fresh 2 (.boolean) rm_X12_fresh 0 0 [.ref (ad o0), .int x1] ad h h9 r0 := by
  refine z_ofW hSK (by decide) (Nat.le_of_ble_eq_true rfl) ?_
  intro p e s m args below meth c ls hc hr hnm hB hl
  have hx := hc.1.1
  have hb := hc.1.2.1
  have hown := hc.1.2.2.2.1
  have hts := hc.1.2.2.2.2
  replace hc : z_C G S ad (z_n h) p m c cX12_fresh 2 s args RX12 meth := hc
  replace hown : s.vm.findClass RX12 = some m.cls := hown
  replace hl : lv_has ls 2 [(0, .ref (ad o0)), (1, .int x1)] := hl
  show W p l e rm_X12_fresh s m args below meth c s.heap [] 0 0 (MQ below (z_Qi G ad h9 (z_n h) s.heap.size r0) args s 0 0 (z_A ad (z_n h) s.heap.size)) (F0 m 0 ls [])
  obtain ⟨rs, kt⟩ : ∃ rs : Int32 × z_T, rs = (r0, h9) := ⟨_, rfl⟩
  generalize hn0 : z_n h = n0 at hc hB ⊢
  have b43 : ∀ (h : z_T) (H : Heap) (locs : List Loc) (ls : Array Slot), z_B G ad n0 s h H locs → lv_has ls 2 [(0, .ref (ad o0))] → ∀ w, fX12_fresh_b43 o0 h = some w → w = (r0, h9) → W p l e rm_X12_fresh s m args below meth c H locs 0 0 (MQ below (z_Qi G ad h9 n0 s.heap.size r0) args s 0 0 (z_A ad n0 s.heap.size)) (F0 m 43 ls []) := by
    intro h H locs ls hB hl w hv kb
    refine lv_aload_n hx hb dX12_fresh_43 rfl (lv_at hl 0 rfl) ?_
    refine lv_iconst (v := (3 : Int32)) hx hb dX12_fresh_44 (by decide) ?_
    obtain ⟨g7, hv⟩ := y_gd_e hv
    obtain ⟨⟨r2, h6⟩, c1, hv⟩ := y_bi_e hv
    refine z_thI hc hB (z_runV hc hB 11 (mm_X12_bad hSK l ad o0 (3 : Int32) h c1) md_X12_bad qmX12_182 g7 (by decide) rfl rfl rfl ⟨Nat.le_of_ble_eq_true rfl, Nat.le_of_ble_eq_true rfl⟩ rfl hl.1 rfl (Nat.le_of_ble_eq_true rfl) dX12_fresh_45 ⟨Nat.le_of_ble_eq_true rfl, Nat.le_of_ble_eq_true rfl⟩) (fun H locs hB => ?_)
    obtain ⟨y8, hv⟩ := y_gd_e hv
    replace hv := Option.some.inj hv
    subst hv
    obtain ⟨e1, e2⟩ := y_pr kb
    rw [← e1, ← e2]
    exact z_zret hc hB hr (y_b_n y8) dX12_fresh_48
  rw [← kt] at hv
  refine lv_aload_n hx hb dX12_fresh_0 rfl (lv_at hl 0 rfl) ?_
  obtain ⟨g14, hv⟩ := y_gd_e hv
  obtain ⟨r10, c9, hv⟩ := y_bi_e hv
  refine z_thI hc hB (z_runV hc hB 11 (mm_X12_isName hSK l ad o0 h c9) md_X12_isName qmX12_195 g14 (by decide) rfl rfl rfl ⟨Nat.le_of_ble_eq_true rfl, Nat.le_of_ble_eq_true rfl⟩ rfl hl.1 rfl (Nat.le_of_ble_eq_true rfl) dX12_fresh_1 ⟨Nat.le_of_ble_eq_true rfl, Nat.le_of_ble_eq_true rfl⟩) (fun H locs hB => ?_)
  refine lv_if_ne (tgt := 13) hx hb dX12_fresh_4 (by decide) (fun c15 => ?_) (fun c15 => ?_)
  · replace hv := y_br_f hv c15
    refine lv_aload_n hx hb dX12_fresh_13 rfl (lv_at hl 0 rfl) ?_
    refine lv_bipush (v := (14 : Int32)) hx hb dX12_fresh_14 (by decide) ?_
    refine lv_aload_n hx hb dX12_fresh_16 rfl (lv_at hl 0 rfl) ?_
    obtain ⟨o16, eo16, hv⟩ := y_bi_e hv
    refine z_getR hc hB 11 7 g14 eo16 (by decide) (by decide) rfl (z_l1 hc qfX12_37) dX12_fresh_17 ?_
    refine lv_iconst (v := (0 : Int32)) hx hb dX12_fresh_20 (by decide) ?_
    obtain ⟨g17, hv⟩ := y_gd_e hv
    obtain ⟨i18, hv⟩ := y_gd_e hv
    refine z_iald hc hB g17 i18 dX12_fresh_21 ?_
    obtain ⟨r20, c19, hv⟩ := y_bi_e hv
    refine z_thI hc hB (z_runV hc hB 11 (mm_X12_find hSK l ad o0 (14 : Int32) (z_I h o16 (0 : Int32).toNatClampNeg) h c19) md_X12_find qmX12_199 g14 (by decide) rfl rfl rfl ⟨Nat.le_of_ble_eq_true rfl, Nat.le_of_ble_eq_true rfl⟩ rfl hl.1 rfl (Nat.le_of_ble_eq_true rfl) dX12_fresh_22 ⟨Nat.le_of_ble_eq_true rfl, Nat.le_of_ble_eq_true rfl⟩) (fun H locs hB => ?_)
    refine lv_if_ge (tgt := 43) hx hb dX12_fresh_25 (by decide) (fun c24 => ?_) (fun c24 => ?_)
    · replace hv := y_br_t hv c24
      exact b43 h _ _ _ hB (lv_sub hl [0] rfl) _ hv kt
    · replace hv := y_br_f hv c24
      refine lv_aload_n hx hb dX12_fresh_28 rfl (lv_at hl 0 rfl) ?_
      refine lv_bipush (v := (22 : Int32)) hx hb dX12_fresh_29 (by decide) ?_
      refine lv_aload_n hx hb dX12_fresh_31 rfl (lv_at hl 0 rfl) ?_
      refine z_getR hc hB 11 7 g14 eo16 (by decide) (by decide) rfl (z_l1 hc qfX12_37) dX12_fresh_32 ?_
      refine lv_iconst (v := (1 : Int32)) hx hb dX12_fresh_35 (by decide) ?_
      obtain ⟨i25, hv⟩ := y_gd_e hv
      refine z_iald hc hB g17 i25 dX12_fresh_36 ?_
      obtain ⟨r27, c26, hv⟩ := y_bi_e hv
      refine z_thI hc hB (z_runV hc hB 11 (mm_X12_find hSK l ad o0 (22 : Int32) (z_I h o16 (1 : Int32).toNatClampNeg) h c26) md_X12_find qmX12_199 g14 (by decide) rfl rfl rfl ⟨Nat.le_of_ble_eq_true rfl, Nat.le_of_ble_eq_true rfl⟩ rfl hl.1 rfl (Nat.le_of_ble_eq_true rfl) dX12_fresh_37 ⟨Nat.le_of_ble_eq_true rfl, Nat.le_of_ble_eq_true rfl⟩) (fun H locs hB => ?_)
      refine lv_if_lt (tgt := 49) hx hb dX12_fresh_40 (by decide) (fun c31 => ?_) (fun c31 => ?_)
      · replace hv := y_br_t hv c31
        refine lv_aload_n hx hb dX12_fresh_49 rfl (lv_at hl 0 rfl) ?_
        obtain ⟨o32, eo32, hv⟩ := y_bi_e hv
        refine z_getR hc hB 11 9 g14 eo32 (by decide) (by decide) rfl (z_l1 hc qfX12_43) dX12_fresh_50 ?_
        refine lv_iload_n hx hb dX12_fresh_53 rfl (lv_at hl 1 rfl) ?_
        refine lv_aload_n hx hb dX12_fresh_54 rfl (lv_at hl 0 rfl) ?_
        refine z_getL hc hB 11 17 g14 (by decide) (by decide) rfl (z_l1 hc qfX12_169) dX12_fresh_55 ?_
        obtain ⟨g33, hv⟩ := y_gd_e hv
        obtain ⟨i34, hv⟩ := y_gd_e hv
        obtain ⟨h35, eh35, hv⟩ := y_nm_e hv
        refine y_last hc hB eh35 g33 i34 dX12_fresh_58 (fun H locs hB => ?_)
        refine lv_aload_n hx hb dX12_fresh_59 rfl (lv_at hl 0 rfl) ?_
        obtain ⟨h37, c36, hv⟩ := y_bi_e hv
        refine z_thV hc hB (z_runV hc hB 11 (mm_X12_go hSK l ad o0 h35 c36) md_X12_go qmX12_185 (by rw [eh35]; exact g14) (by decide) rfl rfl rfl ⟨Nat.le_of_ble_eq_true rfl, Nat.le_of_ble_eq_true rfl⟩ rfl hl.1 rfl (Nat.le_of_ble_eq_true rfl) dX12_fresh_60 ⟨Nat.le_of_ble_eq_true rfl, Nat.le_of_ble_eq_true rfl⟩) (fun H locs hB => ?_)
        refine lv_iconst (v := (1 : Int32)) hx hb dX12_fresh_63 (by decide) ?_
        replace hv := Option.some.inj hv
        subst hv
        obtain ⟨e1, e2⟩ := y_pr kt
        rw [← e1, ← e2]
        exact z_zret hc hB hr rfl dX12_fresh_64
      · replace hv := y_br_f hv c31
        exact b43 h _ _ _ hB (lv_sub hl [0] rfl) _ hv kt
  · replace hv := y_br_t hv c15
    refine lv_aload_n hx hb dX12_fresh_7 rfl (lv_at hl 0 rfl) ?_
    refine lv_iconst (v := (1 : Int32)) hx hb dX12_fresh_8 (by decide) ?_
    obtain ⟨⟨r39, h43⟩, c38, hv⟩ := y_bi_e hv
    refine z_thI hc hB (z_runV hc hB 11 (mm_X12_bad hSK l ad o0 (1 : Int32) h c38) md_X12_bad qmX12_182 g14 (by decide) rfl rfl rfl ⟨Nat.le_of_ble_eq_true rfl, Nat.le_of_ble_eq_true rfl⟩ rfl hl.1 rfl (Nat.le_of_ble_eq_true rfl) dX12_fresh_9 ⟨Nat.le_of_ble_eq_true rfl, Nat.le_of_ble_eq_true rfl⟩) (fun H locs hB => ?_)
    obtain ⟨y44, hv⟩ := y_gd_e hv
    replace hv := Option.some.inj hv
    subst hv
    obtain ⟨e1, e2⟩ := y_pr kt
    rw [← e1, ← e2]
    exact z_zret hc hB hr (y_b_n y44) dX12_fresh_12
theorem qkX12_103 : Cond.constantLong RX12 103 (1919905645 : Int64) ∈ z_ws := List.mem_filter.mpr ⟨List.mem_append_right _ (List.mem_of_getElem? (i := 1276) (by decide +kernel)), rfl⟩
theorem qmX12_203 : Cond.methodLink RX12 203 yX12_isWord ∈ z_ws := List.mem_filter.mpr ⟨List.mem_append_right _ (List.mem_of_getElem? (i := 1502) (by decide +kernel)), rfl⟩
theorem qc_X12_isWord : Cond.code yX12_isWord cX12_isWord 3 (some .boolean) ∈ z_ws := List.mem_filter.mpr ⟨List.mem_append_right _ (List.mem_of_getElem? (i := 1505) (by decide +kernel)), rfl⟩
theorem qi_X12_isWord : Cond.instanceMethod yX12_isWord ∈ z_ws := List.mem_filter.mpr ⟨List.mem_append_right _ (List.mem_of_getElem? (i := 1504) (by decide +kernel)), rfl⟩
theorem qs_X12_isWord : Cond.selects RX12 yX12_isWord yX12_isWord ∈ z_ws := List.mem_filter.mpr ⟨List.mem_append_left _ (List.mem_of_getElem? (i := 39) (by decide +kernel)), rfl⟩
theorem md_X12_isWord : z_mdV yX12_isWord cX12_isWord 3 (some .boolean) 1 := ⟨⟨qn_RX12, qc_X12_isWord, ⟨by decide +kernel, by decide +kernel, by decide +kernel⟩⟩, qi_X12_isWord, qs_X12_isWord⟩
theorem qkX12_105 : Cond.constantLong RX12 105 (499985311076 : Int64) ∈ z_ws := List.mem_filter.mpr ⟨List.mem_append_right _ (List.mem_of_getElem? (i := 1277) (by decide +kernel)), rfl⟩
theorem qkX12_107 : Cond.constantLong RX12 107 (1937076837 : Int64) ∈ z_ws := List.mem_filter.mpr ⟨List.mem_append_right _ (List.mem_of_getElem? (i := 1278) (by decide +kernel)), rfl⟩
theorem qkX12_109 : Cond.constantLong RX12 109 (1818326117 : Int64) ∈ z_ws := List.mem_filter.mpr ⟨List.mem_append_right _ (List.mem_of_getElem? (i := 1279) (by decide +kernel)), rfl⟩
theorem qkX12_111 : Cond.constantLong RX12 111 (513021013607 : Int64) ∈ z_ws := List.mem_filter.mpr ⟨List.mem_append_right _ (List.mem_of_getElem? (i := 1280) (by decide +kernel)), rfl⟩
theorem qkX12_113 : Cond.constantLong RX12 113 (465557353070 : Int64) ∈ z_ws := List.mem_filter.mpr ⟨List.mem_append_right _ (List.mem_of_getElem? (i := 1281) (by decide +kernel)), rfl⟩
theorem dX12_onceOf_0 : decode cX12_onceOf 0 = .ok (.aload_n 0, 1) := by decide +kernel
theorem dX12_onceOf_1 : decode cX12_onceOf 1 = .ok (.ldc2_w 103, 3) := by decide +kernel
theorem dX12_onceOf_4 : decode cX12_onceOf 4 = .ok (.invokevirtual 203, 3) := by decide +kernel
theorem dX12_onceOf_7 : decode cX12_onceOf 7 = .ok (.ifCond .eq 7, 3) := by decide +kernel
theorem dX12_onceOf_10 : decode cX12_onceOf 10 = .ok (.iconst 0, 1) := by decide +kernel
theorem dX12_onceOf_11 : decode cX12_onceOf 11 = .ok (.goto 74, 3) := by decide +kernel
theorem dX12_onceOf_14 : decode cX12_onceOf 14 = .ok (.aload_n 0, 1) := by decide +kernel
theorem dX12_onceOf_15 : decode cX12_onceOf 15 = .ok (.ldc2_w 105, 3) := by decide +kernel
theorem dX12_onceOf_18 : decode cX12_onceOf 18 = .ok (.invokevirtual 203, 3) := by decide +kernel
theorem dX12_onceOf_21 : decode cX12_onceOf 21 = .ok (.ifCond .eq 7, 3) := by decide +kernel
theorem dX12_onceOf_24 : decode cX12_onceOf 24 = .ok (.iconst 1, 1) := by decide +kernel
theorem dX12_onceOf_25 : decode cX12_onceOf 25 = .ok (.goto 60, 3) := by decide +kernel
theorem dX12_onceOf_28 : decode cX12_onceOf 28 = .ok (.aload_n 0, 1) := by decide +kernel
theorem dX12_onceOf_29 : decode cX12_onceOf 29 = .ok (.ldc2_w 107, 3) := by decide +kernel
theorem dX12_onceOf_32 : decode cX12_onceOf 32 = .ok (.invokevirtual 203, 3) := by decide +kernel
theorem dX12_onceOf_35 : decode cX12_onceOf 35 = .ok (.ifCond .eq 7, 3) := by decide +kernel
theorem dX12_onceOf_38 : decode cX12_onceOf 38 = .ok (.iconst 2, 1) := by decide +kernel
theorem dX12_onceOf_39 : decode cX12_onceOf 39 = .ok (.goto 46, 3) := by decide +kernel
theorem dX12_onceOf_42 : decode cX12_onceOf 42 = .ok (.aload_n 0, 1) := by decide +kernel
theorem dX12_onceOf_43 : decode cX12_onceOf 43 = .ok (.ldc2_w 109, 3) := by decide +kernel
theorem dX12_onceOf_46 : decode cX12_onceOf 46 = .ok (.invokevirtual 203, 3) := by decide +kernel
theorem dX12_onceOf_49 : decode cX12_onceOf 49 = .ok (.ifCond .eq 7, 3) := by decide +kernel
theorem dX12_onceOf_52 : decode cX12_onceOf 52 = .ok (.iconst 3, 1) := by decide +kernel
theorem dX12_onceOf_53 : decode cX12_onceOf 53 = .ok (.goto 32, 3) := by decide +kernel
theorem dX12_onceOf_56 : decode cX12_onceOf 56 = .ok (.aload_n 0, 1) := by decide +kernel
theorem dX12_onceOf_57 : decode cX12_onceOf 57 = .ok (.ldc2_w 111, 3) := by decide +kernel
theorem dX12_onceOf_60 : decode cX12_onceOf 60 = .ok (.invokevirtual 203, 3) := by decide +kernel
theorem dX12_onceOf_63 : decode cX12_onceOf 63 = .ok (.ifCond .eq 7, 3) := by decide +kernel
theorem dX12_onceOf_66 : decode cX12_onceOf 66 = .ok (.iconst 4, 1) := by decide +kernel
theorem dX12_onceOf_67 : decode cX12_onceOf 67 = .ok (.goto 18, 3) := by decide +kernel
theorem dX12_onceOf_70 : decode cX12_onceOf 70 = .ok (.aload_n 0, 1) := by decide +kernel
theorem dX12_onceOf_71 : decode cX12_onceOf 71 = .ok (.ldc2_w 113, 3) := by decide +kernel
theorem dX12_onceOf_74 : decode cX12_onceOf 74 = .ok (.invokevirtual 203, 3) := by decide +kernel
theorem dX12_onceOf_77 : decode cX12_onceOf 77 = .ok (.ifCond .eq 7, 3) := by decide +kernel
theorem dX12_onceOf_80 : decode cX12_onceOf 80 = .ok (.iconst 5, 1) := by decide +kernel
theorem dX12_onceOf_81 : decode cX12_onceOf 81 = .ok (.goto 4, 3) := by decide +kernel
theorem dX12_onceOf_84 : decode cX12_onceOf 84 = .ok (.iconst (-1), 1) := by decide +kernel
theorem dX12_onceOf_85 : decode cX12_onceOf 85 = .ok (.ireturn, 1) := by decide +kernel
abbrev rm_X12_onceOf : Room := { frames := 1, cells := 0, slots := 0, locals := 22 }
noncomputable def fX12_onceOf (o0 : Nat) (h : z_T) : Option (Int32) :=
  y_gd (z_ok h o0 11) <|
  y_bi (fX12_isWord o0 (1919905645 : Int64) h) fun r2 =>
  y_br (r2 = 0)
    (y_bi (fX12_isWord o0 (499985311076 : Int64) h) fun r9 =>
    y_br (r9 = 0)
      (y_bi (fX12_isWord o0 (1937076837 : Int64) h) fun r15 =>
      y_br (r15 = 0)
        (y_bi (fX12_isWord o0 (1818326117 : Int64) h) fun r21 =>
        y_br (r21 = 0)
          (y_bi (fX12_isWord o0 (513021013607 : Int64) h) fun r27 =>
          y_br (r27 = 0)
            (y_bi (fX12_isWord o0 (465557353070 : Int64) h) fun r33 =>
            y_br (r33 = 0)
              (some (-1 : Int32))
              (some (5 : Int32)))
            (some (4 : Int32)))
          (some (3 : Int32)))
        (some (2 : Int32)))
      (some (1 : Int32)))
    (some (0 : Int32))
set_option maxHeartbeats 4000000 in
set_option maxRecDepth 100000 in
theorem mm_X12_onceOf {G : z_Gt} {S : State → Prop} (hSK : z_SK S) (l : Launch) (ad : Nat → Nat) (o0 : Nat) (h : z_T) {r0 : Int32} (hv : fX12_onceOf o0 h = some r0) : z_Mi G S l yX12_onceOf cX12_onceOf 1 (.int) rm_X12_onceOf 0 0 [.ref (ad o0)] ad h h r0 := by
  refine z_ofW hSK (by decide) (Nat.le_of_ble_eq_true rfl) ?_
  intro p e s m args below meth c ls hc hr hnm hB hl
  have hx := hc.1.1
  have hb := hc.1.2.1
  have hown := hc.1.2.2.2.1
  have hts := hc.1.2.2.2.2
  replace hc : z_C G S ad (z_n h) p m c cX12_onceOf 1 s args RX12 meth := hc
  replace hown : s.vm.findClass RX12 = some m.cls := hown
  replace hl : lv_has ls 1 [(0, .ref (ad o0))] := hl
  show W p l e rm_X12_onceOf s m args below meth c s.heap [] 0 0 (MQ below (z_Qi G ad h (z_n h) s.heap.size r0) args s 0 0 (z_A ad (z_n h) s.heap.size)) (F0 m 0 ls [])
  obtain ⟨rs, kt⟩ : ∃ rs : Int32, rs = r0 := ⟨_, rfl⟩
  generalize hn0 : z_n h = n0 at hc hB ⊢
  rw [← kt] at hv
  refine lv_aload_n hx hb dX12_onceOf_0 rfl (lv_at hl 0 rfl) ?_
  refine lv_ldc2 (v := (1919905645 : Int64)) hx hb hown (hts _ qkX12_103) dX12_onceOf_1 ?_
  obtain ⟨g6, hv⟩ := y_gd_e hv
  obtain ⟨r2, c1, hv⟩ := y_bi_e hv
  refine z_thI hc hB (z_runV hc hB 11 (mm_X12_isWord hSK l ad o0 (1919905645 : Int64) h c1) md_X12_isWord qmX12_203 g6 (by decide) rfl rfl rfl ⟨Nat.le_of_ble_eq_true rfl, Nat.le_of_ble_eq_true rfl⟩ rfl hl.1 rfl (Nat.le_of_ble_eq_true rfl) dX12_onceOf_4 ⟨Nat.le_of_ble_eq_true rfl, Nat.le_of_ble_eq_true rfl⟩) (fun H locs hB => ?_)
  refine lv_if_eq (tgt := 14) hx hb dX12_onceOf_7 (by decide) (fun c7 => ?_) (fun c7 => ?_)
  · replace hv := y_br_t hv c7
    refine lv_aload_n hx hb dX12_onceOf_14 rfl (lv_at hl 0 rfl) ?_
    refine lv_ldc2 (v := (499985311076 : Int64)) hx hb hown (hts _ qkX12_105) dX12_onceOf_15 ?_
    obtain ⟨r9, c8, hv⟩ := y_bi_e hv
    refine z_thI hc hB (z_runV hc hB 11 (mm_X12_isWord hSK l ad o0 (499985311076 : Int64) h c8) md_X12_isWord qmX12_203 g6 (by decide) rfl rfl rfl ⟨Nat.le_of_ble_eq_true rfl, Nat.le_of_ble_eq_true rfl⟩ rfl hl.1 rfl (Nat.le_of_ble_eq_true rfl) dX12_onceOf_18 ⟨Nat.le_of_ble_eq_true rfl, Nat.le_of_ble_eq_true rfl⟩) (fun H locs hB => ?_)
    refine lv_if_eq (tgt := 28) hx hb dX12_onceOf_21 (by decide) (fun c13 => ?_) (fun c13 => ?_)
    · replace hv := y_br_t hv c13
      refine lv_aload_n hx hb dX12_onceOf_28 rfl (lv_at hl 0 rfl) ?_
      refine lv_ldc2 (v := (1937076837 : Int64)) hx hb hown (hts _ qkX12_107) dX12_onceOf_29 ?_
      obtain ⟨r15, c14, hv⟩ := y_bi_e hv
      refine z_thI hc hB (z_runV hc hB 11 (mm_X12_isWord hSK l ad o0 (1937076837 : Int64) h c14) md_X12_isWord qmX12_203 g6 (by decide) rfl rfl rfl ⟨Nat.le_of_ble_eq_true rfl, Nat.le_of_ble_eq_true rfl⟩ rfl hl.1 rfl (Nat.le_of_ble_eq_true rfl) dX12_onceOf_32 ⟨Nat.le_of_ble_eq_true rfl, Nat.le_of_ble_eq_true rfl⟩) (fun H locs hB => ?_)
      refine lv_if_eq (tgt := 42) hx hb dX12_onceOf_35 (by decide) (fun c19 => ?_) (fun c19 => ?_)
      · replace hv := y_br_t hv c19
        refine lv_aload_n hx hb dX12_onceOf_42 rfl (lv_at hl 0 rfl) ?_
        refine lv_ldc2 (v := (1818326117 : Int64)) hx hb hown (hts _ qkX12_109) dX12_onceOf_43 ?_
        obtain ⟨r21, c20, hv⟩ := y_bi_e hv
        refine z_thI hc hB (z_runV hc hB 11 (mm_X12_isWord hSK l ad o0 (1818326117 : Int64) h c20) md_X12_isWord qmX12_203 g6 (by decide) rfl rfl rfl ⟨Nat.le_of_ble_eq_true rfl, Nat.le_of_ble_eq_true rfl⟩ rfl hl.1 rfl (Nat.le_of_ble_eq_true rfl) dX12_onceOf_46 ⟨Nat.le_of_ble_eq_true rfl, Nat.le_of_ble_eq_true rfl⟩) (fun H locs hB => ?_)
        refine lv_if_eq (tgt := 56) hx hb dX12_onceOf_49 (by decide) (fun c25 => ?_) (fun c25 => ?_)
        · replace hv := y_br_t hv c25
          refine lv_aload_n hx hb dX12_onceOf_56 rfl (lv_at hl 0 rfl) ?_
          refine lv_ldc2 (v := (513021013607 : Int64)) hx hb hown (hts _ qkX12_111) dX12_onceOf_57 ?_
          obtain ⟨r27, c26, hv⟩ := y_bi_e hv
          refine z_thI hc hB (z_runV hc hB 11 (mm_X12_isWord hSK l ad o0 (513021013607 : Int64) h c26) md_X12_isWord qmX12_203 g6 (by decide) rfl rfl rfl ⟨Nat.le_of_ble_eq_true rfl, Nat.le_of_ble_eq_true rfl⟩ rfl hl.1 rfl (Nat.le_of_ble_eq_true rfl) dX12_onceOf_60 ⟨Nat.le_of_ble_eq_true rfl, Nat.le_of_ble_eq_true rfl⟩) (fun H locs hB => ?_)
          refine lv_if_eq (tgt := 70) hx hb dX12_onceOf_63 (by decide) (fun c31 => ?_) (fun c31 => ?_)
          · replace hv := y_br_t hv c31
            refine lv_aload_n hx hb dX12_onceOf_70 rfl (lv_at hl 0 rfl) ?_
            refine lv_ldc2 (v := (465557353070 : Int64)) hx hb hown (hts _ qkX12_113) dX12_onceOf_71 ?_
            obtain ⟨r33, c32, hv⟩ := y_bi_e hv
            refine z_thI hc hB (z_runV hc hB 11 (mm_X12_isWord hSK l ad o0 (465557353070 : Int64) h c32) md_X12_isWord qmX12_203 g6 (by decide) rfl rfl rfl ⟨Nat.le_of_ble_eq_true rfl, Nat.le_of_ble_eq_true rfl⟩ rfl hl.1 rfl (Nat.le_of_ble_eq_true rfl) dX12_onceOf_74 ⟨Nat.le_of_ble_eq_true rfl, Nat.le_of_ble_eq_true rfl⟩) (fun H locs hB => ?_)
            refine lv_if_eq (tgt := 84) hx hb dX12_onceOf_77 (by decide) (fun c37 => ?_) (fun c37 => ?_)
            · replace hv := y_br_t hv c37
              refine lv_iconst (v := (-1 : Int32)) hx hb dX12_onceOf_84 (by decide) ?_
              replace hv := Option.some.inj hv
              subst hv
              rw [← kt]
              exact z_iret hc hB hr dX12_onceOf_85
            · replace hv := y_br_f hv c37
              refine lv_iconst (v := (5 : Int32)) hx hb dX12_onceOf_80 (by decide) ?_
              refine lv_goto (tgt := 85) hx hb dX12_onceOf_81 (by decide) ?_
              replace hv := Option.some.inj hv
              subst hv
              rw [← kt]
              exact z_iret hc hB hr dX12_onceOf_85
          · replace hv := y_br_f hv c31
            refine lv_iconst (v := (4 : Int32)) hx hb dX12_onceOf_66 (by decide) ?_
            refine lv_goto (tgt := 85) hx hb dX12_onceOf_67 (by decide) ?_
            replace hv := Option.some.inj hv
            subst hv
            rw [← kt]
            exact z_iret hc hB hr dX12_onceOf_85
        · replace hv := y_br_f hv c25
          refine lv_iconst (v := (3 : Int32)) hx hb dX12_onceOf_52 (by decide) ?_
          refine lv_goto (tgt := 85) hx hb dX12_onceOf_53 (by decide) ?_
          replace hv := Option.some.inj hv
          subst hv
          rw [← kt]
          exact z_iret hc hB hr dX12_onceOf_85
      · replace hv := y_br_f hv c19
        refine lv_iconst (v := (2 : Int32)) hx hb dX12_onceOf_38 (by decide) ?_
        refine lv_goto (tgt := 85) hx hb dX12_onceOf_39 (by decide) ?_
        replace hv := Option.some.inj hv
        subst hv
        rw [← kt]
        exact z_iret hc hB hr dX12_onceOf_85
    · replace hv := y_br_f hv c13
      refine lv_iconst (v := (1 : Int32)) hx hb dX12_onceOf_24 (by decide) ?_
      refine lv_goto (tgt := 85) hx hb dX12_onceOf_25 (by decide) ?_
      replace hv := Option.some.inj hv
      subst hv
      rw [← kt]
      exact z_iret hc hB hr dX12_onceOf_85
  · replace hv := y_br_f hv c7
    refine lv_iconst (v := (0 : Int32)) hx hb dX12_onceOf_10 (by decide) ?_
    refine lv_goto (tgt := 85) hx hb dX12_onceOf_11 (by decide) ?_
    replace hv := Option.some.inj hv
    subst hv
    rw [← kt]
    exact z_iret hc hB hr dX12_onceOf_85
theorem qmX12_214 : Cond.methodLink RX12 214 yX12_takes ∈ z_ws := List.mem_filter.mpr ⟨List.mem_append_right _ (List.mem_of_getElem? (i := 1517) (by decide +kernel)), rfl⟩
theorem qc_X12_takes : Cond.code yX12_takes cX12_takes 3 (some .boolean) ∈ z_ws := List.mem_filter.mpr ⟨List.mem_append_right _ (List.mem_of_getElem? (i := 1520) (by decide +kernel)), rfl⟩
theorem qi_X12_takes : Cond.instanceMethod yX12_takes ∈ z_ws := List.mem_filter.mpr ⟨List.mem_append_right _ (List.mem_of_getElem? (i := 1519) (by decide +kernel)), rfl⟩
theorem qs_X12_takes : Cond.selects RX12 yX12_takes yX12_takes ∈ z_ws := List.mem_filter.mpr ⟨List.mem_append_left _ (List.mem_of_getElem? (i := 42) (by decide +kernel)), rfl⟩
theorem md_X12_takes : z_mdV yX12_takes cX12_takes 3 (some .boolean) 2 := ⟨⟨qn_RX12, qc_X12_takes, ⟨by decide +kernel, by decide +kernel, by decide +kernel⟩⟩, qi_X12_takes, qs_X12_takes⟩
theorem qfX12_207 : Cond.fieldLink RX12 207 "DreamTestsModel" "onces" "I" ∈ z_ws := List.mem_filter.mpr ⟨List.mem_append_right _ (List.mem_of_getElem? (i := 1320) (by decide +kernel)), rfl⟩
theorem qmX12_210 : Cond.methodLink RX12 210 yX12_bitOf ∈ z_ws := List.mem_filter.mpr ⟨List.mem_append_right _ (List.mem_of_getElem? (i := 1510) (by decide +kernel)), rfl⟩
theorem qc_X12_bitOf : Cond.code yX12_bitOf cX12_bitOf 2 (some .boolean) ∈ z_ws := List.mem_filter.mpr ⟨List.mem_append_right _ (List.mem_of_getElem? (i := 1512) (by decide +kernel)), rfl⟩
theorem qs_X12_bitOf : Cond.static yX12_bitOf ∈ z_ws := List.mem_filter.mpr ⟨List.mem_append_right _ (List.mem_of_getElem? (i := 1511) (by decide +kernel)), rfl⟩
theorem md_X12_bitOf : z_mdS yX12_bitOf cX12_bitOf 2 (some .boolean) 2 := ⟨⟨qn_RX12, qc_X12_bitOf, ⟨by decide +kernel, by decide +kernel, by decide +kernel⟩⟩, qs_X12_bitOf⟩
theorem dX12_readOnce_0 : decode cX12_readOnce 0 = .ok (.aload_n 0, 1) := by decide +kernel
theorem dX12_readOnce_1 : decode cX12_readOnce 1 = .ok (.getfield 207, 3) := by decide +kernel
theorem dX12_readOnce_4 : decode cX12_readOnce 4 = .ok (.iload_n 1, 1) := by decide +kernel
theorem dX12_readOnce_5 : decode cX12_readOnce 5 = .ok (.invokestatic 210, 3) := by decide +kernel
theorem dX12_readOnce_8 : decode cX12_readOnce 8 = .ok (.ifCond .eq 9, 3) := by decide +kernel
theorem dX12_readOnce_11 : decode cX12_readOnce 11 = .ok (.aload_n 0, 1) := by decide +kernel
theorem dX12_readOnce_12 : decode cX12_readOnce 12 = .ok (.iconst 3, 1) := by decide +kernel
theorem dX12_readOnce_13 : decode cX12_readOnce 13 = .ok (.invokevirtual 182, 3) := by decide +kernel
theorem dX12_readOnce_16 : decode cX12_readOnce 16 = .ok (.ireturn, 1) := by decide +kernel
theorem dX12_readOnce_17 : decode cX12_readOnce 17 = .ok (.aload_n 0, 1) := by decide +kernel
theorem dX12_readOnce_18 : decode cX12_readOnce 18 = .ok (.dup, 1) := by decide +kernel
theorem dX12_readOnce_19 : decode cX12_readOnce 19 = .ok (.getfield 207, 3) := by decide +kernel
theorem dX12_readOnce_22 : decode cX12_readOnce 22 = .ok (.iconst 1, 1) := by decide +kernel
theorem dX12_readOnce_23 : decode cX12_readOnce 23 = .ok (.iload_n 1, 1) := by decide +kernel
theorem dX12_readOnce_24 : decode cX12_readOnce 24 = .ok (.ishl, 1) := by decide +kernel
theorem dX12_readOnce_25 : decode cX12_readOnce 25 = .ok (.ior, 1) := by decide +kernel
theorem dX12_readOnce_26 : decode cX12_readOnce 26 = .ok (.putfield 207, 3) := by decide +kernel
theorem dX12_readOnce_29 : decode cX12_readOnce 29 = .ok (.aload_n 0, 1) := by decide +kernel
theorem dX12_readOnce_30 : decode cX12_readOnce 30 = .ok (.invokevirtual 185, 3) := by decide +kernel
theorem dX12_readOnce_33 : decode cX12_readOnce 33 = .ok (.iload_n 1, 1) := by decide +kernel
theorem dX12_readOnce_34 : decode cX12_readOnce 34 = .ok (.iconst 5, 1) := by decide +kernel
theorem dX12_readOnce_35 : decode cX12_readOnce 35 = .ok (.if_icmp .ne 13, 3) := by decide +kernel
theorem dX12_readOnce_38 : decode cX12_readOnce 38 = .ok (.aload_n 0, 1) := by decide +kernel
theorem dX12_readOnce_39 : decode cX12_readOnce 39 = .ok (.getfield 37, 3) := by decide +kernel
theorem dX12_readOnce_42 : decode cX12_readOnce 42 = .ok (.bipush 7, 2) := by decide +kernel
theorem dX12_readOnce_44 : decode cX12_readOnce 44 = .ok (.iconst 1, 1) := by decide +kernel
theorem dX12_readOnce_45 : decode cX12_readOnce 45 = .ok (.iastore, 1) := by decide +kernel
theorem dX12_readOnce_46 : decode cX12_readOnce 46 = .ok (.iconst 1, 1) := by decide +kernel
theorem dX12_readOnce_47 : decode cX12_readOnce 47 = .ok (.ireturn, 1) := by decide +kernel
theorem dX12_readOnce_48 : decode cX12_readOnce 48 = .ok (.aload_n 0, 1) := by decide +kernel
theorem dX12_readOnce_49 : decode cX12_readOnce 49 = .ok (.iload_n 1, 1) := by decide +kernel
theorem dX12_readOnce_50 : decode cX12_readOnce 50 = .ok (.ifCond .ne 7, 3) := by decide +kernel
theorem dX12_readOnce_53 : decode cX12_readOnce 53 = .ok (.iconst 1, 1) := by decide +kernel
theorem dX12_readOnce_54 : decode cX12_readOnce 54 = .ok (.goto 13, 3) := by decide +kernel
theorem dX12_readOnce_57 : decode cX12_readOnce 57 = .ok (.iload_n 1, 1) := by decide +kernel
theorem dX12_readOnce_58 : decode cX12_readOnce 58 = .ok (.iconst 2, 1) := by decide +kernel
theorem dX12_readOnce_59 : decode cX12_readOnce 59 = .ok (.if_icmp .ne 7, 3) := by decide +kernel
theorem dX12_readOnce_62 : decode cX12_readOnce 62 = .ok (.iconst 5, 1) := by decide +kernel
theorem dX12_readOnce_63 : decode cX12_readOnce 63 = .ok (.goto 4, 3) := by decide +kernel
theorem dX12_readOnce_66 : decode cX12_readOnce 66 = .ok (.iconst 0, 1) := by decide +kernel
theorem dX12_readOnce_67 : decode cX12_readOnce 67 = .ok (.iload_n 1, 1) := by decide +kernel
theorem dX12_readOnce_68 : decode cX12_readOnce 68 = .ok (.ifCond .ne 8, 3) := by decide +kernel
theorem dX12_readOnce_71 : decode cX12_readOnce 71 = .ok (.bipush 20, 2) := by decide +kernel
theorem dX12_readOnce_73 : decode cX12_readOnce 73 = .ok (.goto 25, 3) := by decide +kernel
theorem dX12_readOnce_76 : decode cX12_readOnce 76 = .ok (.iload_n 1, 1) := by decide +kernel
theorem dX12_readOnce_77 : decode cX12_readOnce 77 = .ok (.iconst 1, 1) := by decide +kernel
theorem dX12_readOnce_78 : decode cX12_readOnce 78 = .ok (.if_icmp .ne 8, 3) := by decide +kernel
theorem dX12_readOnce_81 : decode cX12_readOnce 81 = .ok (.bipush 12, 2) := by decide +kernel
theorem dX12_readOnce_83 : decode cX12_readOnce 83 = .ok (.goto 15, 3) := by decide +kernel
theorem dX12_readOnce_86 : decode cX12_readOnce 86 = .ok (.iload_n 1, 1) := by decide +kernel
theorem dX12_readOnce_87 : decode cX12_readOnce 87 = .ok (.iconst 2, 1) := by decide +kernel
theorem dX12_readOnce_88 : decode cX12_readOnce 88 = .ok (.if_icmp .ne 8, 3) := by decide +kernel
theorem dX12_readOnce_91 : decode cX12_readOnce 91 = .ok (.bipush 9, 2) := by decide +kernel
theorem dX12_readOnce_93 : decode cX12_readOnce 93 = .ok (.goto 5, 3) := by decide +kernel
theorem dX12_readOnce_96 : decode cX12_readOnce 96 = .ok (.bipush 99, 2) := by decide +kernel
theorem dX12_readOnce_98 : decode cX12_readOnce 98 = .ok (.invokevirtual 214, 3) := by decide +kernel
theorem dX12_readOnce_101 : decode cX12_readOnce 101 = .ok (.ifCond .ne 5, 3) := by decide +kernel
theorem dX12_readOnce_104 : decode cX12_readOnce 104 = .ok (.iconst 0, 1) := by decide +kernel
theorem dX12_readOnce_105 : decode cX12_readOnce 105 = .ok (.ireturn, 1) := by decide +kernel
theorem dX12_readOnce_106 : decode cX12_readOnce 106 = .ok (.aload_n 0, 1) := by decide +kernel
theorem dX12_readOnce_107 : decode cX12_readOnce 107 = .ok (.getfield 37, 3) := by decide +kernel
theorem dX12_readOnce_110 : decode cX12_readOnce 110 = .ok (.iconst 2, 1) := by decide +kernel
theorem dX12_readOnce_111 : decode cX12_readOnce 111 = .ok (.iload_n 1, 1) := by decide +kernel
theorem dX12_readOnce_112 : decode cX12_readOnce 112 = .ok (.iadd, 1) := by decide +kernel
theorem dX12_readOnce_113 : decode cX12_readOnce 113 = .ok (.aload_n 0, 1) := by decide +kernel
theorem dX12_readOnce_114 : decode cX12_readOnce 114 = .ok (.getfield 192, 3) := by decide +kernel
theorem dX12_readOnce_117 : decode cX12_readOnce 117 = .ok (.iastore, 1) := by decide +kernel
theorem dX12_readOnce_118 : decode cX12_readOnce 118 = .ok (.iconst 1, 1) := by decide +kernel
theorem dX12_readOnce_119 : decode cX12_readOnce 119 = .ok (.ireturn, 1) := by decide +kernel
abbrev rm_X12_readOnce : Room := { frames := 3, cells := 0, slots := 0, locals := 65 }
noncomputable def fX12_readOnce_b98 (o0 : Nat) (x1 : Int32) (s0 : Nat) (s1 : Int32) (s2 : Int32) (h : z_T) : Option (Int32 × z_T) :=
  y_gd (z_ok h s0 11) <|
  y_bi (fX12_takes s0 s1 s2 h) fun ⟨r2, h6⟩ =>
  y_br (r2 = 0)
    (some ((0 : Int32), h6))
    (y_gd (z_ok h6 o0 11) <|
    y_bi (z_R h6 o0 7) fun o10 =>
    y_gd (z_ok h6 o10 13) <|
    y_gd (z_ix ((2 : Int32) + x1) (z_N h6 o10)) <|
    y_nm (z_sI h6 o10 ((2 : Int32) + x1).toNatClampNeg (z_I h6 o0 18)) fun h13 =>
    some ((1 : Int32), h13))
noncomputable def fX12_readOnce_b67 (o0 : Nat) (x1 : Int32) (s0 : Nat) (s1 : Int32) (h : z_T) : Option (Int32 × z_T) :=
  y_br (x1 = 0)
    (fX12_readOnce_b98 o0 x1 s0 s1 (20 : Int32) h)
    (y_br (x1 = (1 : Int32))
      (fX12_readOnce_b98 o0 x1 s0 s1 (12 : Int32) h)
      (y_br (x1 = (2 : Int32))
        (fX12_readOnce_b98 o0 x1 s0 s1 (9 : Int32) h)
        (fX12_readOnce_b98 o0 x1 s0 s1 (99 : Int32) h)))
noncomputable def fX12_readOnce (o0 : Nat) (x1 : Int32) (h : z_T) : Option (Int32 × z_T) :=
  y_gd (z_ok h o0 11) <|
  y_bi (fX12_bitOf (z_I h o0 20) x1) fun r19 =>
  y_br (r19 = 0)
    (y_nm (z_sI h o0 20 ((z_I h o0 20) ||| ((1 : Int32) <<< (x1 &&& 31)))) fun h24 =>
    y_bi (fX12_go o0 h24) fun h26 =>
    y_br (x1 = (5 : Int32))
      (y_gd (z_ok h26 o0 11) <|
      y_bi (z_R h26 o0 7) fun o31 =>
      y_gd (z_ok h26 o31 13) <|
      y_gd (z_ix (7 : Int32) (z_N h26 o31)) <|
      y_nm (z_sI h26 o31 (7 : Int32).toNatClampNeg (1 : Int32)) fun h34 =>
      some ((1 : Int32), h34))
      (y_br (x1 = 0)
        (fX12_readOnce_b67 o0 x1 o0 (1 : Int32) h26)
        (y_br (x1 = (2 : Int32))
          (fX12_readOnce_b67 o0 x1 o0 (5 : Int32) h26)
          (fX12_readOnce_b67 o0 x1 o0 (0 : Int32) h26))))
    (y_bi (fX12_bad o0 (3 : Int32) h) fun ⟨r36, h40⟩ =>
    y_gd (y_b r36) <|
    some (r36, h40))
set_option maxHeartbeats 4000000 in
set_option maxRecDepth 100000 in
theorem mm_X12_readOnce {G : z_Gt} {S : State → Prop} (hSK : z_SK S) (l : Launch) (ad : Nat → Nat) (o0 : Nat) (x1 : Int32) (h : z_T) {r0 : Int32} {h9 : z_T} (hv : fX12_readOnce o0 x1 h = some (r0, h9)) : z_Mi G S l yX12_readOnce cX12_readOnce 2 (.boolean) rm_X12_readOnce 0 0 [.ref (ad o0), .int x1] ad h h9 r0 := by
  refine z_ofW hSK (by decide) (Nat.le_of_ble_eq_true rfl) ?_
  intro p e s m args below meth c ls hc hr hnm hB hl
  have hx := hc.1.1
  have hb := hc.1.2.1
  have hown := hc.1.2.2.2.1
  have hts := hc.1.2.2.2.2
  replace hc : z_C G S ad (z_n h) p m c cX12_readOnce 2 s args RX12 meth := hc
  replace hown : s.vm.findClass RX12 = some m.cls := hown
  replace hl : lv_has ls 2 [(0, .ref (ad o0)), (1, .int x1)] := hl
  show W p l e rm_X12_readOnce s m args below meth c s.heap [] 0 0 (MQ below (z_Qi G ad h9 (z_n h) s.heap.size r0) args s 0 0 (z_A ad (z_n h) s.heap.size)) (F0 m 0 ls [])
  obtain ⟨rs, kt⟩ : ∃ rs : Int32 × z_T, rs = (r0, h9) := ⟨_, rfl⟩
  generalize hn0 : z_n h = n0 at hc hB ⊢
  have b98 : ∀ (s0 : Nat) (s1 : Int32) (s2 : Int32) (h : z_T) (H : Heap) (locs : List Loc) (ls : Array Slot), z_B G ad n0 s h H locs → lv_has ls 2 [(0, .ref (ad o0)), (1, .int x1)] → ∀ w, fX12_readOnce_b98 o0 x1 s0 s1 s2 h = some w → w = (r0, h9) → W p l e rm_X12_readOnce s m args below meth c H locs 0 0 (MQ below (z_Qi G ad h9 n0 s.heap.size r0) args s 0 0 (z_A ad n0 s.heap.size)) (F0 m 98 ls [.int s2, .int s1, .ref (ad s0)]) := by
    intro s0 s1 s2 h H locs ls hB hl w hv kb
    obtain ⟨g7, hv⟩ := y_gd_e hv
    obtain ⟨⟨r2, h6⟩, c1, hv⟩ := y_bi_e hv
    refine z_thI hc hB (z_runV hc hB 11 (mm_X12_takes hSK l ad s0 s1 s2 h c1) md_X12_takes qmX12_214 g7 (by decide) rfl rfl rfl ⟨Nat.le_of_ble_eq_true rfl, Nat.le_of_ble_eq_true rfl⟩ rfl hl.1 rfl (Nat.le_of_ble_eq_true rfl) dX12_readOnce_98 ⟨Nat.le_of_ble_eq_true rfl, Nat.le_of_ble_eq_true rfl⟩) (fun H locs hB => ?_)
    refine lv_if_ne (tgt := 106) hx hb dX12_readOnce_101 (by decide) (fun c8 => ?_) (fun c8 => ?_)
    · replace hv := y_br_f hv c8
      refine lv_aload_n hx hb dX12_readOnce_106 rfl (lv_at hl 0 rfl) ?_
      obtain ⟨g9, hv⟩ := y_gd_e hv
      obtain ⟨o10, eo10, hv⟩ := y_bi_e hv
      refine z_getR hc hB 11 7 g9 eo10 (by decide) (by decide) rfl (z_l1 hc qfX12_37) dX12_readOnce_107 ?_
      refine lv_iconst (v := (2 : Int32)) hx hb dX12_readOnce_110 (by decide) ?_
      refine lv_iload_n hx hb dX12_readOnce_111 rfl (lv_at hl 1 rfl) ?_
      refine lv_iadd hx hb dX12_readOnce_112 ?_
      refine lv_aload_n hx hb dX12_readOnce_113 rfl (lv_at hl 0 rfl) ?_
      refine z_getI hc hB 11 18 g9 (by decide) (by decide) rfl (z_l1 hc qfX12_192) dX12_readOnce_114 ?_
      obtain ⟨g11, hv⟩ := y_gd_e hv
      obtain ⟨i12, hv⟩ := y_gd_e hv
      obtain ⟨h13, eh13, hv⟩ := y_nm_e hv
      refine y_iast hc hB eh13 g11 i12 dX12_readOnce_117 (fun H locs hB => ?_)
      refine lv_iconst (v := (1 : Int32)) hx hb dX12_readOnce_118 (by decide) ?_
      replace hv := Option.some.inj hv
      subst hv
      obtain ⟨e1, e2⟩ := y_pr kb
      rw [← e1, ← e2]
      exact z_zret hc hB hr rfl dX12_readOnce_119
    · replace hv := y_br_t hv c8
      refine lv_iconst (v := (0 : Int32)) hx hb dX12_readOnce_104 (by decide) ?_
      replace hv := Option.some.inj hv
      subst hv
      obtain ⟨e1, e2⟩ := y_pr kb
      rw [← e1, ← e2]
      exact z_zret hc hB hr rfl dX12_readOnce_105
  have b67 : ∀ (s0 : Nat) (s1 : Int32) (h : z_T) (H : Heap) (locs : List Loc) (ls : Array Slot), z_B G ad n0 s h H locs → lv_has ls 2 [(0, .ref (ad o0)), (1, .int x1)] → ∀ w, fX12_readOnce_b67 o0 x1 s0 s1 h = some w → w = (r0, h9) → W p l e rm_X12_readOnce s m args below meth c H locs 0 0 (MQ below (z_Qi G ad h9 n0 s.heap.size r0) args s 0 0 (z_A ad n0 s.heap.size)) (F0 m 67 ls [.int s1, .ref (ad s0)]) := by
    intro s0 s1 h H locs ls hB hl w hv kb
    refine lv_iload_n hx hb dX12_readOnce_67 rfl (lv_at hl 1 rfl) ?_
    refine lv_if_ne (tgt := 76) hx hb dX12_readOnce_68 (by decide) (fun c14 => ?_) (fun c14 => ?_)
    · replace hv := y_br_f hv c14
      refine lv_iload_n hx hb dX12_readOnce_76 rfl (lv_at hl 1 rfl) ?_
      refine lv_iconst (v := (1 : Int32)) hx hb dX12_readOnce_77 (by decide) ?_
      refine lv_icmp_ne (tgt := 86) hx hb dX12_readOnce_78 (by decide) (fun c15 => ?_) (fun c15 => ?_)
      · replace hv := y_br_f hv c15
        refine lv_iload_n hx hb dX12_readOnce_86 rfl (lv_at hl 1 rfl) ?_
        refine lv_iconst (v := (2 : Int32)) hx hb dX12_readOnce_87 (by decide) ?_
        refine lv_icmp_ne (tgt := 96) hx hb dX12_readOnce_88 (by decide) (fun c16 => ?_) (fun c16 => ?_)
        · replace hv := y_br_f hv c16
          refine lv_bipush (v := (99 : Int32)) hx hb dX12_readOnce_96 (by decide) ?_
          exact b98 s0 s1 (99 : Int32) h _ _ _ hB (lv_sub hl [0, 1] rfl) _ hv kb
        · replace hv := y_br_t hv c16
          refine lv_bipush (v := (9 : Int32)) hx hb dX12_readOnce_91 (by decide) ?_
          refine lv_goto (tgt := 98) hx hb dX12_readOnce_93 (by decide) ?_
          exact b98 s0 s1 (9 : Int32) h _ _ _ hB (lv_sub hl [0, 1] rfl) _ hv kb
      · replace hv := y_br_t hv c15
        refine lv_bipush (v := (12 : Int32)) hx hb dX12_readOnce_81 (by decide) ?_
        refine lv_goto (tgt := 98) hx hb dX12_readOnce_83 (by decide) ?_
        exact b98 s0 s1 (12 : Int32) h _ _ _ hB (lv_sub hl [0, 1] rfl) _ hv kb
    · replace hv := y_br_t hv c14
      refine lv_bipush (v := (20 : Int32)) hx hb dX12_readOnce_71 (by decide) ?_
      refine lv_goto (tgt := 98) hx hb dX12_readOnce_73 (by decide) ?_
      exact b98 s0 s1 (20 : Int32) h _ _ _ hB (lv_sub hl [0, 1] rfl) _ hv kb
  rw [← kt] at hv
  refine lv_aload_n hx hb dX12_readOnce_0 rfl (lv_at hl 0 rfl) ?_
  obtain ⟨g17, hv⟩ := y_gd_e hv
  refine z_getI hc hB 11 20 g17 (by decide) (by decide) rfl (z_l1 hc qfX12_207) dX12_readOnce_1 ?_
  refine lv_iload_n hx hb dX12_readOnce_4 rfl (lv_at hl 1 rfl) ?_
  obtain ⟨r19, c18, hv⟩ := y_bi_e hv
  refine z_thI hc hB (z_runS hc hB (mm_X12_bitOf hSK l ad (z_I h o0 20) x1 h c18) md_X12_bitOf qmX12_210 rfl rfl ⟨Nat.le_of_ble_eq_true rfl, Nat.le_of_ble_eq_true rfl⟩ rfl hl.1 rfl (Nat.le_of_ble_eq_true rfl) dX12_readOnce_5 ⟨Nat.le_of_ble_eq_true rfl, Nat.le_of_ble_eq_true rfl⟩) (fun H locs hB => ?_)
  refine lv_if_eq (tgt := 17) hx hb dX12_readOnce_8 (by decide) (fun c23 => ?_) (fun c23 => ?_)
  · replace hv := y_br_t hv c23
    refine lv_aload_n hx hb dX12_readOnce_17 rfl (lv_at hl 0 rfl) ?_
    refine lv_dup hx hb dX12_readOnce_18 rfl ?_
    refine z_getI hc hB 11 20 g17 (by decide) (by decide) rfl (z_l1 hc qfX12_207) dX12_readOnce_19 ?_
    refine lv_iconst (v := (1 : Int32)) hx hb dX12_readOnce_22 (by decide) ?_
    refine lv_iload_n hx hb dX12_readOnce_23 rfl (lv_at hl 1 rfl) ?_
    refine lv_ishl hx hb dX12_readOnce_24 ?_
    refine lv_ior hx hb dX12_readOnce_25 ?_
    obtain ⟨h24, eh24, hv⟩ := y_nm_e hv
    refine y_putI hc hB 11 20 eh24 g17 (z_l1 hc qfX12_207) dX12_readOnce_26 (by decide) (by decide) rfl rfl rfl rfl (fun H locs hB => ?_)
    refine lv_aload_n hx hb dX12_readOnce_29 rfl (lv_at hl 0 rfl) ?_
    obtain ⟨h26, c25, hv⟩ := y_bi_e hv
    refine z_thV hc hB (z_runV hc hB 11 (mm_X12_go hSK l ad o0 h24 c25) md_X12_go qmX12_185 (by rw [eh24]; exact g17) (by decide) rfl rfl rfl ⟨Nat.le_of_ble_eq_true rfl, Nat.le_of_ble_eq_true rfl⟩ rfl hl.1 rfl (Nat.le_of_ble_eq_true rfl) dX12_readOnce_30 ⟨Nat.le_of_ble_eq_true rfl, Nat.le_of_ble_eq_true rfl⟩) (fun H locs hB => ?_)
    refine lv_iload_n hx hb dX12_readOnce_33 rfl (lv_at hl 1 rfl) ?_
    refine lv_iconst (v := (5 : Int32)) hx hb dX12_readOnce_34 (by decide) ?_
    refine lv_icmp_ne (tgt := 48) hx hb dX12_readOnce_35 (by decide) (fun c27 => ?_) (fun c27 => ?_)
    · replace hv := y_br_f hv c27
      refine lv_aload_n hx hb dX12_readOnce_48 rfl (lv_at hl 0 rfl) ?_
      refine lv_iload_n hx hb dX12_readOnce_49 rfl (lv_at hl 1 rfl) ?_
      refine lv_if_ne (tgt := 57) hx hb dX12_readOnce_50 (by decide) (fun c28 => ?_) (fun c28 => ?_)
      · replace hv := y_br_f hv c28
        refine lv_iload_n hx hb dX12_readOnce_57 rfl (lv_at hl 1 rfl) ?_
        refine lv_iconst (v := (2 : Int32)) hx hb dX12_readOnce_58 (by decide) ?_
        refine lv_icmp_ne (tgt := 66) hx hb dX12_readOnce_59 (by decide) (fun c29 => ?_) (fun c29 => ?_)
        · replace hv := y_br_f hv c29
          refine lv_iconst (v := (0 : Int32)) hx hb dX12_readOnce_66 (by decide) ?_
          exact b67 o0 (0 : Int32) h26 _ _ _ hB (lv_sub hl [0, 1] rfl) _ hv kt
        · replace hv := y_br_t hv c29
          refine lv_iconst (v := (5 : Int32)) hx hb dX12_readOnce_62 (by decide) ?_
          refine lv_goto (tgt := 67) hx hb dX12_readOnce_63 (by decide) ?_
          exact b67 o0 (5 : Int32) h26 _ _ _ hB (lv_sub hl [0, 1] rfl) _ hv kt
      · replace hv := y_br_t hv c28
        refine lv_iconst (v := (1 : Int32)) hx hb dX12_readOnce_53 (by decide) ?_
        refine lv_goto (tgt := 67) hx hb dX12_readOnce_54 (by decide) ?_
        exact b67 o0 (1 : Int32) h26 _ _ _ hB (lv_sub hl [0, 1] rfl) _ hv kt
    · replace hv := y_br_t hv c27
      refine lv_aload_n hx hb dX12_readOnce_38 rfl (lv_at hl 0 rfl) ?_
      obtain ⟨g30, hv⟩ := y_gd_e hv
      obtain ⟨o31, eo31, hv⟩ := y_bi_e hv
      refine z_getR hc hB 11 7 g30 eo31 (by decide) (by decide) rfl (z_l1 hc qfX12_37) dX12_readOnce_39 ?_
      refine lv_bipush (v := (7 : Int32)) hx hb dX12_readOnce_42 (by decide) ?_
      refine lv_iconst (v := (1 : Int32)) hx hb dX12_readOnce_44 (by decide) ?_
      obtain ⟨g32, hv⟩ := y_gd_e hv
      obtain ⟨i33, hv⟩ := y_gd_e hv
      obtain ⟨h34, eh34, hv⟩ := y_nm_e hv
      refine y_iast hc hB eh34 g32 i33 dX12_readOnce_45 (fun H locs hB => ?_)
      refine lv_iconst (v := (1 : Int32)) hx hb dX12_readOnce_46 (by decide) ?_
      replace hv := Option.some.inj hv
      subst hv
      obtain ⟨e1, e2⟩ := y_pr kt
      rw [← e1, ← e2]
      exact z_zret hc hB hr rfl dX12_readOnce_47
  · replace hv := y_br_f hv c23
    refine lv_aload_n hx hb dX12_readOnce_11 rfl (lv_at hl 0 rfl) ?_
    refine lv_iconst (v := (3 : Int32)) hx hb dX12_readOnce_12 (by decide) ?_
    obtain ⟨⟨r36, h40⟩, c35, hv⟩ := y_bi_e hv
    refine z_thI hc hB (z_runV hc hB 11 (mm_X12_bad hSK l ad o0 (3 : Int32) h c35) md_X12_bad qmX12_182 g17 (by decide) rfl rfl rfl ⟨Nat.le_of_ble_eq_true rfl, Nat.le_of_ble_eq_true rfl⟩ rfl hl.1 rfl (Nat.le_of_ble_eq_true rfl) dX12_readOnce_13 ⟨Nat.le_of_ble_eq_true rfl, Nat.le_of_ble_eq_true rfl⟩) (fun H locs hB => ?_)
    obtain ⟨y41, hv⟩ := y_gd_e hv
    replace hv := Option.some.inj hv
    subst hv
    obtain ⟨e1, e2⟩ := y_pr kt
    rw [← e1, ← e2]
    exact z_zret hc hB hr (y_b_n y41) dX12_readOnce_16
