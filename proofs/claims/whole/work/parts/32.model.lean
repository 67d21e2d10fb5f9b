/-! the methods of the reference: the rows that decode, a function each, the walk (by gen3.py) -/
theorem qfX12_56 : Cond.fieldLink RX12 56 "DreamTestsModel" "before" "[I" ∈ z_ws := List.mem_filter.mpr ⟨List.mem_append_right _ (List.mem_of_getElem? (i := 1323) (by decide +kernel)), rfl⟩
theorem dX12_tries_0 : decode cX12_tries 0 = .ok (.iconst 0, 1) := by decide +kernel
theorem dX12_tries_1 : decode cX12_tries 1 = .ok (.istore_n 1, 1) := by decide +kernel
theorem dX12_tries_2 : decode cX12_tries 2 = .ok (.iload_n 1, 1) := by decide +kernel
theorem dX12_tries_3 : decode cX12_tries 3 = .ok (.bipush 13, 2) := by decide +kernel
theorem dX12_tries_5 : decode cX12_tries 5 = .ok (.if_icmp .ge 24, 3) := by decide +kernel
theorem dX12_tries_8 : decode cX12_tries 8 = .ok (.aload_n 0, 1) := by decide +kernel
theorem dX12_tries_9 : decode cX12_tries 9 = .ok (.getfield 56, 3) := by decide +kernel
theorem dX12_tries_12 : decode cX12_tries 12 = .ok (.iload_n 1, 1) := by decide +kernel
theorem dX12_tries_13 : decode cX12_tries 13 = .ok (.aload_n 0, 1) := by decide +kernel
theorem dX12_tries_14 : decode cX12_tries 14 = .ok (.getfield 33, 3) := by decide +kernel
theorem dX12_tries_17 : decode cX12_tries 17 = .ok (.bipush 36, 2) := by decide +kernel
theorem dX12_tries_19 : decode cX12_tries 19 = .ok (.iload_n 1, 1) := by decide +kernel
theorem dX12_tries_20 : decode cX12_tries 20 = .ok (.iadd, 1) := by decide +kernel
theorem dX12_tries_21 : decode cX12_tries 21 = .ok (.iaload, 1) := by decide +kernel
theorem dX12_tries_22 : decode cX12_tries 22 = .ok (.iastore, 1) := by decide +kernel
theorem dX12_tries_23 : decode cX12_tries 23 = .ok (.iinc 1 1, 3) := by decide +kernel
theorem dX12_tries_26 : decode cX12_tries 26 = .ok (.goto (-24), 3) := by decide +kernel
theorem dX12_tries_29 : decode cX12_tries 29 = .ok (.return_, 1) := by decide +kernel
abbrev rm_X12_tries : Room := { frames := 0, cells := 0, slots := 0, locals := 0 }
noncomputable def fX12_tries_b2_i (o0 : Nat) (x1 : Int32) (h : z_T) : Option ((Int32 × z_T) ⊕ (z_T)) :=
  y_br ((13 : Int32) ≤ x1)
    (y_mp <|
    some h)
    (y_gd (z_ok h o0 11) <|
    y_bi (z_R h o0 23) fun o4 =>
    y_bi (z_R h o0 6) fun o5 =>
    y_gd (z_ok h o5 13) <|
    y_gd (z_ix ((36 : Int32) + x1) (z_N h o5)) <|
    y_gd (z_ok h o4 13) <|
    y_gd (z_ix x1 (z_N h o4)) <|
    y_nm (z_sI h o4 x1.toNatClampNeg (z_I h o5 ((36 : Int32) + x1).toNatClampNeg)) fun h10 =>
    y_nm (x1 + 1) fun v11 =>
    some (.inl (v11, h10)))
noncomputable def fX12_tries_b2 (o0 : Nat) (x1 : Int32) (h : z_T) : Option (z_T) := y_lp (fun q : Int32 × z_T => fX12_tries_b2_i o0 q.1 q.2) (x1, h)
noncomputable def fX12_tries (o0 : Nat) (h : z_T) : Option (z_T) :=
  fX12_tries_b2 o0 (0 : Int32) h
set_option maxHeartbeats 4000000 in
set_option maxRecDepth 100000 in
theorem mm_X12_tries {G : z_Gt} {S : State → Prop} (hSK : z_SK S) (l : Launch) (ad : Nat → Nat) (o0 : Nat) (h : z_T) {h9 : z_T} (hv : fX12_tries o0 h = some h9) : z_Mv G S l yX12_tries cX12_tries 2 rm_X12_tries 0 0 [.ref (ad o0)] ad h h9 := by
  refine z_ofW hSK (by decide) (Nat.le_of_ble_eq_true rfl) ?_
  intro p e s m args below meth c ls hc hr hnm hB hl
  have hx := hc.1.1
  have hb := hc.1.2.1
  have hown := hc.1.2.2.2.1
  have hts := hc.1.2.2.2.2
  replace hc : z_C G S ad (z_n h) p m c cX12_tries 2 s args RX12 meth := hc
  replace hown : s.vm.findClass RX12 = some m.cls := hown
  replace hl : lv_has ls 2 [(0, .ref (ad o0))] := hl
  show W p l e rm_X12_tries s m args below meth c s.heap [] 0 0 (MQ below (z_Qv G ad h9 (z_n h) s.heap.size) args s 0 0 (z_A ad (z_n h) s.heap.size)) (F0 m 0 ls [])
  obtain ⟨rs, kt⟩ : ∃ rs : z_T, rs = h9 := ⟨_, rfl⟩
  generalize hn0 : z_n h = n0 at hc hB ⊢
  have L2 : ∀ (nn2 : Nat) (x1 : Int32) (h : z_T) (H : Heap) (locs : List Loc) (ls : Array Slot), z_B G ad n0 s h H locs → lv_has ls 2 [(0, .ref (ad o0)), (1, .int x1)] → ∀ vv2, y_lpN (fun q : Int32 × z_T => fX12_tries_b2_i o0 q.1 q.2) nn2 (x1, h) = some vv2 → vv2 = h9 → W p l e rm_X12_tries s m args below meth c H locs 0 0 (MQ below (z_Qv G ad h9 n0 s.heap.size) args s 0 0 (z_A ad n0 s.heap.size)) (F0 m 2 ls []) := by
    intro nn2
    induction nn2 with
    | zero => intro x1 h H locs ls hB hl vv2 hv kv2; exact absurd hv (fun q => y_lpN_0 q)
    | succ nn2 ih2 =>
      intro x1 h H locs ls hB hl vv2 hv kv2
      obtain ⟨w, hq, kw2⟩ := y_lpN_e hv
      clear hv
      have hv : fX12_tries_b2_i o0 x1 h = some w := hq
      clear hq
      refine lv_iload_n hx hb dX12_tries_2 rfl (lv_at hl 1 rfl) ?_
      refine lv_bipush (v := (13 : Int32)) hx hb dX12_tries_3 (by decide) ?_
      refine lv_icmp_ge (tgt := 29) hx hb dX12_tries_5 (by decide) (fun c1 => ?_) (fun c1 => ?_)
      · replace hv := y_br_t hv c1
        obtain ⟨t2, hq, ew⟩ := y_mp_e hv
        clear hv; subst ew
        replace kw2 : t2 = _ := kw2
        subst kw2
        have hv := hq
        clear hq
        replace hv := Option.some.inj hv
        subst hv
        rw [← kv2]
        exact z_vret hc hB hr dX12_tries_29
      · replace hv := y_br_f hv c1
        refine lv_aload_n hx hb dX12_tries_8 rfl (lv_at hl 0 rfl) ?_
        obtain ⟨g3, hv⟩ := y_gd_e hv
        obtain ⟨o4, eo4, hv⟩ := y_bi_e hv
        refine z_getR hc hB 11 23 g3 eo4 (by decide) (by decide) rfl (z_l1 hc qfX12_56) dX12_tries_9 ?_
        refine lv_iload_n hx hb dX12_tries_12 rfl (lv_at hl 1 rfl) ?_
        refine lv_aload_n hx hb dX12_tries_13 rfl (lv_at hl 0 rfl) ?_
        obtain ⟨o5, eo5, hv⟩ := y_bi_e hv
        refine z_getR hc hB 11 6 g3 eo5 (by decide) (by decide) rfl (z_l1 hc qfX12_33) dX12_tries_14 ?_
        refine lv_bipush (v := (36 : Int32)) hx hb dX12_tries_17 (by decide) ?_
        refine lv_iload_n hx hb dX12_tries_19 rfl (lv_at hl 1 rfl) ?_
        refine lv_iadd hx hb dX12_tries_20 ?_
        obtain ⟨g6, hv⟩ := y_gd_e hv
        obtain ⟨i7, hv⟩ := y_gd_e hv
        refine z_iald hc hB g6 i7 dX12_tries_21 ?_
        obtain ⟨g8, hv⟩ := y_gd_e hv
        obtain ⟨i9, hv⟩ := y_gd_e hv
        obtain ⟨h10, eh10, hv⟩ := y_nm_e hv
        refine y_iast hc hB eh10 g8 i9 dX12_tries_22 (fun H locs hB => ?_)
        obtain ⟨v11, ev11, hv⟩ := y_nm_e hv
        refine lv_iinc (v := v11) (lv' := [(1, .int v11), (0, .ref (ad o0))]) hx hb dX12_tries_23 hl (k := 1) rfl (by rw [ev11]; rfl) (by decide) rfl (fun ls hl => ?_)
        refine lv_goto (tgt := 2) hx hb dX12_tries_26 (by decide) ?_
        replace hv := Option.some.inj hv
        subst hv
        exact ih2 v11 h10 _ _ _ hB (lv_sub hl [1, 0] rfl) _ kw2 kv2
  rw [← kt] at hv
  refine lv_iconst (v := (0 : Int32)) hx hb dX12_tries_0 (by decide) ?_
  refine lv_istore_n (lv' := [(1, .int (0 : Int32)), (0, .ref (ad o0))]) hx hb dX12_tries_1 rfl hl (by decide) rfl (fun ls hl => ?_)
  obtain ⟨n, hv⟩ := y_lp_e hv
  exact L2 n (0 : Int32) h _ _ _ hB (lv_sub hl [1, 0] rfl) _ hv kt
theorem dX12_back_0 : decode cX12_back 0 = .ok (.iconst 0, 1) := by decide +kernel
theorem dX12_back_1 : decode cX12_back 1 = .ok (.istore_n 1, 1) := by decide +kernel
theorem dX12_back_2 : decode cX12_back 2 = .ok (.iload_n 1, 1) := by decide +kernel
theorem dX12_back_3 : decode cX12_back 3 = .ok (.bipush 13, 2) := by decide +kernel
theorem dX12_back_5 : decode cX12_back 5 = .ok (.if_icmp .ge 24, 3) := by decide +kernel
theorem dX12_back_8 : decode cX12_back 8 = .ok (.aload_n 0, 1) := by decide +kernel
theorem dX12_back_9 : decode cX12_back 9 = .ok (.getfield 33, 3) := by decide +kernel
theorem dX12_back_12 : decode cX12_back 12 = .ok (.bipush 36, 2) := by decide +kernel
theorem dX12_back_14 : decode cX12_back 14 = .ok (.iload_n 1, 1) := by decide +kernel
theorem dX12_back_15 : decode cX12_back 15 = .ok (.iadd, 1) := by decide +kernel
theorem dX12_back_16 : decode cX12_back 16 = .ok (.aload_n 0, 1) := by decide +kernel
theorem dX12_back_17 : decode cX12_back 17 = .ok (.getfield 56, 3) := by decide +kernel
theorem dX12_back_20 : decode cX12_back 20 = .ok (.iload_n 1, 1) := by decide +kernel
theorem dX12_back_21 : decode cX12_back 21 = .ok (.iaload, 1) := by decide +kernel
theorem dX12_back_22 : decode cX12_back 22 = .ok (.iastore, 1) := by decide +kernel
theorem dX12_back_23 : decode cX12_back 23 = .ok (.iinc 1 1, 3) := by decide +kernel
theorem dX12_back_26 : decode cX12_back 26 = .ok (.goto (-24), 3) := by decide +kernel
theorem dX12_back_29 : decode cX12_back 29 = .ok (.return_, 1) := by decide +kernel
abbrev rm_X12_back : Room := { frames := 0, cells := 0, slots := 0, locals := 0 }
noncomputable def fX12_back_b2_i (o0 : Nat) (x1 : Int32) (h : z_T) : Option ((Int32 × z_T) ⊕ (z_T)) :=
  y_br ((13 : Int32) ≤ x1)
    (y_mp <|
    some h)
    (y_gd (z_ok h o0 11) <|
    y_bi (z_R h o0 6) fun o4 =>
    y_bi (z_R h o0 23) fun o5 =>
    y_gd (z_ok h o5 13) <|
    y_gd (z_ix x1 (z_N h o5)) <|
    y_gd (z_ok h o4 13) <|
    y_gd (z_ix ((36 : Int32) + x1) (z_N h o4)) <|
    y_nm (z_sI h o4 ((36 : Int32) + x1).toNatClampNeg (z_I h o5 x1.toNatClampNeg)) fun h10 =>
    y_nm (x1 + 1) fun v11 =>
    some (.inl (v11, h10)))
noncomputable def fX12_back_b2 (o0 : Nat) (x1 : Int32) (h : z_T) : Option (z_T) := y_lp (fun q : Int32 × z_T => fX12_back_b2_i o0 q.1 q.2) (x1, h)
noncomputable def fX12_back (o0 : Nat) (h : z_T) : Option (z_T) :=
  fX12_back_b2 o0 (0 : Int32) h
set_option maxHeartbeats 4000000 in
set_option maxRecDepth 100000 in
theorem mm_X12_back {G : z_Gt} {S : State → Prop} (hSK : z_SK S) (l : Launch) (ad : Nat → Nat) (o0 : Nat) (h : z_T) {h9 : z_T} (hv : fX12_back o0 h = some h9) : z_Mv G S l yX12_back cX12_back 2 rm_X12_back 0 0 [.ref (ad o0)] ad h h9 := by
  refine z_ofW hSK (by decide) (Nat.le_of_ble_eq_true rfl) ?_
  intro p e s m args below meth c ls hc hr hnm hB hl
  have hx := hc.1.1
  have hb := hc.1.2.1
  have hown := hc.1.2.2.2.1
  have hts := hc.1.2.2.2.2
  replace hc : z_C G S ad (z_n h) p m c cX12_back 2 s args RX12 meth := hc
  replace hown : s.vm.findClass RX12 = some m.cls := hown
  replace hl : lv_has ls 2 [(0, .ref (ad o0))] := hl
  show W p l e rm_X12_back s m args below meth c s.heap [] 0 0 (MQ below (z_Qv G ad h9 (z_n h) s.heap.size) args s 0 0 (z_A ad (z_n h) s.heap.size)) (F0 m 0 ls [])
  obtain ⟨rs, kt⟩ : ∃ rs : z_T, rs = h9 := ⟨_, rfl⟩
  generalize hn0 : z_n h = n0 at hc hB ⊢
  have L2 : ∀ (nn2 : Nat) (x1 : Int32) (h : z_T) (H : Heap) (locs : List Loc) (ls : Array Slot), z_B G ad n0 s h H locs → lv_has ls 2 [(0, .ref (ad o0)), (1, .int x1)] → ∀ vv2, y_lpN (fun q : Int32 × z_T => fX12_back_b2_i o0 q.1 q.2) nn2 (x1, h) = some vv2 → vv2 = h9 → W p l e rm_X12_back s m args below meth c H locs 0 0 (MQ below (z_Qv G ad h9 n0 s.heap.size) args s 0 0 (z_A ad n0 s.heap.size)) (F0 m 2 ls []) := by
    intro nn2
    induction nn2 with
    | zero => intro x1 h H locs ls hB hl vv2 hv kv2; exact absurd hv (fun q => y_lpN_0 q)
    | succ nn2 ih2 =>
      intro x1 h H locs ls hB hl vv2 hv kv2
      obtain ⟨w, hq, kw2⟩ := y_lpN_e hv
      clear hv
      have hv : fX12_back_b2_i o0 x1 h = some w := hq
      clear hq
      refine lv_iload_n hx hb dX12_back_2 rfl (lv_at hl 1 rfl) ?_
      refine lv_bipush (v := (13 : Int32)) hx hb dX12_back_3 (by decide) ?_
      refine lv_icmp_ge (tgt := 29) hx hb dX12_back_5 (by decide) (fun c1 => ?_) (fun c1 => ?_)
      · replace hv := y_br_t hv c1
        obtain ⟨t2, hq, ew⟩ := y_mp_e hv
        clear hv; subst ew
        replace kw2 : t2 = _ := kw2
        subst kw2
        have hv := hq
        clear hq
        replace hv := Option.some.inj hv
        subst hv
        rw [← kv2]
        exact z_vret hc hB hr dX12_back_29
      · replace hv := y_br_f hv c1
        refine lv_aload_n hx hb dX12_back_8 rfl (lv_at hl 0 rfl) ?_
        obtain ⟨g3, hv⟩ := y_gd_e hv
        obtain ⟨o4, eo4, hv⟩ := y_bi_e hv
        refine z_getR hc hB 11 6 g3 eo4 (by decide) (by decide) rfl (z_l1 hc qfX12_33) dX12_back_9 ?_
        refine lv_bipush (v := (36 : Int32)) hx hb dX12_back_12 (by decide) ?_
        refine lv_iload_n hx hb dX12_back_14 rfl (lv_at hl 1 rfl) ?_
        refine lv_iadd hx hb dX12_back_15 ?_
        refine lv_aload_n hx hb dX12_back_16 rfl (lv_at hl 0 rfl) ?_
        obtain ⟨o5, eo5, hv⟩ := y_bi_e hv
        refine z_getR hc hB 11 23 g3 eo5 (by decide) (by decide) rfl (z_l1 hc qfX12_56) dX12_back_17 ?_
        refine lv_iload_n hx hb dX12_back_20 rfl (lv_at hl 1 rfl) ?_
        obtain ⟨g6, hv⟩ := y_gd_e hv
        obtain ⟨i7, hv⟩ := y_gd_e hv
        refine z_iald hc hB g6 i7 dX12_back_21 ?_
        obtain ⟨g8, hv⟩ := y_gd_e hv
        obtain ⟨i9, hv⟩ := y_gd_e hv
        obtain ⟨h10, eh10, hv⟩ := y_nm_e hv
        refine y_iast hc hB eh10 g8 i9 dX12_back_22 (fun H locs hB => ?_)
        obtain ⟨v11, ev11, hv⟩ := y_nm_e hv
        refine lv_iinc (v := v11) (lv' := [(1, .int v11), (0, .ref (ad o0))]) hx hb dX12_back_23 hl (k := 1) rfl (by rw [ev11]; rfl) (by decide) rfl (fun ls hl => ?_)
        refine lv_goto (tgt := 2) hx hb dX12_back_26 (by decide) ?_
        replace hv := Option.some.inj hv
        subst hv
        exact ih2 v11 h10 _ _ _ hB (lv_sub hl [1, 0] rfl) _ kw2 kv2
  rw [← kt] at hv
  refine lv_iconst (v := (0 : Int32)) hx hb dX12_back_0 (by decide) ?_
  refine lv_istore_n (lv' := [(1, .int (0 : Int32)), (0, .ref (ad o0))]) hx hb dX12_back_1 rfl hl (by decide) rfl (fun ls hl => ?_)
  obtain ⟨n, hv⟩ := y_lp_e hv
  exact L2 n (0 : Int32) h _ _ _ hB (lv_sub hl [1, 0] rfl) _ hv kt
theorem dX12_adds_0 : decode cX12_adds 0 = .ok (.aload_n 0, 1) := by decide +kernel
theorem dX12_adds_1 : decode cX12_adds 1 = .ok (.getfield 33, 3) := by decide +kernel
theorem dX12_adds_4 : decode cX12_adds 4 = .ok (.bipush 37, 2) := by decide +kernel
theorem dX12_adds_6 : decode cX12_adds 6 = .ok (.aload_n 0, 1) := by decide +kernel
theorem dX12_adds_7 : decode cX12_adds 7 = .ok (.getfield 33, 3) := by decide +kernel
theorem dX12_adds_10 : decode cX12_adds 10 = .ok (.bipush 36, 2) := by decide +kernel
theorem dX12_adds_12 : decode cX12_adds 12 = .ok (.iaload, 1) := by decide +kernel
theorem dX12_adds_13 : decode cX12_adds 13 = .ok (.iadd, 1) := by decide +kernel
theorem dX12_adds_14 : decode cX12_adds 14 = .ok (.iload_n 1, 1) := by decide +kernel
theorem dX12_adds_15 : decode cX12_adds 15 = .ok (.iastore, 1) := by decide +kernel
theorem dX12_adds_16 : decode cX12_adds 16 = .ok (.aload_n 0, 1) := by decide +kernel
theorem dX12_adds_17 : decode cX12_adds 17 = .ok (.getfield 33, 3) := by decide +kernel
theorem dX12_adds_20 : decode cX12_adds 20 = .ok (.bipush 36, 2) := by decide +kernel
theorem dX12_adds_22 : decode cX12_adds 22 = .ok (.dup2, 1) := by decide +kernel
theorem dX12_adds_23 : decode cX12_adds 23 = .ok (.iaload, 1) := by decide +kernel
theorem dX12_adds_24 : decode cX12_adds 24 = .ok (.iconst 1, 1) := by decide +kernel
theorem dX12_adds_25 : decode cX12_adds 25 = .ok (.iadd, 1) := by decide +kernel
theorem dX12_adds_26 : decode cX12_adds 26 = .ok (.iastore, 1) := by decide +kernel
theorem dX12_adds_27 : decode cX12_adds 27 = .ok (.return_, 1) := by decide +kernel
abbrev rm_X12_adds : Room := { frames := 0, cells := 0, slots := 0, locals := 0 }
noncomputable def fX12_adds (o0 : Nat) (x1 : Int32) (h : z_T) : Option (z_T) :=
  y_gd (z_ok h o0 11) <|
  y_bi (z_R h o0 6) fun o2 =>
  y_gd (z_ok h o2 13) <|
  y_gd (z_ix (36 : Int32) (z_N h o2)) <|
  y_gd (z_ix ((37 : Int32) + (z_I h o2 (36 : Int32).toNatClampNeg)) (z_N h o2)) <|
  y_nm (z_sI h o2 ((37 : Int32) + (z_I h o2 (36 : Int32).toNatClampNeg)).toNatClampNeg x1) fun h6 =>
  y_gd (z_ix (36 : Int32) (z_N h6 o2)) <|
  y_gd (z_ix (36 : Int32) (z_N h6 o2)) <|
  y_nm (z_sI h6 o2 (36 : Int32).toNatClampNeg ((z_I h6 o2 (36 : Int32).toNatClampNeg) + (1 : Int32))) fun h9 =>
  some h9
set_option maxHeartbeats 4000000 in
set_option maxRecDepth 100000 in
theorem mm_X12_adds {G : z_Gt} {S : State → Prop} (hSK : z_SK S) (l : Launch) (ad : Nat → Nat) (o0 : Nat) (x1 : Int32) (h : z_T) {h9 : z_T} (hv : fX12_adds o0 x1 h = some h9) : z_Mv G S l yX12_adds cX12_adds 2 rm_X12_adds 0 0 [.ref (ad o0), .int x1] ad h h9 := by
  refine z_ofW hSK (by decide) (Nat.le_of_ble_eq_true rfl) ?_
  intro p e s m args below meth c ls hc hr hnm hB hl
  have hx := hc.1.1
  have hb := hc.1.2.1
  have hown := hc.1.2.2.2.1
  have hts := hc.1.2.2.2.2
  replace hc : z_C G S ad (z_n h) p m c cX12_adds 2 s args RX12 meth := hc
  replace hown : s.vm.findClass RX12 = some m.cls := hown
  replace hl : lv_has ls 2 [(0, .ref (ad o0)), (1, .int x1)] := hl
  show W p l e rm_X12_adds s m args below meth c s.heap [] 0 0 (MQ below (z_Qv G ad h9 (z_n h) s.heap.size) args s 0 0 (z_A ad (z_n h) s.heap.size)) (F0 m 0 ls [])
  obtain ⟨rs, kt⟩ : ∃ rs : z_T, rs = h9 := ⟨_, rfl⟩
  generalize hn0 : z_n h = n0 at hc hB ⊢
  rw [← kt] at hv
  refine lv_aload_n hx hb dX12_adds_0 rfl (lv_at hl 0 rfl) ?_
  obtain ⟨g1, hv⟩ := y_gd_e hv
  obtain ⟨o2, eo2, hv⟩ := y_bi_e hv
  refine z_getR hc hB 11 6 g1 eo2 (by decide) (by decide) rfl (z_l1 hc qfX12_33) dX12_adds_1 ?_
  refine lv_bipush (v := (37 : Int32)) hx hb dX12_adds_4 (by decide) ?_
  refine lv_aload_n hx hb dX12_adds_6 rfl (lv_at hl 0 rfl) ?_
  refine z_getR hc hB 11 6 g1 eo2 (by decide) (by decide) rfl (z_l1 hc qfX12_33) dX12_adds_7 ?_
  refine lv_bipush (v := (36 : Int32)) hx hb dX12_adds_10 (by decide) ?_
  obtain ⟨g3, hv⟩ := y_gd_e hv
  obtain ⟨i4, hv⟩ := y_gd_e hv
  refine z_iald hc hB g3 i4 dX12_adds_12 ?_
  refine lv_iadd hx hb dX12_adds_13 ?_
  refine lv_iload_n hx hb dX12_adds_14 rfl (lv_at hl 1 rfl) ?_
  obtain ⟨i5, hv⟩ := y_gd_e hv
  obtain ⟨h6, eh6, hv⟩ := y_nm_e hv
  refine y_iast hc hB eh6 g3 i5 dX12_adds_15 (fun H locs hB => ?_)
  refine lv_aload_n hx hb dX12_adds_16 rfl (lv_at hl 0 rfl) ?_
  refine z_getR hc hB 11 6 (by rw [eh6]; exact g1) (by rw [eh6]; exact eo2) (by decide) (by decide) rfl (z_l1 hc qfX12_33) dX12_adds_17 ?_
  refine lv_bipush (v := (36 : Int32)) hx hb dX12_adds_20 (by decide) ?_
  refine lv_dup2_11 hx hb dX12_adds_22 rfl rfl ?_
  obtain ⟨i7, hv⟩ := y_gd_e hv
  refine z_iald hc hB (by rw [eh6]; exact g3) i7 dX12_adds_23 ?_
  refine lv_iconst (v := (1 : Int32)) hx hb dX12_adds_24 (by decide) ?_
  refine lv_iadd hx hb dX12_adds_25 ?_
  obtain ⟨i8, hv⟩ := y_gd_e hv
  obtain ⟨h9, eh9, hv⟩ := y_nm_e hv
  refine y_iast hc hB eh9 (by rw [eh6]; exact g3) i8 dX12_adds_26 (fun H locs hB => ?_)
  replace hv := Option.some.inj hv
  subst hv
  rw [← kt]
  exact z_vret hc hB hr dX12_adds_27
theorem qmX12_264 : Cond.methodLink RX12 264 yX12_likes ∈ z_ws := List.mem_filter.mpr ⟨List.mem_append_right _ (List.mem_of_getElem? (i := 1588) (by decide +kernel)), rfl⟩
theorem qc_X12_likes : Cond.code yX12_likes cX12_likes 7 (some .long) ∈ z_ws := List.mem_filter.mpr ⟨List.mem_append_right _ (List.mem_of_getElem? (i := 1591) (by decide +kernel)), rfl⟩
theorem qi_X12_likes : Cond.instanceMethod yX12_likes ∈ z_ws := List.mem_filter.mpr ⟨List.mem_append_right _ (List.mem_of_getElem? (i := 1590) (by decide +kernel)), rfl⟩
theorem qs_X12_likes : Cond.selects RX12 yX12_likes yX12_likes ∈ z_ws := List.mem_filter.mpr ⟨List.mem_append_left _ (List.mem_of_getElem? (i := 53) (by decide +kernel)), rfl⟩
theorem md_X12_likes : z_mdV yX12_likes cX12_likes 7 (some .long) 1 := ⟨⟨qn_RX12, qc_X12_likes, ⟨by decide +kernel, by decide +kernel, by decide +kernel⟩⟩, qi_X12_likes, qs_X12_likes⟩
theorem qmX12_268 : Cond.methodLink RX12 268 yX12_keep ∈ z_ws := List.mem_filter.mpr ⟨List.mem_append_right _ (List.mem_of_getElem? (i := 1600) (by decide +kernel)), rfl⟩
theorem qc_X12_keep : Cond.code yX12_keep cX12_keep 2 none ∈ z_ws := List.mem_filter.mpr ⟨List.mem_append_right _ (List.mem_of_getElem? (i := 1603) (by decide +kernel)), rfl⟩
theorem qi_X12_keep : Cond.instanceMethod yX12_keep ∈ z_ws := List.mem_filter.mpr ⟨List.mem_append_right _ (List.mem_of_getElem? (i := 1602) (by decide +kernel)), rfl⟩
theorem qs_X12_keep : Cond.selects RX12 yX12_keep yX12_keep ∈ z_ws := List.mem_filter.mpr ⟨List.mem_append_left _ (List.mem_of_getElem? (i := 56) (by decide +kernel)), rfl⟩
theorem md_X12_keep : z_mdV yX12_keep cX12_keep 2 none 0 := ⟨⟨qn_RX12, qc_X12_keep, ⟨by decide +kernel, by decide +kernel, by decide +kernel⟩⟩, qi_X12_keep, qs_X12_keep⟩
theorem dX12_ask_0 : decode cX12_ask 0 = .ok (.aload_n 0, 1) := by decide +kernel
theorem dX12_ask_1 : decode cX12_ask 1 = .ok (.iconst 0, 1) := by decide +kernel
theorem dX12_ask_2 : decode cX12_ask 2 = .ok (.putfield 1, 3) := by decide +kernel
theorem dX12_ask_5 : decode cX12_ask 5 = .ok (.aload_n 0, 1) := by decide +kernel
theorem dX12_ask_6 : decode cX12_ask 6 = .ok (.iload_n 1, 1) := by decide +kernel
theorem dX12_ask_7 : decode cX12_ask 7 = .ok (.invokevirtual 241, 3) := by decide +kernel
theorem dX12_ask_10 : decode cX12_ask 10 = .ok (.ifCond .eq 24, 3) := by decide +kernel
theorem dX12_ask_13 : decode cX12_ask 13 = .ok (.iload_n 2, 1) := by decide +kernel
theorem dX12_ask_14 : decode cX12_ask 14 = .ok (.iconst 0, 1) := by decide +kernel
theorem dX12_ask_15 : decode cX12_ask 15 = .ok (.iconst 1, 1) := by decide +kernel
theorem dX12_ask_16 : decode cX12_ask 16 = .ok (.invokestatic 188, 3) := by decide +kernel
theorem dX12_ask_19 : decode cX12_ask 19 = .ok (.ifCond .eq 15, 3) := by decide +kernel
theorem dX12_ask_22 : decode cX12_ask 22 = .ok (.aload_n 0, 1) := by decide +kernel
theorem dX12_ask_23 : decode cX12_ask 23 = .ok (.getfield 33, 3) := by decide +kernel
theorem dX12_ask_26 : decode cX12_ask 26 = .ok (.bipush 36, 2) := by decide +kernel
theorem dX12_ask_28 : decode cX12_ask 28 = .ok (.iaload, 1) := by decide +kernel
theorem dX12_ask_29 : decode cX12_ask 29 = .ok (.bipush 12, 2) := by decide +kernel
theorem dX12_ask_31 : decode cX12_ask 31 = .ok (.if_icmp .ne 5, 3) := by decide +kernel
theorem dX12_ask_34 : decode cX12_ask 34 = .ok (.iconst (-1), 1) := by decide +kernel
theorem dX12_ask_35 : decode cX12_ask 35 = .ok (.ireturn, 1) := by decide +kernel
theorem dX12_ask_36 : decode cX12_ask 36 = .ok (.aload_n 0, 1) := by decide +kernel
theorem dX12_ask_37 : decode cX12_ask 37 = .ok (.getfield 33, 3) := by decide +kernel
theorem dX12_ask_40 : decode cX12_ask 40 = .ok (.bipush 36, 2) := by decide +kernel
theorem dX12_ask_42 : decode cX12_ask 42 = .ok (.iaload, 1) := by decide +kernel
theorem dX12_ask_43 : decode cX12_ask 43 = .ok (.istore_n 3, 1) := by decide +kernel
theorem dX12_ask_44 : decode cX12_ask 44 = .ok (.aload_n 0, 1) := by decide +kernel
theorem dX12_ask_45 : decode cX12_ask 45 = .ok (.getfield 33, 3) := by decide +kernel
theorem dX12_ask_48 : decode cX12_ask 48 = .ok (.bipush 37, 2) := by decide +kernel
theorem dX12_ask_50 : decode cX12_ask 50 = .ok (.iload_n 3, 1) := by decide +kernel
theorem dX12_ask_51 : decode cX12_ask 51 = .ok (.iadd, 1) := by decide +kernel
theorem dX12_ask_52 : decode cX12_ask 52 = .ok (.iconst 2, 1) := by decide +kernel
theorem dX12_ask_53 : decode cX12_ask 53 = .ok (.iload_n 1, 1) := by decide +kernel
theorem dX12_ask_54 : decode cX12_ask 54 = .ok (.imul, 1) := by decide +kernel
theorem dX12_ask_55 : decode cX12_ask 55 = .ok (.iload_n 2, 1) := by decide +kernel
theorem dX12_ask_56 : decode cX12_ask 56 = .ok (.iadd, 1) := by decide +kernel
theorem dX12_ask_57 : decode cX12_ask 57 = .ok (.iastore, 1) := by decide +kernel
theorem dX12_ask_58 : decode cX12_ask 58 = .ok (.aload_n 0, 1) := by decide +kernel
theorem dX12_ask_59 : decode cX12_ask 59 = .ok (.iload_n 3, 1) := by decide +kernel
theorem dX12_ask_60 : decode cX12_ask 60 = .ok (.iconst 1, 1) := by decide +kernel
theorem dX12_ask_61 : decode cX12_ask 61 = .ok (.iadd, 1) := by decide +kernel
theorem dX12_ask_62 : decode cX12_ask 62 = .ok (.invokevirtual 264, 3) := by decide +kernel
theorem dX12_ask_65 : decode cX12_ask 65 = .ok (.lconst 0, 1) := by decide +kernel
theorem dX12_ask_66 : decode cX12_ask 66 = .ok (.lcmp, 1) := by decide +kernel
theorem dX12_ask_67 : decode cX12_ask 67 = .ok (.ifCond .ne 5, 3) := by decide +kernel
theorem dX12_ask_70 : decode cX12_ask 70 = .ok (.iconst (-1), 1) := by decide +kernel
theorem dX12_ask_71 : decode cX12_ask 71 = .ok (.ireturn, 1) := by decide +kernel
theorem dX12_ask_72 : decode cX12_ask 72 = .ok (.aload_n 0, 1) := by decide +kernel
theorem dX12_ask_73 : decode cX12_ask 73 = .ok (.invokevirtual 268, 3) := by decide +kernel
theorem dX12_ask_76 : decode cX12_ask 76 = .ok (.aload_n 0, 1) := by decide +kernel
theorem dX12_ask_77 : decode cX12_ask 77 = .ok (.getfield 33, 3) := by decide +kernel
theorem dX12_ask_80 : decode cX12_ask 80 = .ok (.bipush 36, 2) := by decide +kernel
theorem dX12_ask_82 : decode cX12_ask 82 = .ok (.dup2, 1) := by decide +kernel
theorem dX12_ask_83 : decode cX12_ask 83 = .ok (.iaload, 1) := by decide +kernel
theorem dX12_ask_84 : decode cX12_ask 84 = .ok (.iconst 1, 1) := by decide +kernel
theorem dX12_ask_85 : decode cX12_ask 85 = .ok (.iadd, 1) := by decide +kernel
theorem dX12_ask_86 : decode cX12_ask 86 = .ok (.iastore, 1) := by decide +kernel
theorem dX12_ask_87 : decode cX12_ask 87 = .ok (.iload_n 3, 1) := by decide +kernel
theorem dX12_ask_88 : decode cX12_ask 88 = .ok (.iconst 1, 1) := by decide +kernel
theorem dX12_ask_89 : decode cX12_ask 89 = .ok (.iadd, 1) := by decide +kernel
theorem dX12_ask_90 : decode cX12_ask 90 = .ok (.ireturn, 1) := by decide +kernel
abbrev rm_X12_ask : Room := { frames := 4, cells := 0, slots := 0, locals := 92 }
noncomputable def fX12_ask (o0 : Nat) (x1 : Int32) (x2 : Int32) (h : z_T) : Option (Int32 × z_T) :=
  y_gd (z_ok h o0 11) <|
  y_nm (z_sI h o0 0 (0 : Int32)) fun h2 =>
  y_bi (fX12_isTest o0 x1 h2) fun r4 =>
  y_br (r4 = 0)
    (some ((-1 : Int32), h2))
    (y_bi (fX12_isIn x2 (0 : Int32) (1 : Int32)) fun r10 =>
    y_br (r10 = 0)
      (some ((-1 : Int32), h2))
      (y_bi (z_R h2 o0 6) fun o15 =>
      y_gd (z_ok h2 o15 13) <|
      y_gd (z_ix (36 : Int32) (z_N h2 o15)) <|
      y_br ((z_I h2 o15 (36 : Int32).toNatClampNeg) = (12 : Int32))
        (some ((-1 : Int32), h2))
        (y_gd (z_ix (36 : Int32) (z_N h2 o15)) <|
        y_nm ((z_I h2 o15 (36 : Int32).toNatClampNeg)) fun v20 =>
        y_gd (z_ix ((37 : Int32) + v20) (z_N h2 o15)) <|
        y_nm (z_sI h2 o15 ((37 : Int32) + v20).toNatClampNeg (((2 : Int32) * x1) + x2)) fun h22 =>
        y_bi (fX12_likes o0 (v20 + (1 : Int32)) h22) fun ⟨r25, h28⟩ =>
        y_br ((lg_cmp r25 (0 : Int64)) = 0)
          (some ((-1 : Int32), h28))
          (y_gd (z_ok h28 o0 11) <|
          y_bi (fX12_keep o0 h28) fun h31 =>
          y_gd (z_ok h31 o0 11) <|
          y_bi (z_R h31 o0 6) fun o34 =>
          y_gd (z_ok h31 o34 13) <|
          y_gd (z_ix (36 : Int32) (z_N h31 o34)) <|
          y_gd (z_ix (36 : Int32) (z_N h31 o34)) <|
          y_nm (z_sI h31 o34 (36 : Int32).toNatClampNeg ((z_I h31 o34 (36 : Int32).toNatClampNeg) + (1 : Int32))) fun h38 =>
          some ((v20 + (1 : Int32)), h38)))))
set_option maxHeartbeats 4000000 in
set_option maxRecDepth 100000 in
theorem mm_X12_ask {G : z_Gt} {S : State → Prop} (hSK : z_SK S) (l : Launch) (ad : Nat → Nat) (o0 : Nat) (x1 : Int32) (x2 : Int32) (h : z_T) {r0 : Int32} {h9 : z_T} (hv : fX12_ask o0 x1 x2 h = some (r0, h9)) : z_Mi G S l yX12_ask cX12_ask 4 (.int) rm_X12_ask 0 0 [.ref (ad o0), .int x1, .int x2] ad h h9 r0 := by
  refine z_ofW hSK (by decide) (Nat.le_of_ble_eq_true rfl) ?_
  intro p e s m args below meth c ls hc hr hnm hB hl
  have hx := hc.1.1
  have hb := hc.1.2.1
  have hown := hc.1.2.2.2.1
  have hts := hc.1.2.2.2.2
  replace hc : z_C G S ad (z_n h) p m c cX12_ask 4 s args RX12 meth := hc
  replace hown : s.vm.findClass RX12 = some m.cls := hown
  replace hl : lv_has ls 4 [(0, .ref (ad o0)), (1, .int x1), (2, .int x2)] := hl
  show W p l e rm_X12_ask s m args below meth c s.heap [] 0 0 (MQ below (z_Qi G ad h9 (z_n h) s.heap.size r0) args s 0 0 (z_A ad (z_n h) s.heap.size)) (F0 m 0 ls [])
  obtain ⟨rs, kt⟩ : ∃ rs : Int32 × z_T, rs = (r0, h9) := ⟨_, rfl⟩
  generalize hn0 : z_n h = n0 at hc hB ⊢
  rw [← kt] at hv
  refine lv_aload_n hx hb dX12_ask_0 rfl (lv_at hl 0 rfl) ?_
  refine lv_iconst (v := (0 : Int32)) hx hb dX12_ask_1 (by decide) ?_
  obtain ⟨g1, hv⟩ := y_gd_e hv
  obtain ⟨h2, eh2, hv⟩ := y_nm_e hv
  refine y_putI hc hB 11 0 eh2 g1 (z_l1 hc qfX12_1) dX12_ask_2 (by decide) (by decide) rfl rfl rfl rfl (fun H locs hB => ?_)
  refine lv_aload_n hx hb dX12_ask_5 rfl (lv_at hl 0 rfl) ?_
  refine lv_iload_n hx hb dX12_ask_6 rfl (lv_at hl 1 rfl) ?_
  obtain ⟨r4, c3, hv⟩ := y_bi_e hv
  refine z_thI hc hB (z_runV hc hB 11 (mm_X12_isTest hSK l ad o0 x1 h2 c3) md_X12_isTest qmX12_241 (by rw [eh2]; exact g1) (by decide) rfl rfl rfl ⟨Nat.le_of_ble_eq_true rfl, Nat.le_of_ble_eq_true rfl⟩ rfl hl.1 rfl (Nat.le_of_ble_eq_true rfl) dX12_ask_7 ⟨Nat.le_of_ble_eq_true rfl, Nat.le_of_ble_eq_true rfl⟩) (fun H locs hB => ?_)
  refine lv_if_eq (tgt := 34) hx hb dX12_ask_10 (by decide) (fun c8 => ?_) (fun c8 => ?_)
  · replace hv := y_br_t hv c8
    refine lv_iconst (v := (-1 : Int32)) hx hb dX12_ask_34 (by decide) ?_
    replace hv := Option.some.inj hv
    subst hv
    obtain ⟨e1, e2⟩ := y_pr kt
    rw [← e1, ← e2]
    exact z_iret hc hB hr dX12_ask_35
  · replace hv := y_br_f hv c8
    refine lv_iload_n hx hb dX12_ask_13 rfl (lv_at hl 2 rfl) ?_
    refine lv_iconst (v := (0 : Int32)) hx hb dX12_ask_14 (by decide) ?_
    refine lv_iconst (v := (1 : Int32)) hx hb dX12_ask_15 (by decide) ?_
    obtain ⟨r10, c9, hv⟩ := y_bi_e hv
    refine z_thI hc hB (z_runS hc hB (mm_X12_isIn hSK l ad x2 (0 : Int32) (1 : Int32) h2 c9) md_X12_isIn qmX12_188 rfl rfl ⟨Nat.le_of_ble_eq_true rfl, Nat.le_of_ble_eq_true rfl⟩ rfl hl.1 rfl (Nat.le_of_ble_eq_true rfl) dX12_ask_16 ⟨Nat.le_of_ble_eq_true rfl, Nat.le_of_ble_eq_true rfl⟩) (fun H locs hB => ?_)
    refine lv_if_eq (tgt := 34) hx hb dX12_ask_19 (by decide) (fun c14 => ?_) (fun c14 => ?_)
    · replace hv := y_br_t hv c14
      refine lv_iconst (v := (-1 : Int32)) hx hb dX12_ask_34 (by decide) ?_
      replace hv := Option.some.inj hv
      subst hv
      obtain ⟨e1, e2⟩ := y_pr kt
      rw [← e1, ← e2]
      exact z_iret hc hB hr dX12_ask_35
    · replace hv := y_br_f hv c14
      refine lv_aload_n hx hb dX12_ask_22 rfl (lv_at hl 0 rfl) ?_
      obtain ⟨o15, eo15, hv⟩ := y_bi_e hv
      refine z_getR hc hB 11 6 (by rw [eh2]; exact g1) eo15 (by decide) (by decide) rfl (z_l1 hc qfX12_33) dX12_ask_23 ?_
      refine lv_bipush (v := (36 : Int32)) hx hb dX12_ask_26 (by decide) ?_
      obtain ⟨g16, hv⟩ := y_gd_e hv
      obtain ⟨i17, hv⟩ := y_gd_e hv
      refine z_iald hc hB g16 i17 dX12_ask_28 ?_
      refine lv_bipush (v := (12 : Int32)) hx hb dX12_ask_29 (by decide) ?_
      refine lv_icmp_ne (tgt := 36) hx hb dX12_ask_31 (by decide) (fun c18 => ?_) (fun c18 => ?_)
      · replace hv := y_br_f hv c18
        refine lv_aload_n hx hb dX12_ask_36 rfl (lv_at hl 0 rfl) ?_
        refine z_getR hc hB 11 6 (by rw [eh2]; exact g1) eo15 (by decide) (by decide) rfl (z_l1 hc qfX12_33) dX12_ask_37 ?_
        refine lv_bipush (v := (36 : Int32)) hx hb dX12_ask_40 (by decide) ?_
        obtain ⟨i19, hv⟩ := y_gd_e hv
        refine z_iald hc hB g16 i19 dX12_ask_42 ?_
        obtain ⟨v20, ev20, hv⟩ := y_nm_e hv
        rw [← ev20]
        refine lv_istore_n (lv' := [(3, .int v20), (0, .ref (ad o0)), (1, .int x1), (2, .int x2)]) hx hb dX12_ask_43 rfl hl (by decide) rfl (fun ls hl => ?_)
        refine lv_aload_n hx hb dX12_ask_44 rfl (lv_at hl 1 rfl) ?_
        refine z_getR hc hB 11 6 (by rw [eh2]; exact g1) eo15 (by decide) (by decide) rfl (z_l1 hc qfX12_33) dX12_ask_45 ?_
        refine lv_bipush (v := (37 : Int32)) hx hb dX12_ask_48 (by decide) ?_
        refine lv_iload_n hx hb dX12_ask_50 rfl (lv_at hl 0 rfl) ?_
        refine lv_iadd hx hb dX12_ask_51 ?_
        refine lv_iconst (v := (2 : Int32)) hx hb dX12_ask_52 (by decide) ?_
        refine lv_iload_n hx hb dX12_ask_53 rfl (lv_at hl 2 rfl) ?_
        refine lv_imul hx hb dX12_ask_54 ?_
        refine lv_iload_n hx hb dX12_ask_55 rfl (lv_at hl 3 rfl) ?_
        refine lv_iadd hx hb dX12_ask_56 ?_
        obtain ⟨i21, hv⟩ := y_gd_e hv
        obtain ⟨h22, eh22, hv⟩ := y_nm_e hv
        refine y_iast hc hB eh22 g16 i21 dX12_ask_57 (fun H locs hB => ?_)
        refine lv_aload_n hx hb dX12_ask_58 rfl (lv_at hl 1 rfl) ?_
        refine lv_iload_n hx hb dX12_ask_59 rfl (lv_at hl 0 rfl) ?_
        refine lv_iconst (v := (1 : Int32)) hx hb dX12_ask_60 (by decide) ?_
        refine lv_iadd hx hb dX12_ask_61 ?_
        obtain ⟨⟨r25, h28⟩, c23, hv⟩ := y_bi_e hv
        refine z_thL hc hB (z_runV hc hB 11 (mm_X12_likes hSK l ad o0 (v20 + (1 : Int32)) h22 c23) md_X12_likes qmX12_264 (by rw [eh22, eh2]; exact g1) (by decide) rfl rfl rfl ⟨Nat.le_of_ble_eq_true rfl, Nat.le_of_ble_eq_true rfl⟩ rfl hl.1 rfl (Nat.le_of_ble_eq_true rfl) dX12_ask_62 ⟨Nat.le_of_ble_eq_true rfl, Nat.le_of_ble_eq_true rfl⟩) (fun H locs hB => ?_)
        refine lv_lconst (v := (0 : Int64)) hx hb dX12_ask_65 (by decide) ?_
        refine W.lcmp hx hb dX12_ask_66 ?_
        refine lv_if_ne (tgt := 72) hx hb dX12_ask_67 (by decide) (fun c29 => ?_) (fun c29 => ?_)
        · replace hv := y_br_f hv c29
          refine lv_aload_n hx hb dX12_ask_72 rfl (lv_at hl 1 rfl) ?_
          obtain ⟨g32, hv⟩ := y_gd_e hv
          obtain ⟨h31, c30, hv⟩ := y_bi_e hv
          refine z_thV hc hB (z_runV hc hB 11 (mm_X12_keep hSK l ad o0 h28 c30) md_X12_keep qmX12_268 g32 (by decide) rfl rfl rfl ⟨Nat.le_of_ble_eq_true rfl, Nat.le_of_ble_eq_true rfl⟩ rfl hl.1 rfl (Nat.le_of_ble_eq_true rfl) dX12_ask_73 ⟨Nat.le_of_ble_eq_true rfl, Nat.le_of_ble_eq_true rfl⟩) (fun H locs hB => ?_)
          refine lv_aload_n hx hb dX12_ask_76 rfl (lv_at hl 1 rfl) ?_
          obtain ⟨g33, hv⟩ := y_gd_e hv
          obtain ⟨o34, eo34, hv⟩ := y_bi_e hv
          refine z_getR hc hB 11 6 g33 eo34 (by decide) (by decide) rfl (z_l1 hc qfX12_33) dX12_ask_77 ?_
          refine lv_bipush (v := (36 : Int32)) hx hb dX12_ask_80 (by decide) ?_
          refine lv_dup2_11 hx hb dX12_ask_82 rfl rfl ?_
          obtain ⟨g35, hv⟩ := y_gd_e hv
          obtain ⟨i36, hv⟩ := y_gd_e hv
          refine z_iald hc hB g35 i36 dX12_ask_83 ?_
          refine lv_iconst (v := (1 : Int32)) hx hb dX12_ask_84 (by decide) ?_
          refine lv_iadd hx hb dX12_ask_85 ?_
          obtain ⟨i37, hv⟩ := y_gd_e hv
          obtain ⟨h38, eh38, hv⟩ := y_nm_e hv
          refine y_iast hc hB eh38 g35 i37 dX12_ask_86 (fun H locs hB => ?_)
          refine lv_iload_n hx hb dX12_ask_87 rfl (lv_at hl 0 rfl) ?_
          refine lv_iconst (v := (1 : Int32)) hx hb dX12_ask_88 (by decide) ?_
          refine lv_iadd hx hb dX12_ask_89 ?_
          replace hv := Option.some.inj hv
          subst hv
          obtain ⟨e1, e2⟩ := y_pr kt
          rw [← e1, ← e2]
          exact z_iret hc hB hr dX12_ask_90
        · replace hv := y_br_t hv c29
          refine lv_iconst (v := (-1 : Int32)) hx hb dX12_ask_70 (by decide) ?_
          replace hv := Option.some.inj hv
          subst hv
          obtain ⟨e1, e2⟩ := y_pr kt
          rw [← e1, ← e2]
          exact z_iret hc hB hr dX12_ask_71
      · replace hv := y_br_t hv c18
        refine lv_iconst (v := (-1 : Int32)) hx hb dX12_ask_34 (by decide) ?_
        replace hv := Option.some.inj hv
        subst hv
        obtain ⟨e1, e2⟩ := y_pr kt
        rw [← e1, ← e2]
        exact z_iret hc hB hr dX12_ask_35
theorem dX12_sleep_0 : decode cX12_sleep 0 = .ok (.aload_n 0, 1) := by decide +kernel
theorem dX12_sleep_1 : decode cX12_sleep 1 = .ok (.iconst 0, 1) := by decide +kernel
theorem dX12_sleep_2 : decode cX12_sleep 2 = .ok (.putfield 1, 3) := by decide +kernel
theorem dX12_sleep_5 : decode cX12_sleep 5 = .ok (.aload_n 0, 1) := by decide +kernel
theorem dX12_sleep_6 : decode cX12_sleep 6 = .ok (.invokevirtual 268, 3) := by decide +kernel
theorem dX12_sleep_9 : decode cX12_sleep 9 = .ok (.aload_n 0, 1) := by decide +kernel
theorem dX12_sleep_10 : decode cX12_sleep 10 = .ok (.getfield 33, 3) := by decide +kernel
theorem dX12_sleep_13 : decode cX12_sleep 13 = .ok (.bipush 36, 2) := by decide +kernel
theorem dX12_sleep_15 : decode cX12_sleep 15 = .ok (.iaload, 1) := by decide +kernel
theorem dX12_sleep_16 : decode cX12_sleep 16 = .ok (.istore_n 1, 1) := by decide +kernel
theorem dX12_sleep_17 : decode cX12_sleep 17 = .ok (.aload_n 0, 1) := by decide +kernel
theorem dX12_sleep_18 : decode cX12_sleep 18 = .ok (.getfield 33, 3) := by decide +kernel
theorem dX12_sleep_21 : decode cX12_sleep 21 = .ok (.bipush 36, 2) := by decide +kernel
theorem dX12_sleep_23 : decode cX12_sleep 23 = .ok (.iconst 0, 1) := by decide +kernel
theorem dX12_sleep_24 : decode cX12_sleep 24 = .ok (.iastore, 1) := by decide +kernel
theorem dX12_sleep_25 : decode cX12_sleep 25 = .ok (.iload_n 1, 1) := by decide +kernel
theorem dX12_sleep_26 : decode cX12_sleep 26 = .ok (.ireturn, 1) := by decide +kernel
abbrev rm_X12_sleep : Room := { frames := 1, cells := 0, slots := 0, locals := 21 }
noncomputable def fX12_sleep (o0 : Nat) (h : z_T) : Option (Int32 × z_T) :=
  y_gd (z_ok h o0 11) <|
  y_nm (z_sI h o0 0 (0 : Int32)) fun h2 =>
  y_bi (fX12_keep o0 h2) fun h4 =>
  y_gd (z_ok h4 o0 11) <|
  y_bi (z_R h4 o0 6) fun o6 =>
  y_gd (z_ok h4 o6 13) <|
  y_gd (z_ix (36 : Int32) (z_N h4 o6)) <|
  y_nm ((z_I h4 o6 (36 : Int32).toNatClampNeg)) fun v9 =>
  y_gd (z_ix (36 : Int32) (z_N h4 o6)) <|
  y_nm (z_sI h4 o6 (36 : Int32).toNatClampNeg (0 : Int32)) fun h11 =>
  some (v9, h11)
set_option maxHeartbeats 4000000 in
set_option maxRecDepth 100000 in
theorem mm_X12_sleep {G : z_Gt} {S : State → Prop} (hSK : z_SK S) (l : Launch) (ad : Nat → Nat) (o0 : Nat) (h : z_T) {r0 : Int32} {h9 : z_T} (hv : fX12_sleep o0 h = some (r0, h9)) : z_Mi G S l yX12_sleep cX12_sleep 2 (.int) rm_X12_sleep 0 0 [.ref (ad o0)] ad h h9 r0 := by
  refine z_ofW hSK (by decide) (Nat.le_of_ble_eq_true rfl) ?_
  intro p e s m args below meth c ls hc hr hnm hB hl
  have hx := hc.1.1
  have hb := hc.1.2.1
  have hown := hc.1.2.2.2.1
  have hts := hc.1.2.2.2.2
  replace hc : z_C G S ad (z_n h) p m c cX12_sleep 2 s args RX12 meth := hc
  replace hown : s.vm.findClass RX12 = some m.cls := hown
  replace hl : lv_has ls 2 [(0, .ref (ad o0))] := hl
  show W p l e rm_X12_sleep s m args below meth c s.heap [] 0 0 (MQ below (z_Qi G ad h9 (z_n h) s.heap.size r0) args s 0 0 (z_A ad (z_n h) s.heap.size)) (F0 m 0 ls [])
  obtain ⟨rs, kt⟩ : ∃ rs : Int32 × z_T, rs = (r0, h9) := ⟨_, rfl⟩
  generalize hn0 : z_n h = n0 at hc hB ⊢
  rw [← kt] at hv
  refine lv_aload_n hx hb dX12_sleep_0 rfl (lv_at hl 0 rfl) ?_
  refine lv_iconst (v := (0 : Int32)) hx hb dX12_sleep_1 (by decide) ?_
  obtain ⟨g1, hv⟩ := y_gd_e hv
  obtain ⟨h2, eh2, hv⟩ := y_nm_e hv
  refine y_putI hc hB 11 0 eh2 g1 (z_l1 hc qfX12_1) dX12_sleep_2 (by decide) (by decide) rfl rfl rfl rfl (fun H locs hB => ?_)
  refine lv_aload_n hx hb dX12_sleep_5 rfl (lv_at hl 0 rfl) ?_
  obtain ⟨h4, c3, hv⟩ := y_bi_e hv
  refine z_thV hc hB (z_runV hc hB 11 (mm_X12_keep hSK l ad o0 h2 c3) md_X12_keep qmX12_268 (by rw [eh2]; exact g1) (by decide) rfl rfl rfl ⟨Nat.le_of_ble_eq_true rfl, Nat.le_of_ble_eq_true rfl⟩ rfl hl.1 rfl (Nat.le_of_ble_eq_true rfl) dX12_sleep_6 ⟨Nat.le_of_ble_eq_true rfl, Nat.le_of_ble_eq_true rfl⟩) (fun H locs hB => ?_)
  refine lv_aload_n hx hb dX12_sleep_9 rfl (lv_at hl 0 rfl) ?_
  obtain ⟨g5, hv⟩ := y_gd_e hv
  obtain ⟨o6, eo6, hv⟩ := y_bi_e hv
  refine z_getR hc hB 11 6 g5 eo6 (by decide) (by decide) rfl (z_l1 hc qfX12_33) dX12_sleep_10 ?_
  refine lv_bipush (v := (36 : Int32)) hx hb dX12_sleep_13 (by decide) ?_
  obtain ⟨g7, hv⟩ := y_gd_e hv
  obtain ⟨i8, hv⟩ := y_gd_e hv
  refine z_iald hc hB g7 i8 dX12_sleep_15 ?_
  obtain ⟨v9, ev9, hv⟩ := y_nm_e hv
  rw [← ev9]
  refine lv_istore_n (lv' := [(1, .int v9), (0, .ref (ad o0))]) hx hb dX12_sleep_16 rfl hl (by decide) rfl (fun ls hl => ?_)
  refine lv_aload_n hx hb dX12_sleep_17 rfl (lv_at hl 1 rfl) ?_
  refine z_getR hc hB 11 6 g5 eo6 (by decide) (by decide) rfl (z_l1 hc qfX12_33) dX12_sleep_18 ?_
  refine lv_bipush (v := (36 : Int32)) hx hb dX12_sleep_21 (by decide) ?_
  refine lv_iconst (v := (0 : Int32)) hx hb dX12_sleep_23 (by decide) ?_
  obtain ⟨i10, hv⟩ := y_gd_e hv
  obtain ⟨h11, eh11, hv⟩ := y_nm_e hv
  refine y_iast hc hB eh11 g7 i10 dX12_sleep_24 (fun H locs hB => ?_)
  refine lv_iload_n hx hb dX12_sleep_25 rfl (lv_at hl 0 rfl) ?_
  replace hv := Option.some.inj hv
  subst hv
  obtain ⟨e1, e2⟩ := y_pr kt
  rw [← e1, ← e2]
  exact z_iret hc hB hr dX12_sleep_26
theorem dX12_answer_0 : decode cX12_answer 0 = .ok (.aload_n 0, 1) := by decide +kernel
theorem dX12_answer_1 : decode cX12_answer 1 = .ok (.iconst 0, 1) := by decide +kernel
theorem dX12_answer_2 : decode cX12_answer 2 = .ok (.putfield 1, 3) := by decide +kernel
theorem dX12_answer_5 : decode cX12_answer 5 = .ok (.iload_n 1, 1) := by decide +kernel
theorem dX12_answer_6 : decode cX12_answer 6 = .ok (.iconst 0, 1) := by decide +kernel
theorem dX12_answer_7 : decode cX12_answer 7 = .ok (.aload_n 0, 1) := by decide +kernel
theorem dX12_answer_8 : decode cX12_answer 8 = .ok (.getfield 33, 3) := by decide +kernel
theorem dX12_answer_11 : decode cX12_answer 11 = .ok (.bipush 36, 2) := by decide +kernel
theorem dX12_answer_13 : decode cX12_answer 13 = .ok (.iaload, 1) := by decide +kernel
theorem dX12_answer_14 : decode cX12_answer 14 = .ok (.iconst 1, 1) := by decide +kernel
theorem dX12_answer_15 : decode cX12_answer 15 = .ok (.isub, 1) := by decide +kernel
theorem dX12_answer_16 : decode cX12_answer 16 = .ok (.invokestatic 188, 3) := by decide +kernel
theorem dX12_answer_19 : decode cX12_answer 19 = .ok (.ifCond .eq 15, 3) := by decide +kernel
theorem dX12_answer_22 : decode cX12_answer 22 = .ok (.aload_n 0, 1) := by decide +kernel
theorem dX12_answer_23 : decode cX12_answer 23 = .ok (.getfield 33, 3) := by decide +kernel
theorem dX12_answer_26 : decode cX12_answer 26 = .ok (.bipush 37, 2) := by decide +kernel
theorem dX12_answer_28 : decode cX12_answer 28 = .ok (.iload_n 1, 1) := by decide +kernel
theorem dX12_answer_29 : decode cX12_answer 29 = .ok (.iadd, 1) := by decide +kernel
theorem dX12_answer_30 : decode cX12_answer 30 = .ok (.iaload, 1) := by decide +kernel
theorem dX12_answer_31 : decode cX12_answer 31 = .ok (.goto 4, 3) := by decide +kernel
theorem dX12_answer_34 : decode cX12_answer 34 = .ok (.iconst (-1), 1) := by decide +kernel
theorem dX12_answer_35 : decode cX12_answer 35 = .ok (.ireturn, 1) := by decide +kernel
abbrev rm_X12_answer : Room := { frames := 1, cells := 0, slots := 0, locals := 22 }
noncomputable def fX12_answer (o0 : Nat) (x1 : Int32) (h : z_T) : Option (Int32 × z_T) :=
  y_gd (z_ok h o0 11) <|
  y_nm (z_sI h o0 0 (0 : Int32)) fun h2 =>
  y_bi (z_R h2 o0 6) fun o3 =>
  y_gd (z_ok h2 o3 13) <|
  y_gd (z_ix (36 : Int32) (z_N h2 o3)) <|
  y_bi (fX12_isIn x1 (0 : Int32) ((z_I h2 o3 (36 : Int32).toNatClampNeg) - (1 : Int32))) fun r7 =>
  y_br (r7 = 0)
    (some ((-1 : Int32), h2))
    (y_gd (z_ix ((37 : Int32) + x1) (z_N h2 o3)) <|
    some ((z_I h2 o3 ((37 : Int32) + x1).toNatClampNeg), h2))
set_option maxHeartbeats 4000000 in
set_option maxRecDepth 100000 in
theorem mm_X12_answer {G : z_Gt} {S : State → Prop} (hSK : z_SK S) (l : Launch) (ad : Nat → Nat) (o0 : Nat) (x1 : Int32) (h : z_T) {r0 : Int32} {h9 : z_T} (hv : fX12_answer o0 x1 h = some (r0, h9)) : z_Mi G S l yX12_answer cX12_answer 2 (.int) rm_X12_answer 0 0 [.ref (ad o0), .int x1] ad h h9 r0 := by
  refine z_ofW hSK (by decide) (Nat.le_of_ble_eq_true rfl) ?_
  intro p e s m args below meth c ls hc hr hnm hB hl
  have hx := hc.1.1
  have hb := hc.1.2.1
  have hown := hc.1.2.2.2.1
  have hts := hc.1.2.2.2.2
  replace hc : z_C G S ad (z_n h) p m c cX12_answer 2 s args RX12 meth := hc
  replace hown : s.vm.findClass RX12 = some m.cls := hown
  replace hl : lv_has ls 2 [(0, .ref (ad o0)), (1, .int x1)] := hl
  show W p l e rm_X12_answer s m args below meth c s.heap [] 0 0 (MQ below (z_Qi G ad h9 (z_n h) s.heap.size r0) args s 0 0 (z_A ad (z_n h) s.heap.size)) (F0 m 0 ls [])
  obtain ⟨rs, kt⟩ : ∃ rs : Int32 × z_T, rs = (r0, h9) := ⟨_, rfl⟩
  generalize hn0 : z_n h = n0 at hc hB ⊢
  rw [← kt] at hv
  refine lv_aload_n hx hb dX12_answer_0 rfl (lv_at hl 0 rfl) ?_
  refine lv_iconst (v := (0 : Int32)) hx hb dX12_answer_1 (by decide) ?_
  obtain ⟨g1, hv⟩ := y_gd_e hv
  obtain ⟨h2, eh2, hv⟩ := y_nm_e hv
  refine y_putI hc hB 11 0 eh2 g1 (z_l1 hc qfX12_1) dX12_answer_2 (by decide) (by decide) rfl rfl rfl rfl (fun H locs hB => ?_)
  refine lv_iload_n hx hb dX12_answer_5 rfl (lv_at hl 1 rfl) ?_
  refine lv_iconst (v := (0 : Int32)) hx hb dX12_answer_6 (by decide) ?_
  refine lv_aload_n hx hb dX12_answer_7 rfl (lv_at hl 0 rfl) ?_
  obtain ⟨o3, eo3, hv⟩ := y_bi_e hv
  refine z_getR hc hB 11 6 (by rw [eh2]; exact g1) eo3 (by decide) (by decide) rfl (z_l1 hc qfX12_33) dX12_answer_8 ?_
  refine lv_bipush (v := (36 : Int32)) hx hb dX12_answer_11 (by decide) ?_
  obtain ⟨g4, hv⟩ := y_gd_e hv
  obtain ⟨i5, hv⟩ := y_gd_e hv
  refine z_iald hc hB g4 i5 dX12_answer_13 ?_
  refine lv_iconst (v := (1 : Int32)) hx hb dX12_answer_14 (by decide) ?_
  refine lv_isub hx hb dX12_answer_15 ?_
  obtain ⟨r7, c6, hv⟩ := y_bi_e hv
  refine z_thI hc hB (z_runS hc hB (mm_X12_isIn hSK l ad x1 (0 : Int32) ((z_I h2 o3 (36 : Int32).toNatClampNeg) - (1 : Int32)) h2 c6) md_X12_isIn qmX12_188 rfl rfl ⟨Nat.le_of_ble_eq_true rfl, Nat.le_of_ble_eq_true rfl⟩ rfl hl.1 rfl (Nat.le_of_ble_eq_true rfl) dX12_answer_16 ⟨Nat.le_of_ble_eq_true rfl, Nat.le_of_ble_eq_true rfl⟩) (fun H locs hB => ?_)
  refine lv_if_eq (tgt := 34) hx hb dX12_answer_19 (by decide) (fun c11 => ?_) (fun c11 => ?_)
  · replace hv := y_br_t hv c11
    refine lv_iconst (v := (-1 : Int32)) hx hb dX12_answer_34 (by decide) ?_
    replace hv := Option.some.inj hv
    subst hv
    obtain ⟨e1, e2⟩ := y_pr kt
    rw [← e1, ← e2]
    exact z_iret hc hB hr dX12_answer_35
  · replace hv := y_br_f hv c11
    refine lv_aload_n hx hb dX12_answer_22 rfl (lv_at hl 0 rfl) ?_
    refine z_getR hc hB 11 6 (by rw [eh2]; exact g1) eo3 (by decide) (by decide) rfl (z_l1 hc qfX12_33) dX12_answer_23 ?_
    refine lv_bipush (v := (37 : Int32)) hx hb dX12_answer_26 (by decide) ?_
    refine lv_iload_n hx hb dX12_answer_28 rfl (lv_at hl 1 rfl) ?_
    refine lv_iadd hx hb dX12_answer_29 ?_
    obtain ⟨i12, hv⟩ := y_gd_e hv
    refine z_iald hc hB g4 i12 dX12_answer_30 ?_
    refine lv_goto (tgt := 35) hx hb dX12_answer_31 (by decide) ?_
    replace hv := Option.some.inj hv
    subst hv
    obtain ⟨e1, e2⟩ := y_pr kt
    rw [← e1, ← e2]
    exact z_iret hc hB hr dX12_answer_35
theorem dX12_common_0 : decode cX12_common 0 = .ok (.lload_n 0, 1) := by decide +kernel
theorem dX12_common_1 : decode cX12_common 1 = .ok (.lstore 4, 2) := by decide +kernel
theorem dX12_common_3 : decode cX12_common 3 = .ok (.lload_n 2, 1) := by decide +kernel
theorem dX12_common_4 : decode cX12_common 4 = .ok (.lstore 6, 2) := by decide +kernel
theorem dX12_common_6 : decode cX12_common 6 = .ok (.lload 6, 2) := by decide +kernel
theorem dX12_common_8 : decode cX12_common 8 = .ok (.lconst 0, 1) := by decide +kernel
theorem dX12_common_9 : decode cX12_common 9 = .ok (.lcmp, 1) := by decide +kernel
theorem dX12_common_10 : decode cX12_common 10 = .ok (.ifCond .eq 21, 3) := by decide +kernel
theorem dX12_common_13 : decode cX12_common 13 = .ok (.lload 4, 2) := by decide +kernel
theorem dX12_common_15 : decode cX12_common 15 = .ok (.lload 6, 2) := by decide +kernel
theorem dX12_common_17 : decode cX12_common 17 = .ok (.lrem, 1) := by decide +kernel
theorem dX12_common_18 : decode cX12_common 18 = .ok (.lstore 8, 2) := by decide +kernel
theorem dX12_common_20 : decode cX12_common 20 = .ok (.lload 6, 2) := by decide +kernel
theorem dX12_common_22 : decode cX12_common 22 = .ok (.lstore 4, 2) := by decide +kernel
theorem dX12_common_24 : decode cX12_common 24 = .ok (.lload 8, 2) := by decide +kernel
theorem dX12_common_26 : decode cX12_common 26 = .ok (.lstore 6, 2) := by decide +kernel
theorem dX12_common_28 : decode cX12_common 28 = .ok (.goto (-22), 3) := by decide +kernel
theorem dX12_common_31 : decode cX12_common 31 = .ok (.lload 4, 2) := by decide +kernel
theorem dX12_common_33 : decode cX12_common 33 = .ok (.lreturn, 1) := by decide +kernel
abbrev rm_X12_common : Room := { frames := 0, cells := 0, slots := 0, locals := 0 }
noncomputable def fX12_common_b6_i  (l4 : Int64) (l6 : Int64) : Option ((Int64 × Int64) ⊕ (Int64)) :=
  y_br ((lg_cmp l6 (0 : Int64)) = 0)
    (y_mp <|
    some l4)
    (y_gd (!decide (l6 = 0)) <|
    y_nm ((l4 - l4 / l6 * l6)) fun v4 =>
    some (.inl (l6, v4)))
noncomputable def fX12_common_b6 (l4 : Int64) (l6 : Int64) : Option (Int64) := y_lp (fun q : Int64 × Int64 => fX12_common_b6_i  q.1 q.2) (l4, l6)
noncomputable def fX12_common (l0 : Int64) (l2 : Int64) : Option (Int64) :=
  fX12_common_b6 l0 l2
set_option maxHeartbeats 4000000 in
set_option maxRecDepth 100000 in
theorem mm_X12_common {G : z_Gt} {S : State → Prop} (hSK : z_SK S) (l : Launch) (ad : Nat → Nat) (l0 : Int64) (l2 : Int64) (h : z_T) {r0 : Int64} (hv : fX12_common l0 l2 = some r0) : z_Ml G S l yX12_common cX12_common 10 (.long) rm_X12_common 0 0 [.long l0, .long l2] ad h h r0 := by
  refine z_ofW hSK (by decide) (Nat.le_of_ble_eq_true rfl) ?_
  intro p e s m args below meth c ls hc hr hnm hB hl
  have hx := hc.1.1
  have hb := hc.1.2.1
  have hown := hc.1.2.2.2.1
  have hts := hc.1.2.2.2.2
  replace hc : z_C G S ad (z_n h) p m c cX12_common 10 s args RX12 meth := hc
  replace hown : s.vm.findClass RX12 = some m.cls := hown
  replace hl : lv_has ls 10 [(0, .long l0), (2, .long l2)] := hl
  show W p l e rm_X12_common s m args below meth c s.heap [] 0 0 (MQ below (z_Ql G ad h (z_n h) s.heap.size r0) args s 0 0 (z_A ad (z_n h) s.heap.size)) (F0 m 0 ls [])
  obtain ⟨rs, kt⟩ : ∃ rs : Int64, rs = r0 := ⟨_, rfl⟩
  generalize hn0 : z_n h = n0 at hc hB ⊢
  have L6 : ∀ (nn6 : Nat) (l4 : Int64) (l6 : Int64) (H : Heap) (locs : List Loc) (ls : Array Slot), z_B G ad n0 s h H locs → lv_has ls 10 [(4, .long l4), (6, .long l6)] → ∀ vv6, y_lpN (fun q : Int64 × Int64 => fX12_common_b6_i  q.1 q.2) nn6 (l4, l6) = some vv6 → vv6 = r0 → W p l e rm_X12_common s m args below meth c H locs 0 0 (MQ below (z_Ql G ad h n0 s.heap.size r0) args s 0 0 (z_A ad n0 s.heap.size)) (F0 m 6 ls []) := by
    intro nn6
    induction nn6 with
    | zero => intro l4 l6 H locs ls hB hl vv6 hv kv6; exact absurd hv (fun q => y_lpN_0 q)
    | succ nn6 ih6 =>
      intro l4 l6 H locs ls hB hl vv6 hv kv6
      obtain ⟨w, hq, kw6⟩ := y_lpN_e hv
      clear hv
      have hv : fX12_common_b6_i  l4 l6 = some w := hq
      clear hq
      refine lv_lload hx hb dX12_common_6 (lv_at hl 1 rfl) ?_
      refine lv_lconst (v := (0 : Int64)) hx hb dX12_common_8 (by decide) ?_
      refine W.lcmp hx hb dX12_common_9 ?_
      refine lv_if_eq (tgt := 31) hx hb dX12_common_10 (by decide) (fun c1 => ?_) (fun c1 => ?_)
      · replace hv := y_br_t hv c1
        obtain ⟨t2, hq, ew⟩ := y_mp_e hv
        clear hv; subst ew
        replace kw6 : t2 = _ := kw6
        subst kw6
        have hv := hq
        clear hq
        refine lv_lload hx hb dX12_common_31 (lv_at hl 0 rfl) ?_
        replace hv := Option.some.inj hv
        subst hv
        rw [← kv6]
        exact z_lret hc hB hr dX12_common_33
      · replace hv := y_br_f hv c1
        refine lv_lload hx hb dX12_common_13 (lv_at hl 0 rfl) ?_
        refine lv_lload hx hb dX12_common_15 (lv_at hl 1 rfl) ?_
        obtain ⟨z3, hv⟩ := y_gd_e hv
        refine lv_lrem hx hb dX12_common_17 (y_neL z3) ?_
        obtain ⟨v4, ev4, hv⟩ := y_nm_e hv
        rw [← ev4]
        refine lv_lstore (lv' := [(8, .long v4), (4, .long l4), (6, .long l6)]) hx hb dX12_common_18 hl (by decide) rfl (fun ls hl => ?_)
        refine lv_lload hx hb dX12_common_20 (lv_at hl 2 rfl) ?_
        refine lv_lstore (lv' := [(4, .long l6), (8, .long v4), (6, .long l6)]) hx hb dX12_common_22 hl (by decide) rfl (fun ls hl => ?_)
        refine lv_lload hx hb dX12_common_24 (lv_at hl 1 rfl) ?_
        refine lv_lstore (lv' := [(6, .long v4), (4, .long l6), (8, .long v4)]) hx hb dX12_common_26 hl (by decide) rfl (fun ls hl => ?_)
        refine lv_goto (tgt := 6) hx hb dX12_common_28 (by decide) ?_
        replace hv := Option.some.inj hv
        subst hv
        exact ih6 l6 v4 _ _ _ hB (lv_sub hl [1, 0] rfl) _ kw6 kv6
  rw [← kt] at hv
  refine lv_lload_n hx hb dX12_common_0 rfl (lv_at hl 0 rfl) ?_
  refine lv_lstore (lv' := [(4, .long l0), (0, .long l0), (2, .long l2)]) hx hb dX12_common_1 hl (by decide) rfl (fun ls hl => ?_)
  refine lv_lload_n hx hb dX12_common_3 rfl (lv_at hl 2 rfl) ?_
  refine lv_lstore (lv' := [(6, .long l2), (4, .long l0), (0, .long l0), (2, .long l2)]) hx hb dX12_common_4 hl (by decide) rfl (fun ls hl => ?_)
  obtain ⟨n, hv⟩ := y_lp_e hv
  exact L6 n l0 l2 _ _ _ hB (lv_sub hl [1, 0] rfl) _ hv kt
theorem qmX12_271 : Cond.methodLink RX12 271 yX12_common ∈ z_ws := List.mem_filter.mpr ⟨List.mem_append_right _ (List.mem_of_getElem? (i := 1626) (by decide +kernel)), rfl⟩
theorem qc_X12_common : Cond.code yX12_common cX12_common 10 (some .long) ∈ z_ws := List.mem_filter.mpr ⟨List.mem_append_right _ (List.mem_of_getElem? (i := 1628) (by decide +kernel)), rfl⟩
theorem qs_X12_common : Cond.static yX12_common ∈ z_ws := List.mem_filter.mpr ⟨List.mem_append_right _ (List.mem_of_getElem? (i := 1627) (by decide +kernel)), rfl⟩
theorem md_X12_common : z_mdS yX12_common cX12_common 10 (some .long) 2 := ⟨⟨qn_RX12, qc_X12_common, ⟨by decide +kernel, by decide +kernel, by decide +kernel⟩⟩, qs_X12_common⟩
theorem dX12_part_0 : decode cX12_part 0 = .ok (.iload 4, 2) := by decide +kernel
theorem dX12_part_2 : decode cX12_part 2 = .ok (.ifCond .ne 7, 3) := by decide +kernel
theorem dX12_part_5 : decode cX12_part 5 = .ok (.lload_n 0, 1) := by decide +kernel
theorem dX12_part_6 : decode cX12_part 6 = .ok (.goto 4, 3) := by decide +kernel
theorem dX12_part_9 : decode cX12_part 9 = .ok (.lload_n 2, 1) := by decide +kernel
theorem dX12_part_10 : decode cX12_part 10 = .ok (.lload_n 0, 1) := by decide +kernel
theorem dX12_part_11 : decode cX12_part 11 = .ok (.lload_n 2, 1) := by decide +kernel
theorem dX12_part_12 : decode cX12_part 12 = .ok (.invokestatic 271, 3) := by decide +kernel
theorem dX12_part_15 : decode cX12_part 15 = .ok (.ldiv, 1) := by decide +kernel
theorem dX12_part_16 : decode cX12_part 16 = .ok (.lreturn, 1) := by decide +kernel
abbrev rm_X12_part : Room := { frames := 1, cells := 0, slots := 0, locals := 29 }
noncomputable def fX12_part_b10 (l0 : Int64) (l2 : Int64) (s0 : Int64) : Option (Int64) :=
  y_bi (fX12_common l0 l2) fun r3 =>
  y_gd (!decide (r3 = 0)) <|
  some (s0 / r3)
noncomputable def fX12_part (l0 : Int64) (l2 : Int64) (x4 : Int32) : Option (Int64) :=
  y_br (x4 = 0)
    (fX12_part_b10 l0 l2 l0)
    (fX12_part_b10 l0 l2 l2)
set_option maxHeartbeats 4000000 in
set_option maxRecDepth 100000 in
theorem mm_X12_part {G : z_Gt} {S : State → Prop} (hSK : z_SK S) (l : Launch) (ad : Nat → Nat) (l0 : Int64) (l2 : Int64) (x4 : Int32) (h : z_T) {r0 : Int64} (hv : fX12_part l0 l2 x4 = some r0) : z_Ml G S l yX12_part cX12_part 5 (.long) rm_X12_part 0 0 [.long l0, .long l2, .int x4] ad h h r0 := by
  refine z_ofW hSK (by decide) (Nat.le_of_ble_eq_true rfl) ?_
  intro p e s m args below meth c ls hc hr hnm hB hl
  have hx := hc.1.1
  have hb := hc.1.2.1
  have hown := hc.1.2.2.2.1
  have hts := hc.1.2.2.2.2
  replace hc : z_C G S ad (z_n h) p m c cX12_part 5 s args RX12 meth := hc
  replace hown : s.vm.findClass RX12 = some m.cls := hown
  replace hl : lv_has ls 5 [(0, .long l0), (2, .long l2), (4, .int x4)] := hl
  show W p l e rm_X12_part s m args below meth c s.heap [] 0 0 (MQ below (z_Ql G ad h (z_n h) s.heap.size r0) args s 0 0 (z_A ad (z_n h) s.heap.size)) (F0 m 0 ls [])
  obtain ⟨rs, kt⟩ : ∃ rs : Int64, rs = r0 := ⟨_, rfl⟩
  generalize hn0 : z_n h = n0 at hc hB ⊢
  have b10 : ∀ (s0 : Int64) (H : Heap) (locs : List Loc) (ls : Array Slot), z_B G ad n0 s h H locs → lv_has ls 5 [(0, .long l0), (2, .long l2)] → ∀ w, fX12_part_b10 l0 l2 s0 = some w → w = r0 → W p l e rm_X12_part s m args below meth c H locs 0 0 (MQ below (z_Ql G ad h n0 s.heap.size r0) args s 0 0 (z_A ad n0 s.heap.size)) (F0 m 10 ls [.long s0]) := by
    intro s0 H locs ls hB hl w hv kb
    refine lv_lload_n hx hb dX12_part_10 rfl (lv_at hl 0 rfl) ?_
    refine lv_lload_n hx hb dX12_part_11 rfl (lv_at hl 1 rfl) ?_
    obtain ⟨r3, c1, hv⟩ := y_bi_e hv
    refine z_thL hc hB (z_runS hc hB (mm_X12_common hSK l ad l0 l2 h c1) md_X12_common qmX12_271 rfl rfl ⟨Nat.le_of_ble_eq_true rfl, Nat.le_of_ble_eq_true rfl⟩ rfl hl.1 rfl (Nat.le_of_ble_eq_true rfl) dX12_part_12 ⟨Nat.le_of_ble_eq_true rfl, Nat.le_of_ble_eq_true rfl⟩) (fun H locs hB => ?_)
    obtain ⟨z6, hv⟩ := y_gd_e hv
    refine lv_ldiv hx hb dX12_part_15 (y_neL z6) ?_
    replace hv := Option.some.inj hv
    subst hv
    rw [← kb]
    exact z_lret hc hB hr dX12_part_16
  rw [← kt] at hv
  refine lv_iload hx hb dX12_part_0 (lv_at hl 2 rfl) ?_
  refine lv_if_ne (tgt := 9) hx hb dX12_part_2 (by decide) (fun c7 => ?_) (fun c7 => ?_)
  · replace hv := y_br_f hv c7
    refine lv_lload_n hx hb dX12_part_9 rfl (lv_at hl 1 rfl) ?_
    exact b10 l2 _ _ _ hB (lv_sub hl [0, 1] rfl) _ hv kt
  · replace hv := y_br_t hv c7
    refine lv_lload_n hx hb dX12_part_5 rfl (lv_at hl 0 rfl) ?_
    refine lv_goto (tgt := 10) hx hb dX12_part_6 (by decide) ?_
    exact b10 l0 _ _ _ hB (lv_sub hl [0, 1] rfl) _ hv kt
theorem dX12_isPart_0 : decode cX12_isPart 0 = .ok (.iload_n 0, 1) := by decide +kernel
theorem dX12_isPart_1 : decode cX12_isPart 1 = .ok (.iconst 0, 1) := by decide +kernel
theorem dX12_isPart_2 : decode cX12_isPart 2 = .ok (.iconst 1, 1) := by decide +kernel
theorem dX12_isPart_3 : decode cX12_isPart 3 = .ok (.invokestatic 188, 3) := by decide +kernel
theorem dX12_isPart_6 : decode cX12_isPart 6 = .ok (.ireturn, 1) := by decide +kernel
abbrev rm_X12_isPart : Room := { frames := 1, cells := 0, slots := 0, locals := 22 }
noncomputable def fX12_isPart (x0 : Int32) : Option (Int32) :=
  y_bi (fX12_isIn x0 (0 : Int32) (1 : Int32)) fun r2 =>
  y_gd (y_b r2) <|
  some r2
set_option maxHeartbeats 4000000 in
set_option maxRecDepth 100000 in
theorem mm_X12_isPart {G : z_Gt} {S : State → Prop} (hSK : z_SK S) (l : Launch) (ad : Nat → Nat) (x0 : Int32) (h : z_T) {r0 : Int32} (hv : fX12_isPart x0 = some r0) : z_Mi G S l yX12_isPart cX12_isPart 1 (.boolean) rm_X12_isPart 0 0 [.int x0] ad h h r0 := by
  refine z_ofW hSK (by decide) (Nat.le_of_ble_eq_true rfl) ?_
  intro p e s m args below meth c ls hc hr hnm hB hl
  have hx := hc.1.1
  have hb := hc.1.2.1
  have hown := hc.1.2.2.2.1
  have hts := hc.1.2.2.2.2
  replace hc : z_C G S ad (z_n h) p m c cX12_isPart 1 s args RX12 meth := hc
  replace hown : s.vm.findClass RX12 = some m.cls := hown
  replace hl : lv_has ls 1 [(0, .int x0)] := hl
  show W p l e rm_X12_isPart s m args below meth c s.heap [] 0 0 (MQ below (z_Qi G ad h (z_n h) s.heap.size r0) args s 0 0 (z_A ad (z_n h) s.heap.size)) (F0 m 0 ls [])
  obtain ⟨rs, kt⟩ : ∃ rs : Int32, rs = r0 := ⟨_, rfl⟩
  generalize hn0 : z_n h = n0 at hc hB ⊢
  rw [← kt] at hv
  refine lv_iload_n hx hb dX12_isPart_0 rfl (lv_at hl 0 rfl) ?_
  refine lv_iconst (v := (0 : Int32)) hx hb dX12_isPart_1 (by decide) ?_
  refine lv_iconst (v := (1 : Int32)) hx hb dX12_isPart_2 (by decide) ?_
  obtain ⟨r2, c1, hv⟩ := y_bi_e hv
  refine z_thI hc hB (z_runS hc hB (mm_X12_isIn hSK l ad x0 (0 : Int32) (1 : Int32) h c1) md_X12_isIn qmX12_188 rfl rfl ⟨Nat.le_of_ble_eq_true rfl, Nat.le_of_ble_eq_true rfl⟩ rfl hl.1 rfl (Nat.le_of_ble_eq_true rfl) dX12_isPart_3 ⟨Nat.le_of_ble_eq_true rfl, Nat.le_of_ble_eq_true rfl⟩) (fun H locs hB => ?_)
  obtain ⟨y6, hv⟩ := y_gd_e hv
  replace hv := Option.some.inj hv
  subst hv
  rw [← kt]
  exact z_zret hc hB hr (y_b_n y6) dX12_isPart_6
theorem qmX12_278 : Cond.methodLink RX12 278 yX12_throwsIf ∈ z_ws := List.mem_filter.mpr ⟨List.mem_append_right _ (List.mem_of_getElem? (i := 1619) (by decide +kernel)), rfl⟩
theorem qc_X12_throwsIf : Cond.code yX12_throwsIf cX12_throwsIf 2 (some .boolean) ∈ z_ws := List.mem_filter.mpr ⟨List.mem_append_right _ (List.mem_of_getElem? (i := 1622) (by decide +kernel)), rfl⟩
theorem qi_X12_throwsIf : Cond.instanceMethod yX12_throwsIf ∈ z_ws := List.mem_filter.mpr ⟨List.mem_append_right _ (List.mem_of_getElem? (i := 1621) (by decide +kernel)), rfl⟩
theorem qs_X12_throwsIf : Cond.selects RX12 yX12_throwsIf yX12_throwsIf ∈ z_ws := List.mem_filter.mpr ⟨List.mem_append_left _ (List.mem_of_getElem? (i := 57) (by decide +kernel)), rfl⟩
theorem md_X12_throwsIf : z_mdV yX12_throwsIf cX12_throwsIf 2 (some .boolean) 1 := ⟨⟨qn_RX12, qc_X12_throwsIf, ⟨by decide +kernel, by decide +kernel, by decide +kernel⟩⟩, qi_X12_throwsIf, qs_X12_throwsIf⟩
theorem qmX12_282 : Cond.methodLink RX12 282 yX12_part ∈ z_ws := List.mem_filter.mpr ⟨List.mem_append_right _ (List.mem_of_getElem? (i := 1623) (by decide +kernel)), rfl⟩
theorem qc_X12_part : Cond.code yX12_part cX12_part 5 (some .long) ∈ z_ws := List.mem_filter.mpr ⟨List.mem_append_right _ (List.mem_of_getElem? (i := 1625) (by decide +kernel)), rfl⟩
theorem qs_X12_part : Cond.static yX12_part ∈ z_ws := List.mem_filter.mpr ⟨List.mem_append_right _ (List.mem_of_getElem? (i := 1624) (by decide +kernel)), rfl⟩
theorem md_X12_part : z_mdS yX12_part cX12_part 5 (some .long) 3 := ⟨⟨qn_RX12, qc_X12_part, ⟨by decide +kernel, by decide +kernel, by decide +kernel⟩⟩, qs_X12_part⟩
theorem qmX12_275 : Cond.methodLink RX12 275 yX12_isPart ∈ z_ws := List.mem_filter.mpr ⟨List.mem_append_right _ (List.mem_of_getElem? (i := 1616) (by decide +kernel)), rfl⟩
theorem qc_X12_isPart : Cond.code yX12_isPart cX12_isPart 1 (some .boolean) ∈ z_ws := List.mem_filter.mpr ⟨List.mem_append_right _ (List.mem_of_getElem? (i := 1618) (by decide +kernel)), rfl⟩
theorem qs_X12_isPart : Cond.static yX12_isPart ∈ z_ws := List.mem_filter.mpr ⟨List.mem_append_right _ (List.mem_of_getElem? (i := 1617) (by decide +kernel)), rfl⟩
theorem md_X12_isPart : z_mdS yX12_isPart cX12_isPart 1 (some .boolean) 1 := ⟨⟨qn_RX12, qc_X12_isPart, ⟨by decide +kernel, by decide +kernel, by decide +kernel⟩⟩, qs_X12_isPart⟩
theorem dX12_sure_0 : decode cX12_sure 0 = .ok (.aload_n 0, 1) := by decide +kernel
theorem dX12_sure_1 : decode cX12_sure 1 = .ok (.iload_n 1, 1) := by decide +kernel
theorem dX12_sure_2 : decode cX12_sure 2 = .ok (.invokestatic 275, 3) := by decide +kernel
theorem dX12_sure_5 : decode cX12_sure 5 = .ok (.ifCond .ne 7, 3) := by decide +kernel
theorem dX12_sure_8 : decode cX12_sure 8 = .ok (.iconst 1, 1) := by decide +kernel
theorem dX12_sure_9 : decode cX12_sure 9 = .ok (.goto 4, 3) := by decide +kernel
theorem dX12_sure_12 : decode cX12_sure 12 = .ok (.iconst 0, 1) := by decide +kernel
theorem dX12_sure_13 : decode cX12_sure 13 = .ok (.invokevirtual 278, 3) := by decide +kernel
theorem dX12_sure_16 : decode cX12_sure 16 = .ok (.ifCond .eq 5, 3) := by decide +kernel
theorem dX12_sure_19 : decode cX12_sure 19 = .ok (.lconst 0, 1) := by decide +kernel
theorem dX12_sure_20 : decode cX12_sure 20 = .ok (.lreturn, 1) := by decide +kernel
theorem dX12_sure_21 : decode cX12_sure 21 = .ok (.aload_n 0, 1) := by decide +kernel
theorem dX12_sure_22 : decode cX12_sure 22 = .ok (.aload_n 0, 1) := by decide +kernel
theorem dX12_sure_23 : decode cX12_sure 23 = .ok (.getfield 33, 3) := by decide +kernel
theorem dX12_sure_26 : decode cX12_sure 26 = .ok (.bipush 36, 2) := by decide +kernel
theorem dX12_sure_28 : decode cX12_sure 28 = .ok (.iaload, 1) := by decide +kernel
theorem dX12_sure_29 : decode cX12_sure 29 = .ok (.invokevirtual 264, 3) := by decide +kernel
theorem dX12_sure_32 : decode cX12_sure 32 = .ok (.lstore_n 2, 1) := by decide +kernel
theorem dX12_sure_33 : decode cX12_sure 33 = .ok (.aload_n 0, 1) := by decide +kernel
theorem dX12_sure_34 : decode cX12_sure 34 = .ok (.getfield 50, 3) := by decide +kernel
theorem dX12_sure_37 : decode cX12_sure 37 = .ok (.iconst 0, 1) := by decide +kernel
theorem dX12_sure_38 : decode cX12_sure 38 = .ok (.laload, 1) := by decide +kernel
theorem dX12_sure_39 : decode cX12_sure 39 = .ok (.lload_n 2, 1) := by decide +kernel
theorem dX12_sure_40 : decode cX12_sure 40 = .ok (.iload_n 1, 1) := by decide +kernel
theorem dX12_sure_41 : decode cX12_sure 41 = .ok (.invokestatic 282, 3) := by decide +kernel
theorem dX12_sure_44 : decode cX12_sure 44 = .ok (.lreturn, 1) := by decide +kernel
abbrev rm_X12_sure : Room := { frames := 4, cells := 0, slots := 0, locals := 92 }
noncomputable def fX12_sure_b13 (o0 : Nat) (x1 : Int32) (s0 : Nat) (s1 : Int32) (h : z_T) : Option (Int64 × z_T) :=
  y_gd (z_ok h s0 11) <|
  y_bi (fX12_throwsIf s0 s1 h) fun ⟨r2, h6⟩ =>
  y_br (r2 = 0)
    (y_gd (z_ok h6 o0 11) <|
    y_bi (z_R h6 o0 6) fun o10 =>
    y_gd (z_ok h6 o10 13) <|
    y_gd (z_ix (36 : Int32) (z_N h6 o10)) <|
    y_bi (fX12_likes o0 (z_I h6 o10 (36 : Int32).toNatClampNeg) h6) fun ⟨r15, h18⟩ =>
    y_gd (z_ok h18 o0 11) <|
    y_bi (z_R h18 o0 21) fun o20 =>
    y_gd (z_ok h18 o20 14) <|
    y_gd (z_ix (0 : Int32) (z_N h18 o20)) <|
    y_bi (fX12_part (z_L h18 o20 (0 : Int32).toNatClampNeg) r15 x1) fun r25 =>
    some (r25, h18))
    (some ((0 : Int64), h6))
noncomputable def fX12_sure (o0 : Nat) (x1 : Int32) (h : z_T) : Option (Int64 × z_T) :=
  y_bi (fX12_isPart x1) fun r29 =>
  y_br (r29 = 0)
    (fX12_sure_b13 o0 x1 o0 (1 : Int32) h)
    (fX12_sure_b13 o0 x1 o0 (0 : Int32) h)
set_option maxHeartbeats 4000000 in
set_option maxRecDepth 100000 in
theorem mm_X12_sure {G : z_Gt} {S : State → Prop} (hSK : z_SK S) (l : Launch) (ad : Nat → Nat) (o0 : Nat) (x1 : Int32) (h : z_T) {r0 : Int64} {h9 : z_T} (hv : fX12_sure o0 x1 h = some (r0, h9)) : z_Ml G S l yX12_sure cX12_sure 4 (.long) rm_X12_sure 0 0 [.ref (ad o0), .int x1] ad h h9 r0 := by
  refine z_ofW hSK (by decide) (Nat.le_of_ble_eq_true rfl) ?_
  intro p e s m args below meth c ls hc hr hnm hB hl
  have hx := hc.1.1
  have hb := hc.1.2.1
  have hown := hc.1.2.2.2.1
  have hts := hc.1.2.2.2.2
  replace hc : z_C G S ad (z_n h) p m c cX12_sure 4 s args RX12 meth := hc
  replace hown : s.vm.findClass RX12 = some m.cls := hown
  replace hl : lv_has ls 4 [(0, .ref (ad o0)), (1, .int x1)] := hl
  show W p l e rm_X12_sure s m args below meth c s.heap [] 0 0 (MQ below (z_Ql G ad h9 (z_n h) s.heap.size r0) args s 0 0 (z_A ad (z_n h) s.heap.size)) (F0 m 0 ls [])
  obtain ⟨rs, kt⟩ : ∃ rs : Int64 × z_T, rs = (r0, h9) := ⟨_, rfl⟩
  generalize hn0 : z_n h = n0 at hc hB ⊢
  have b13 : ∀ (s0 : Nat) (s1 : Int32) (h : z_T) (H : Heap) (locs : List Loc) (ls : Array Slot), z_B G ad n0 s h H locs → lv_has ls 4 [(0, .ref (ad o0)), (1, .int x1)] → ∀ w, fX12_sure_b13 o0 x1 s0 s1 h = some w → w = (r0, h9) → W p l e rm_X12_sure s m args below meth c H locs 0 0 (MQ below (z_Ql G ad h9 n0 s.heap.size r0) args s 0 0 (z_A ad n0 s.heap.size)) (F0 m 13 ls [.int s1, .ref (ad s0)]) := by
    intro s0 s1 h H locs ls hB hl w hv kb
    obtain ⟨g7, hv⟩ := y_gd_e hv
    obtain ⟨⟨r2, h6⟩, c1, hv⟩ := y_bi_e hv
    refine z_thI hc hB (z_runV hc hB 11 (mm_X12_throwsIf hSK l ad s0 s1 h c1) md_X12_throwsIf qmX12_278 g7 (by decide) rfl rfl rfl ⟨Nat.le_of_ble_eq_true rfl, Nat.le_of_ble_eq_true rfl⟩ rfl hl.1 rfl (Nat.le_of_ble_eq_true rfl) dX12_sure_13 ⟨Nat.le_of_ble_eq_true rfl, Nat.le_of_ble_eq_true rfl⟩) (fun H locs hB => ?_)
    refine lv_if_eq (tgt := 21) hx hb dX12_sure_16 (by decide) (fun c8 => ?_) (fun c8 => ?_)
    · replace hv := y_br_t hv c8
      refine lv_aload_n hx hb dX12_sure_21 rfl (lv_at hl 0 rfl) ?_
      refine lv_aload_n hx hb dX12_sure_22 rfl (lv_at hl 0 rfl) ?_
      obtain ⟨g9, hv⟩ := y_gd_e hv
      obtain ⟨o10, eo10, hv⟩ := y_bi_e hv
      refine z_getR hc hB 11 6 g9 eo10 (by decide) (by decide) rfl (z_l1 hc qfX12_33) dX12_sure_23 ?_
      refine lv_bipush (v := (36 : Int32)) hx hb dX12_sure_26 (by decide) ?_
      obtain ⟨g11, hv⟩ := y_gd_e hv
      obtain ⟨i12, hv⟩ := y_gd_e hv
      refine z_iald hc hB g11 i12 dX12_sure_28 ?_
      obtain ⟨⟨r15, h18⟩, c13, hv⟩ := y_bi_e hv
      refine z_thL hc hB (z_runV hc hB 11 (mm_X12_likes hSK l ad o0 (z_I h6 o10 (36 : Int32).toNatClampNeg) h6 c13) md_X12_likes qmX12_264 g9 (by decide) rfl rfl rfl ⟨Nat.le_of_ble_eq_true rfl, Nat.le_of_ble_eq_true rfl⟩ rfl hl.1 rfl (Nat.le_of_ble_eq_true rfl) dX12_sure_29 ⟨Nat.le_of_ble_eq_true rfl, Nat.le_of_ble_eq_true rfl⟩) (fun H locs hB => ?_)
      refine lv_lstore_n (lv' := [(2, .long r15), (0, .ref (ad o0)), (1, .int x1)]) hx hb dX12_sure_32 rfl hl (by decide) rfl (fun ls hl => ?_)
      refine lv_aload_n hx hb dX12_sure_33 rfl (lv_at hl 1 rfl) ?_
      obtain ⟨g19, hv⟩ := y_gd_e hv
      obtain ⟨o20, eo20, hv⟩ := y_bi_e hv
      refine z_getR hc hB 11 21 g19 eo20 (by decide) (by decide) rfl (z_l1 hc qfX12_50) dX12_sure_34 ?_
      refine lv_iconst (v := (0 : Int32)) hx hb dX12_sure_37 (by decide) ?_
      obtain ⟨g21, hv⟩ := y_gd_e hv
      obtain ⟨i22, hv⟩ := y_gd_e hv
      refine z_lald hc hB g21 i22 dX12_sure_38 ?_
      refine lv_lload_n hx hb dX12_sure_39 rfl (lv_at hl 0 rfl) ?_
      refine lv_iload_n hx hb dX12_sure_40 rfl (lv_at hl 2 rfl) ?_
      obtain ⟨r25, c23, hv⟩ := y_bi_e hv
      refine z_thL hc hB (z_runS hc hB (mm_X12_part hSK l ad (z_L h18 o20 (0 : Int32).toNatClampNeg) r15 x1 h18 c23) md_X12_part qmX12_282 rfl rfl ⟨Nat.le_of_ble_eq_true rfl, Nat.le_of_ble_eq_true rfl⟩ rfl hl.1 rfl (Nat.le_of_ble_eq_true rfl) dX12_sure_41 ⟨Nat.le_of_ble_eq_true rfl, Nat.le_of_ble_eq_true rfl⟩) (fun H locs hB => ?_)
      replace hv := Option.some.inj hv
      subst hv
      obtain ⟨e1, e2⟩ := y_pr kb
      rw [← e1, ← e2]
      exact z_lret hc hB hr dX12_sure_44
    · replace hv := y_br_f hv c8
      refine lv_lconst (v := (0 : Int64)) hx hb dX12_sure_19 (by decide) ?_
      replace hv := Option.some.inj hv
      subst hv
      obtain ⟨e1, e2⟩ := y_pr kb
      rw [← e1, ← e2]
      exact z_lret hc hB hr dX12_sure_20
  rw [← kt] at hv
  refine lv_aload_n hx hb dX12_sure_0 rfl (lv_at hl 0 rfl) ?_
  refine lv_iload_n hx hb dX12_sure_1 rfl (lv_at hl 1 rfl) ?_
  obtain ⟨r29, c28, hv⟩ := y_bi_e hv
  refine z_thI hc hB (z_runS hc hB (mm_X12_isPart hSK l ad x1 h c28) md_X12_isPart qmX12_275 rfl rfl ⟨Nat.le_of_ble_eq_true rfl, Nat.le_of_ble_eq_true rfl⟩ rfl hl.1 rfl (Nat.le_of_ble_eq_true rfl) dX12_sure_2 ⟨Nat.le_of_ble_eq_true rfl, Nat.le_of_ble_eq_true rfl⟩) (fun H locs hB => ?_)
  refine lv_if_ne (tgt := 12) hx hb dX12_sure_5 (by decide) (fun c33 => ?_) (fun c33 => ?_)
  · replace hv := y_br_f hv c33
    refine lv_iconst (v := (0 : Int32)) hx hb dX12_sure_12 (by decide) ?_
    exact b13 o0 (0 : Int32) h _ _ _ hB (lv_sub hl [0, 1] rfl) _ hv kt
  · replace hv := y_br_t hv c33
    refine lv_iconst (v := (1 : Int32)) hx hb dX12_sure_8 (by decide) ?_
    refine lv_goto (tgt := 13) hx hb dX12_sure_9 (by decide) ?_
    exact b13 o0 (1 : Int32) h _ _ _ hB (lv_sub hl [0, 1] rfl) _ hv kt
theorem dX12_odds_0 : decode cX12_odds 0 = .ok (.aload_n 0, 1) := by decide +kernel
theorem dX12_odds_1 : decode cX12_odds 1 = .ok (.aload_n 0, 1) := by decide +kernel
theorem dX12_odds_2 : decode cX12_odds 2 = .ok (.iload_n 1, 1) := by decide +kernel
theorem dX12_odds_3 : decode cX12_odds 3 = .ok (.invokevirtual 247, 3) := by decide +kernel
theorem dX12_odds_6 : decode cX12_odds 6 = .ok (.ifCond .eq 10, 3) := by decide +kernel
theorem dX12_odds_9 : decode cX12_odds 9 = .ok (.iload_n 2, 1) := by decide +kernel
theorem dX12_odds_10 : decode cX12_odds 10 = .ok (.invokestatic 275, 3) := by decide +kernel
theorem dX12_odds_13 : decode cX12_odds 13 = .ok (.ifCond .ne 7, 3) := by decide +kernel
theorem dX12_odds_16 : decode cX12_odds 16 = .ok (.iconst 1, 1) := by decide +kernel
theorem dX12_odds_17 : decode cX12_odds 17 = .ok (.goto 4, 3) := by decide +kernel
theorem dX12_odds_20 : decode cX12_odds 20 = .ok (.iconst 0, 1) := by decide +kernel
theorem dX12_odds_21 : decode cX12_odds 21 = .ok (.invokevirtual 278, 3) := by decide +kernel
theorem dX12_odds_24 : decode cX12_odds 24 = .ok (.ifCond .eq 5, 3) := by decide +kernel
theorem dX12_odds_27 : decode cX12_odds 27 = .ok (.lconst 0, 1) := by decide +kernel
theorem dX12_odds_28 : decode cX12_odds 28 = .ok (.lreturn, 1) := by decide +kernel
theorem dX12_odds_29 : decode cX12_odds 29 = .ok (.aload_n 0, 1) := by decide +kernel
theorem dX12_odds_30 : decode cX12_odds 30 = .ok (.aload_n 0, 1) := by decide +kernel
theorem dX12_odds_31 : decode cX12_odds 31 = .ok (.getfield 33, 3) := by decide +kernel
theorem dX12_odds_34 : decode cX12_odds 34 = .ok (.bipush 36, 2) := by decide +kernel
theorem dX12_odds_36 : decode cX12_odds 36 = .ok (.iaload, 1) := by decide +kernel
theorem dX12_odds_37 : decode cX12_odds 37 = .ok (.invokevirtual 264, 3) := by decide +kernel
theorem dX12_odds_40 : decode cX12_odds 40 = .ok (.lstore_n 3, 1) := by decide +kernel
theorem dX12_odds_41 : decode cX12_odds 41 = .ok (.aload_n 0, 1) := by decide +kernel
theorem dX12_odds_42 : decode cX12_odds 42 = .ok (.getfield 50, 3) := by decide +kernel
theorem dX12_odds_45 : decode cX12_odds 45 = .ok (.iload_n 1, 1) := by decide +kernel
theorem dX12_odds_46 : decode cX12_odds 46 = .ok (.iconst 1, 1) := by decide +kernel
theorem dX12_odds_47 : decode cX12_odds 47 = .ok (.iadd, 1) := by decide +kernel
theorem dX12_odds_48 : decode cX12_odds 48 = .ok (.laload, 1) := by decide +kernel
theorem dX12_odds_49 : decode cX12_odds 49 = .ok (.lload_n 3, 1) := by decide +kernel
theorem dX12_odds_50 : decode cX12_odds 50 = .ok (.iload_n 2, 1) := by decide +kernel
theorem dX12_odds_51 : decode cX12_odds 51 = .ok (.invokestatic 282, 3) := by decide +kernel
theorem dX12_odds_54 : decode cX12_odds 54 = .ok (.lreturn, 1) := by decide +kernel
abbrev rm_X12_odds : Room := { frames := 4, cells := 0, slots := 0, locals := 92 }
noncomputable def fX12_odds_b21 (o0 : Nat) (x1 : Int32) (x2 : Int32) (s0 : Nat) (s1 : Int32) (h : z_T) : Option (Int64 × z_T) :=
  y_gd (z_ok h s0 11) <|
  y_bi (fX12_throwsIf s0 s1 h) fun ⟨r2, h6⟩ =>
  y_br (r2 = 0)
    (y_gd (z_ok h6 o0 11) <|
    y_bi (z_R h6 o0 6) fun o10 =>
    y_gd (z_ok h6 o10 13) <|
    y_gd (z_ix (36 : Int32) (z_N h6 o10)) <|
    y_bi (fX12_likes o0 (z_I h6 o10 (36 : Int32).toNatClampNeg) h6) fun ⟨r15, h18⟩ =>
    y_gd (z_ok h18 o0 11) <|
    y_bi (z_R h18 o0 21) fun o20 =>
    y_gd (z_ok h18 o20 14) <|
    y_gd (z_ix (x1 + (1 : Int32)) (z_N h18 o20)) <|
    y_bi (fX12_part (z_L h18 o20 (x1 + (1 : Int32)).toNatClampNeg) r15 x2) fun r25 =>
    some (r25, h18))
    (some ((0 : Int64), h6))
noncomputable def fX12_odds_b16 (o0 : Nat) (x1 : Int32) (x2 : Int32) (s0 : Nat) (h : z_T) : Option (Int64 × z_T) :=
  fX12_odds_b21 o0 x1 x2 s0 (1 : Int32) h
noncomputable def fX12_odds (o0 : Nat) (x1 : Int32) (x2 : Int32) (h : z_T) : Option (Int64 × z_T) :=
  y_gd (z_ok h o0 11) <|
  y_bi (fX12_isDream o0 x1 h) fun r29 =>
  y_br (r29 = 0)
    (fX12_odds_b16 o0 x1 x2 o0 h)
    (y_bi (fX12_isPart x2) fun r36 =>
    y_br (r36 = 0)
      (fX12_odds_b16 o0 x1 x2 o0 h)
      (fX12_odds_b21 o0 x1 x2 o0 (0 : Int32) h))
set_option maxHeartbeats 4000000 in
set_option maxRecDepth 100000 in
theorem mm_X12_odds {G : z_Gt} {S : State → Prop} (hSK : z_SK S) (l : Launch) (ad : Nat → Nat) (o0 : Nat) (x1 : Int32) (x2 : Int32) (h : z_T) {r0 : Int64} {h9 : z_T} (hv : fX12_odds o0 x1 x2 h = some (r0, h9)) : z_Ml G S l yX12_odds cX12_odds 5 (.long) rm_X12_odds 0 0 [.ref (ad o0), .int x1, .int x2] ad h h9 r0 := by
  refine z_ofW hSK (by decide) (Nat.le_of_ble_eq_true rfl) ?_
  intro p e s m args below meth c ls hc hr hnm hB hl
  have hx := hc.1.1
  have hb := hc.1.2.1
  have hown := hc.1.2.2.2.1
  have hts := hc.1.2.2.2.2
  replace hc : z_C G S ad (z_n h) p m c cX12_odds 5 s args RX12 meth := hc
  replace hown : s.vm.findClass RX12 = some m.cls := hown
  replace hl : lv_has ls 5 [(0, .ref (ad o0)), (1, .int x1), (2, .int x2)] := hl
  show W p l e rm_X12_odds s m args below meth c s.heap [] 0 0 (MQ below (z_Ql G ad h9 (z_n h) s.heap.size r0) args s 0 0 (z_A ad (z_n h) s.heap.size)) (F0 m 0 ls [])
  obtain ⟨rs, kt⟩ : ∃ rs : Int64 × z_T, rs = (r0, h9) := ⟨_, rfl⟩
  generalize hn0 : z_n h = n0 at hc hB ⊢
  have b21 : ∀ (s0 : Nat) (s1 : Int32) (h : z_T) (H : Heap) (locs : List Loc) (ls : Array Slot), z_B G ad n0 s h H locs → lv_has ls 5 [(0, .ref (ad o0)), (1, .int x1), (2, .int x2)] → ∀ w, fX12_odds_b21 o0 x1 x2 s0 s1 h = some w → w = (r0, h9) → W p l e rm_X12_odds s m args below meth c H locs 0 0 (MQ below (z_Ql G ad h9 n0 s.heap.size r0) args s 0 0 (z_A ad n0 s.heap.size)) (F0 m 21 ls [.int s1, .ref (ad s0)]) := by
    intro s0 s1 h H locs ls hB hl w hv kb
    obtain ⟨g7, hv⟩ := y_gd_e hv
    obtain ⟨⟨r2, h6⟩, c1, hv⟩ := y_bi_e hv
    refine z_thI hc hB (z_runV hc hB 11 (mm_X12_throwsIf hSK l ad s0 s1 h c1) md_X12_throwsIf qmX12_278 g7 (by decide) rfl rfl rfl ⟨Nat.le_of_ble_eq_true rfl, Nat.le_of_ble_eq_true rfl⟩ rfl hl.1 rfl (Nat.le_of_ble_eq_true rfl) dX12_odds_21 ⟨Nat.le_of_ble_eq_true rfl, Nat.le_of_ble_eq_true rfl⟩) (fun H locs hB => ?_)
    refine lv_if_eq (tgt := 29) hx hb dX12_odds_24 (by decide) (fun c8 => ?_) (fun c8 => ?_)
    · replace hv := y_br_t hv c8
      refine lv_aload_n hx hb dX12_odds_29 rfl (lv_at hl 0 rfl) ?_
      refine lv_aload_n hx hb dX12_odds_30 rfl (lv_at hl 0 rfl) ?_
      obtain ⟨g9, hv⟩ := y_gd_e hv
      obtain ⟨o10, eo10, hv⟩ := y_bi_e hv
      refine z_getR hc hB 11 6 g9 eo10 (by decide) (by decide) rfl (z_l1 hc qfX12_33) dX12_odds_31 ?_
      refine lv_bipush (v := (36 : Int32)) hx hb dX12_odds_34 (by decide) ?_
      obtain ⟨g11, hv⟩ := y_gd_e hv
      obtain ⟨i12, hv⟩ := y_gd_e hv
      refine z_iald hc hB g11 i12 dX12_odds_36 ?_
      obtain ⟨⟨r15, h18⟩, c13, hv⟩ := y_bi_e hv
      refine z_thL hc hB (z_runV hc hB 11 (mm_X12_likes hSK l ad o0 (z_I h6 o10 (36 : Int32).toNatClampNeg) h6 c13) md_X12_likes qmX12_264 g9 (by decide) rfl rfl rfl ⟨Nat.le_of_ble_eq_true rfl, Nat.le_of_ble_eq_true rfl⟩ rfl hl.1 rfl (Nat.le_of_ble_eq_true rfl) dX12_odds_37 ⟨Nat.le_of_ble_eq_true rfl, Nat.le_of_ble_eq_true rfl⟩) (fun H locs hB => ?_)
      refine lv_lstore_n (lv' := [(3, .long r15), (0, .ref (ad o0)), (1, .int x1), (2, .int x2)]) hx hb dX12_odds_40 rfl hl (by decide) rfl (fun ls hl => ?_)
      refine lv_aload_n hx hb dX12_odds_41 rfl (lv_at hl 1 rfl) ?_
      obtain ⟨g19, hv⟩ := y_gd_e hv
      obtain ⟨o20, eo20, hv⟩ := y_bi_e hv
      refine z_getR hc hB 11 21 g19 eo20 (by decide) (by decide) rfl (z_l1 hc qfX12_50) dX12_odds_42 ?_
      refine lv_iload_n hx hb dX12_odds_45 rfl (lv_at hl 2 rfl) ?_
      refine lv_iconst (v := (1 : Int32)) hx hb dX12_odds_46 (by decide) ?_
      refine lv_iadd hx hb dX12_odds_47 ?_
      obtain ⟨g21, hv⟩ := y_gd_e hv
      obtain ⟨i22, hv⟩ := y_gd_e hv
      refine z_lald hc hB g21 i22 dX12_odds_48 ?_
      refine lv_lload_n hx hb dX12_odds_49 rfl (lv_at hl 0 rfl) ?_
      refine lv_iload_n hx hb dX12_odds_50 rfl (lv_at hl 3 rfl) ?_
      obtain ⟨r25, c23, hv⟩ := y_bi_e hv
      refine z_thL hc hB (z_runS hc hB (mm_X12_part hSK l ad (z_L h18 o20 (x1 + (1 : Int32)).toNatClampNeg) r15 x2 h18 c23) md_X12_part qmX12_282 rfl rfl ⟨Nat.le_of_ble_eq_true rfl, Nat.le_of_ble_eq_true rfl⟩ rfl hl.1 rfl (Nat.le_of_ble_eq_true rfl) dX12_odds_51 ⟨Nat.le_of_ble_eq_true rfl, Nat.le_of_ble_eq_true rfl⟩) (fun H locs hB => ?_)
      replace hv := Option.some.inj hv
      subst hv
      obtain ⟨e1, e2⟩ := y_pr kb
      rw [← e1, ← e2]
      exact z_lret hc hB hr dX12_odds_54
    · replace hv := y_br_f hv c8
      refine lv_lconst (v := (0 : Int64)) hx hb dX12_odds_27 (by decide) ?_
      replace hv := Option.some.inj hv
      subst hv
      obtain ⟨e1, e2⟩ := y_pr kb
      rw [← e1, ← e2]
      exact z_lret hc hB hr dX12_odds_28
  have b16 : ∀ (s0 : Nat) (h : z_T) (H : Heap) (locs : List Loc) (ls : Array Slot), z_B G ad n0 s h H locs → lv_has ls 5 [(0, .ref (ad o0)), (1, .int x1), (2, .int x2)] → ∀ w, fX12_odds_b16 o0 x1 x2 s0 h = some w → w = (r0, h9) → W p l e rm_X12_odds s m args below meth c H locs 0 0 (MQ below (z_Ql G ad h9 n0 s.heap.size r0) args s 0 0 (z_A ad n0 s.heap.size)) (F0 m 16 ls [.ref (ad s0)]) := by
    intro s0 h H locs ls hB hl w hv kb
    refine lv_iconst (v := (1 : Int32)) hx hb dX12_odds_16 (by decide) ?_
    refine lv_goto (tgt := 21) hx hb dX12_odds_17 (by decide) ?_
    exact b21 s0 (1 : Int32) h _ _ _ hB (lv_sub hl [0, 1, 2] rfl) _ hv kb
  rw [← kt] at hv
  refine lv_aload_n hx hb dX12_odds_0 rfl (lv_at hl 0 rfl) ?_
  refine lv_aload_n hx hb dX12_odds_1 rfl (lv_at hl 0 rfl) ?_
  refine lv_iload_n hx hb dX12_odds_2 rfl (lv_at hl 1 rfl) ?_
  obtain ⟨g33, hv⟩ := y_gd_e hv
  obtain ⟨r29, c28, hv⟩ := y_bi_e hv
  refine z_thI hc hB (z_runV hc hB 11 (mm_X12_isDream hSK l ad o0 x1 h c28) md_X12_isDream qmX12_247 g33 (by decide) rfl rfl rfl ⟨Nat.le_of_ble_eq_true rfl, Nat.le_of_ble_eq_true rfl⟩ rfl hl.1 rfl (Nat.le_of_ble_eq_true rfl) dX12_odds_3 ⟨Nat.le_of_ble_eq_true rfl, Nat.le_of_ble_eq_true rfl⟩) (fun H locs hB => ?_)
  refine lv_if_eq (tgt := 16) hx hb dX12_odds_6 (by decide) (fun c34 => ?_) (fun c34 => ?_)
  · replace hv := y_br_t hv c34
    exact b16 o0 h _ _ _ hB (lv_sub hl [0, 1, 2] rfl) _ hv kt
  · replace hv := y_br_f hv c34
    refine lv_iload_n hx hb dX12_odds_9 rfl (lv_at hl 2 rfl) ?_
    obtain ⟨r36, c35, hv⟩ := y_bi_e hv
    refine z_thI hc hB (z_runS hc hB (mm_X12_isPart hSK l ad x2 h c35) md_X12_isPart qmX12_275 rfl rfl ⟨Nat.le_of_ble_eq_true rfl, Nat.le_of_ble_eq_true rfl⟩ rfl hl.1 rfl (Nat.le_of_ble_eq_true rfl) dX12_odds_10 ⟨Nat.le_of_ble_eq_true rfl, Nat.le_of_ble_eq_true rfl⟩) (fun H locs hB => ?_)
    refine lv_if_ne (tgt := 20) hx hb dX12_odds_13 (by decide) (fun c40 => ?_) (fun c40 => ?_)
    · replace hv := y_br_f hv c40
      refine lv_iconst (v := (0 : Int32)) hx hb dX12_odds_20 (by decide) ?_
      exact b21 o0 (0 : Int32) h _ _ _ hB (lv_sub hl [0, 1, 2] rfl) _ hv kt
    · replace hv := y_br_t hv c40
      exact b16 o0 h _ _ _ hB (lv_sub hl [0, 1, 2] rfl) _ hv kt
theorem dX12_after_0 : decode cX12_after 0 = .ok (.aload_n 0, 1) := by decide +kernel
theorem dX12_after_1 : decode cX12_after 1 = .ok (.iload_n 1, 1) := by decide +kernel
theorem dX12_after_2 : decode cX12_after 2 = .ok (.iconst 0, 1) := by decide +kernel
theorem dX12_after_3 : decode cX12_after 3 = .ok (.aload_n 0, 1) := by decide +kernel
theorem dX12_after_4 : decode cX12_after 4 = .ok (.getfield 33, 3) := by decide +kernel
theorem dX12_after_7 : decode cX12_after 7 = .ok (.bipush 36, 2) := by decide +kernel
theorem dX12_after_9 : decode cX12_after 9 = .ok (.iaload, 1) := by decide +kernel
theorem dX12_after_10 : decode cX12_after 10 = .ok (.invokestatic 188, 3) := by decide +kernel
theorem dX12_after_13 : decode cX12_after 13 = .ok (.ifCond .eq 10, 3) := by decide +kernel
theorem dX12_after_16 : decode cX12_after 16 = .ok (.iload_n 2, 1) := by decide +kernel
theorem dX12_after_17 : decode cX12_after 17 = .ok (.invokestatic 275, 3) := by decide +kernel
theorem dX12_after_20 : decode cX12_after 20 = .ok (.ifCond .ne 7, 3) := by decide +kernel
theorem dX12_after_23 : decode cX12_after 23 = .ok (.iconst 1, 1) := by decide +kernel
theorem dX12_after_24 : decode cX12_after 24 = .ok (.goto 4, 3) := by decide +kernel
theorem dX12_after_27 : decode cX12_after 27 = .ok (.iconst 0, 1) := by decide +kernel
theorem dX12_after_28 : decode cX12_after 28 = .ok (.invokevirtual 278, 3) := by decide +kernel
theorem dX12_after_31 : decode cX12_after 31 = .ok (.ifCond .eq 5, 3) := by decide +kernel
theorem dX12_after_34 : decode cX12_after 34 = .ok (.lconst 0, 1) := by decide +kernel
theorem dX12_after_35 : decode cX12_after 35 = .ok (.lreturn, 1) := by decide +kernel
theorem dX12_after_36 : decode cX12_after 36 = .ok (.aload_n 0, 1) := by decide +kernel
theorem dX12_after_37 : decode cX12_after 37 = .ok (.iload_n 1, 1) := by decide +kernel
theorem dX12_after_38 : decode cX12_after 38 = .ok (.invokevirtual 264, 3) := by decide +kernel
theorem dX12_after_41 : decode cX12_after 41 = .ok (.lstore_n 3, 1) := by decide +kernel
theorem dX12_after_42 : decode cX12_after 42 = .ok (.aload_n 0, 1) := by decide +kernel
theorem dX12_after_43 : decode cX12_after 43 = .ok (.getfield 50, 3) := by decide +kernel
theorem dX12_after_46 : decode cX12_after 46 = .ok (.iconst 0, 1) := by decide +kernel
theorem dX12_after_47 : decode cX12_after 47 = .ok (.laload, 1) := by decide +kernel
theorem dX12_after_48 : decode cX12_after 48 = .ok (.lload_n 3, 1) := by decide +kernel
theorem dX12_after_49 : decode cX12_after 49 = .ok (.iload_n 2, 1) := by decide +kernel
theorem dX12_after_50 : decode cX12_after 50 = .ok (.invokestatic 282, 3) := by decide +kernel
theorem dX12_after_53 : decode cX12_after 53 = .ok (.lreturn, 1) := by decide +kernel
abbrev rm_X12_after : Room := { frames := 4, cells := 0, slots := 0, locals := 92 }
noncomputable def fX12_after_b28 (o0 : Nat) (x1 : Int32) (x2 : Int32) (s0 : Nat) (s1 : Int32) (h : z_T) : Option (Int64 × z_T) :=
  y_gd (z_ok h s0 11) <|
  y_bi (fX12_throwsIf s0 s1 h) fun ⟨r2, h6⟩ =>
  y_br (r2 = 0)
    (y_gd (z_ok h6 o0 11) <|
    y_bi (fX12_likes o0 x1 h6) fun ⟨r11, h14⟩ =>
    y_gd (z_ok h14 o0 11) <|
    y_bi (z_R h14 o0 21) fun o17 =>
    y_gd (z_ok h14 o17 14) <|
    y_gd (z_ix (0 : Int32) (z_N h14 o17)) <|
    y_bi (fX12_part (z_L h14 o17 (0 : Int32).toNatClampNeg) r11 x2) fun r22 =>
    some (r22, h14))
    (some ((0 : Int64), h6))
noncomputable def fX12_after_b23 (o0 : Nat) (x1 : Int32) (x2 : Int32) (s0 : Nat) (h : z_T) : Option (Int64 × z_T) :=
  fX12_after_b28 o0 x1 x2 s0 (1 : Int32) h
noncomputable def fX12_after (o0 : Nat) (x1 : Int32) (x2 : Int32) (h : z_T) : Option (Int64 × z_T) :=
  y_gd (z_ok h o0 11) <|
  y_bi (z_R h o0 6) fun o26 =>
  y_gd (z_ok h o26 13) <|
  y_gd (z_ix (36 : Int32) (z_N h o26)) <|
  y_bi (fX12_isIn x1 (0 : Int32) (z_I h o26 (36 : Int32).toNatClampNeg)) fun r30 =>
  y_br (r30 = 0)
    (fX12_after_b23 o0 x1 x2 o0 h)
    (y_bi (fX12_isPart x2) fun r36 =>
    y_br (r36 = 0)
      (fX12_after_b23 o0 x1 x2 o0 h)
      (fX12_after_b28 o0 x1 x2 o0 (0 : Int32) h))
set_option maxHeartbeats 4000000 in
set_option maxRecDepth 100000 in
theorem mm_X12_after {G : z_Gt} {S : State → Prop} (hSK : z_SK S) (l : Launch) (ad : Nat → Nat) (o0 : Nat) (x1 : Int32) (x2 : Int32) (h : z_T) {r0 : Int64} {h9 : z_T} (hv : fX12_after o0 x1 x2 h = some (r0, h9)) : z_Ml G S l yX12_after cX12_after 5 (.long) rm_X12_after 0 0 [.ref (ad o0), .int x1, .int x2] ad h h9 r0 := by
  refine z_ofW hSK (by decide) (Nat.le_of_ble_eq_true rfl) ?_
  intro p e s m args below meth c ls hc hr hnm hB hl
  have hx := hc.1.1
  have hb := hc.1.2.1
  have hown := hc.1.2.2.2.1
  have hts := hc.1.2.2.2.2
  replace hc : z_C G S ad (z_n h) p m c cX12_after 5 s args RX12 meth := hc
  replace hown : s.vm.findClass RX12 = some m.cls := hown
  replace hl : lv_has ls 5 [(0, .ref (ad o0)), (1, .int x1), (2, .int x2)] := hl
  show W p l e rm_X12_after s m args below meth c s.heap [] 0 0 (MQ below (z_Ql G ad h9 (z_n h) s.heap.size r0) args s 0 0 (z_A ad (z_n h) s.heap.size)) (F0 m 0 ls [])
  obtain ⟨rs, kt⟩ : ∃ rs : Int64 × z_T, rs = (r0, h9) := ⟨_, rfl⟩
  generalize hn0 : z_n h = n0 at hc hB ⊢
  have b28 : ∀ (s0 : Nat) (s1 : Int32) (h : z_T) (H : Heap) (locs : List Loc) (ls : Array Slot), z_B G ad n0 s h H locs → lv_has ls 5 [(0, .ref (ad o0)), (1, .int x1), (2, .int x2)] → ∀ w, fX12_after_b28 o0 x1 x2 s0 s1 h = some w → w = (r0, h9) → W p l e rm_X12_after s m args below meth c H locs 0 0 (MQ below (z_Ql G ad h9 n0 s.heap.size r0) args s 0 0 (z_A ad n0 s.heap.size)) (F0 m 28 ls [.int s1, .ref (ad s0)]) := by
    intro s0 s1 h H locs ls hB hl w hv kb
    obtain ⟨g7, hv⟩ := y_gd_e hv
    obtain ⟨⟨r2, h6⟩, c1, hv⟩ := y_bi_e hv
    refine z_thI hc hB (z_runV hc hB 11 (mm_X12_throwsIf hSK l ad s0 s1 h c1) md_X12_throwsIf qmX12_278 g7 (by decide) rfl rfl rfl ⟨Nat.le_of_ble_eq_true rfl, Nat.le_of_ble_eq_true rfl⟩ rfl hl.1 rfl (Nat.le_of_ble_eq_true rfl) dX12_after_28 ⟨Nat.le_of_ble_eq_true rfl, Nat.le_of_ble_eq_true rfl⟩) (fun H locs hB => ?_)
    refine lv_if_eq (tgt := 36) hx hb dX12_after_31 (by decide) (fun c8 => ?_) (fun c8 => ?_)
    · replace hv := y_br_t hv c8
      refine lv_aload_n hx hb dX12_after_36 rfl (lv_at hl 0 rfl) ?_
      refine lv_iload_n hx hb dX12_after_37 rfl (lv_at hl 1 rfl) ?_
      obtain ⟨g15, hv⟩ := y_gd_e hv
      obtain ⟨⟨r11, h14⟩, c9, hv⟩ := y_bi_e hv
      refine z_thL hc hB (z_runV hc hB 11 (mm_X12_likes hSK l ad o0 x1 h6 c9) md_X12_likes qmX12_264 g15 (by decide) rfl rfl rfl ⟨Nat.le_of_ble_eq_true rfl, Nat.le_of_ble_eq_true rfl⟩ rfl hl.1 rfl (Nat.le_of_ble_eq_true rfl) dX12_after_38 ⟨Nat.le_of_ble_eq_true rfl, Nat.le_of_ble_eq_true rfl⟩) (fun H locs hB => ?_)
      refine lv_lstore_n (lv' := [(3, .long r11), (0, .ref (ad o0)), (1, .int x1), (2, .int x2)]) hx hb dX12_after_41 rfl hl (by decide) rfl (fun ls hl => ?_)
      refine lv_aload_n hx hb dX12_after_42 rfl (lv_at hl 1 rfl) ?_
      obtain ⟨g16, hv⟩ := y_gd_e hv
      obtain ⟨o17, eo17, hv⟩ := y_bi_e hv
      refine z_getR hc hB 11 21 g16 eo17 (by decide) (by decide) rfl (z_l1 hc qfX12_50) dX12_after_43 ?_
      refine lv_iconst (v := (0 : Int32)) hx hb dX12_after_46 (by decide) ?_
      obtain ⟨g18, hv⟩ := y_gd_e hv
      obtain ⟨i19, hv⟩ := y_gd_e hv
      refine z_lald hc hB g18 i19 dX12_after_47 ?_
      refine lv_lload_n hx hb dX12_after_48 rfl (lv_at hl 0 rfl) ?_
      refine lv_iload_n hx hb dX12_after_49 rfl (lv_at hl 3 rfl) ?_
      obtain ⟨r22, c20, hv⟩ := y_bi_e hv
      refine z_thL hc hB (z_runS hc hB (mm_X12_part hSK l ad (z_L h14 o17 (0 : Int32).toNatClampNeg) r11 x2 h14 c20) md_X12_part qmX12_282 rfl rfl ⟨Nat.le_of_ble_eq_true rfl, Nat.le_of_ble_eq_true rfl⟩ rfl hl.1 rfl (Nat.le_of_ble_eq_true rfl) dX12_after_50 ⟨Nat.le_of_ble_eq_true rfl, Nat.le_of_ble_eq_true rfl⟩) (fun H locs hB => ?_)
      replace hv := Option.some.inj hv
      subst hv
      obtain ⟨e1, e2⟩ := y_pr kb
      rw [← e1, ← e2]
      exact z_lret hc hB hr dX12_after_53
    · replace hv := y_br_f hv c8
      refine lv_lconst (v := (0 : Int64)) hx hb dX12_after_34 (by decide) ?_
      replace hv := Option.some.inj hv
      subst hv
      obtain ⟨e1, e2⟩ := y_pr kb
      rw [← e1, ← e2]
      exact z_lret hc hB hr dX12_after_35
  have b23 : ∀ (s0 : Nat) (h : z_T) (H : Heap) (locs : List Loc) (ls : Array Slot), z_B G ad n0 s h H locs → lv_has ls 5 [(0, .ref (ad o0)), (1, .int x1), (2, .int x2)] → ∀ w, fX12_after_b23 o0 x1 x2 s0 h = some w → w = (r0, h9) → W p l e rm_X12_after s m args below meth c H locs 0 0 (MQ below (z_Ql G ad h9 n0 s.heap.size r0) args s 0 0 (z_A ad n0 s.heap.size)) (F0 m 23 ls [.ref (ad s0)]) := by
    intro s0 h H locs ls hB hl w hv kb
    refine lv_iconst (v := (1 : Int32)) hx hb dX12_after_23 (by decide) ?_
    refine lv_goto (tgt := 28) hx hb dX12_after_24 (by decide) ?_
    exact b28 s0 (1 : Int32) h _ _ _ hB (lv_sub hl [0, 1, 2] rfl) _ hv kb
  rw [← kt] at hv
  refine lv_aload_n hx hb dX12_after_0 rfl (lv_at hl 0 rfl) ?_
  refine lv_iload_n hx hb dX12_after_1 rfl (lv_at hl 1 rfl) ?_
  refine lv_iconst (v := (0 : Int32)) hx hb dX12_after_2 (by decide) ?_
  refine lv_aload_n hx hb dX12_after_3 rfl (lv_at hl 0 rfl) ?_
  obtain ⟨g25, hv⟩ := y_gd_e hv
  obtain ⟨o26, eo26, hv⟩ := y_bi_e hv
  refine z_getR hc hB 11 6 g25 eo26 (by decide) (by decide) rfl (z_l1 hc qfX12_33) dX12_after_4 ?_
  refine lv_bipush (v := (36 : Int32)) hx hb dX12_after_7 (by decide) ?_
  obtain ⟨g27, hv⟩ := y_gd_e hv
  obtain ⟨i28, hv⟩ := y_gd_e hv
  refine z_iald hc hB g27 i28 dX12_after_9 ?_
  obtain ⟨r30, c29, hv⟩ := y_bi_e hv
  refine z_thI hc hB (z_runS hc hB (mm_X12_isIn hSK l ad x1 (0 : Int32) (z_I h o26 (36 : Int32).toNatClampNeg) h c29) md_X12_isIn qmX12_188 rfl rfl ⟨Nat.le_of_ble_eq_true rfl, Nat.le_of_ble_eq_true rfl⟩ rfl hl.1 rfl (Nat.le_of_ble_eq_true rfl) dX12_after_10 ⟨Nat.le_of_ble_eq_true rfl, Nat.le_of_ble_eq_true rfl⟩) (fun H locs hB => ?_)
  refine lv_if_eq (tgt := 23) hx hb dX12_after_13 (by decide) (fun c34 => ?_) (fun c34 => ?_)
  · replace hv := y_br_t hv c34
    exact b23 o0 h _ _ _ hB (lv_sub hl [0, 1, 2] rfl) _ hv kt
  · replace hv := y_br_f hv c34
    refine lv_iload_n hx hb dX12_after_16 rfl (lv_at hl 2 rfl) ?_
    obtain ⟨r36, c35, hv⟩ := y_bi_e hv
    refine z_thI hc hB (z_runS hc hB (mm_X12_isPart hSK l ad x2 h c35) md_X12_isPart qmX12_275 rfl rfl ⟨Nat.le_of_ble_eq_true rfl, Nat.le_of_ble_eq_true rfl⟩ rfl hl.1 rfl (Nat.le_of_ble_eq_true rfl) dX12_after_17 ⟨Nat.le_of_ble_eq_true rfl, Nat.le_of_ble_eq_true rfl⟩) (fun H locs hB => ?_)
    refine lv_if_ne (tgt := 27) hx hb dX12_after_20 (by decide) (fun c40 => ?_) (fun c40 => ?_)
    · replace hv := y_br_f hv c40
      refine lv_iconst (v := (0 : Int32)) hx hb dX12_after_27 (by decide) ?_
      exact b28 o0 (0 : Int32) h _ _ _ hB (lv_sub hl [0, 1, 2] rfl) _ hv kt
    · replace hv := y_br_t hv c40
      exact b23 o0 h _ _ _ hB (lv_sub hl [0, 1, 2] rfl) _ hv kt
theorem dX12_isUp_0 : decode cX12_isUp 0 = .ok (.aload_n 0, 1) := by decide +kernel
theorem dX12_isUp_1 : decode cX12_isUp 1 = .ok (.aload_n 0, 1) := by decide +kernel
theorem dX12_isUp_2 : decode cX12_isUp 2 = .ok (.getfield 33, 3) := by decide +kernel
theorem dX12_isUp_5 : decode cX12_isUp 5 = .ok (.bipush 36, 2) := by decide +kernel
theorem dX12_isUp_7 : decode cX12_isUp 7 = .ok (.iaload, 1) := by decide +kernel
theorem dX12_isUp_8 : decode cX12_isUp 8 = .ok (.invokevirtual 264, 3) := by decide +kernel
theorem dX12_isUp_11 : decode cX12_isUp 11 = .ok (.lstore_n 1, 1) := by decide +kernel
theorem dX12_isUp_12 : decode cX12_isUp 12 = .ok (.aload_n 0, 1) := by decide +kernel
theorem dX12_isUp_13 : decode cX12_isUp 13 = .ok (.getfield 33, 3) := by decide +kernel
theorem dX12_isUp_16 : decode cX12_isUp 16 = .ok (.bipush 6, 2) := by decide +kernel
theorem dX12_isUp_18 : decode cX12_isUp 18 = .ok (.iaload, 1) := by decide +kernel
theorem dX12_isUp_19 : decode cX12_isUp 19 = .ok (.i2l, 1) := by decide +kernel
theorem dX12_isUp_20 : decode cX12_isUp 20 = .ok (.lload_n 1, 1) := by decide +kernel
theorem dX12_isUp_21 : decode cX12_isUp 21 = .ok (.aload_n 0, 1) := by decide +kernel
theorem dX12_isUp_22 : decode cX12_isUp 22 = .ok (.getfield 50, 3) := by decide +kernel
theorem dX12_isUp_25 : decode cX12_isUp 25 = .ok (.iconst 0, 1) := by decide +kernel
theorem dX12_isUp_26 : decode cX12_isUp 26 = .ok (.laload, 1) := by decide +kernel
theorem dX12_isUp_27 : decode cX12_isUp 27 = .ok (.lsub, 1) := by decide +kernel
theorem dX12_isUp_28 : decode cX12_isUp 28 = .ok (.lmul, 1) := by decide +kernel
theorem dX12_isUp_29 : decode cX12_isUp 29 = .ok (.aload_n 0, 1) := by decide +kernel
theorem dX12_isUp_30 : decode cX12_isUp 30 = .ok (.getfield 33, 3) := by decide +kernel
theorem dX12_isUp_33 : decode cX12_isUp 33 = .ok (.iconst 5, 1) := by decide +kernel
theorem dX12_isUp_34 : decode cX12_isUp 34 = .ok (.iaload, 1) := by decide +kernel
theorem dX12_isUp_35 : decode cX12_isUp 35 = .ok (.i2l, 1) := by decide +kernel
theorem dX12_isUp_36 : decode cX12_isUp 36 = .ok (.aload_n 0, 1) := by decide +kernel
theorem dX12_isUp_37 : decode cX12_isUp 37 = .ok (.getfield 50, 3) := by decide +kernel
theorem dX12_isUp_40 : decode cX12_isUp 40 = .ok (.iconst 0, 1) := by decide +kernel
theorem dX12_isUp_41 : decode cX12_isUp 41 = .ok (.laload, 1) := by decide +kernel
theorem dX12_isUp_42 : decode cX12_isUp 42 = .ok (.lmul, 1) := by decide +kernel
theorem dX12_isUp_43 : decode cX12_isUp 43 = .ok (.lcmp, 1) := by decide +kernel
theorem dX12_isUp_44 : decode cX12_isUp 44 = .ok (.ifCond .gt 7, 3) := by decide +kernel
theorem dX12_isUp_47 : decode cX12_isUp 47 = .ok (.iconst 1, 1) := by decide +kernel
theorem dX12_isUp_48 : decode cX12_isUp 48 = .ok (.goto 4, 3) := by decide +kernel
theorem dX12_isUp_51 : decode cX12_isUp 51 = .ok (.iconst 0, 1) := by decide +kernel
theorem dX12_isUp_52 : decode cX12_isUp 52 = .ok (.ireturn, 1) := by decide +kernel
abbrev rm_X12_isUp : Room := { frames := 4, cells := 0, slots := 0, locals := 92 }
noncomputable def fX12_isUp (o0 : Nat) (h : z_T) : Option (Int32 × z_T) :=
  y_gd (z_ok h o0 11) <|
  y_bi (z_R h o0 6) fun o2 =>
  y_gd (z_ok h o2 13) <|
  y_gd (z_ix (36 : Int32) (z_N h o2)) <|
  y_bi (fX12_likes o0 (z_I h o2 (36 : Int32).toNatClampNeg) h) fun ⟨r7, h10⟩ =>
  y_gd (z_ok h10 o0 11) <|
  y_bi (z_R h10 o0 6) fun o12 =>
  y_gd (z_ok h10 o12 13) <|
  y_gd (z_ix (6 : Int32) (z_N h10 o12)) <|
  y_bi (z_R h10 o0 21) fun o15 =>
  y_gd (z_ok h10 o15 14) <|
  y_gd (z_ix (0 : Int32) (z_N h10 o15)) <|
  y_gd (z_ix (5 : Int32) (z_N h10 o12)) <|
  y_gd (z_ix (0 : Int32) (z_N h10 o15)) <|
  y_br (0 < (lg_cmp (((z_I h10 o12 (6 : Int32).toNatClampNeg)).toInt64 * (r7 - (z_L h10 o15 (0 : Int32).toNatClampNeg))) (((z_I h10 o12 (5 : Int32).toNatClampNeg)).toInt64 * (z_L h10 o15 (0 : Int32).toNatClampNeg))))
    (some ((0 : Int32), h10))
    (some ((1 : Int32), h10))
set_option maxHeartbeats 4000000 in
set_option maxRecDepth 100000 in
theorem mm_X12_isUp {G : z_Gt} {S : State → Prop} (hSK : z_SK S) (l : Launch) (ad : Nat → Nat) (o0 : Nat) (h : z_T) {r0 : Int32} {h9 : z_T} (hv : fX12_isUp o0 h = some (r0, h9)) : z_Mi G S l yX12_isUp cX12_isUp 3 (.boolean) rm_X12_isUp 0 0 [.ref (ad o0)] ad h h9 r0 := by
  refine z_ofW hSK (by decide) (Nat.le_of_ble_eq_true rfl) ?_
  intro p e s m args below meth c ls hc hr hnm hB hl
  have hx := hc.1.1
  have hb := hc.1.2.1
  have hown := hc.1.2.2.2.1
  have hts := hc.1.2.2.2.2
  replace hc : z_C G S ad (z_n h) p m c cX12_isUp 3 s args RX12 meth := hc
  replace hown : s.vm.findClass RX12 = some m.cls := hown
  replace hl : lv_has ls 3 [(0, .ref (ad o0))] := hl
  show W p l e rm_X12_isUp s m args below meth c s.heap [] 0 0 (MQ below (z_Qi G ad h9 (z_n h) s.heap.size r0) args s 0 0 (z_A ad (z_n h) s.heap.size)) (F0 m 0 ls [])
  obtain ⟨rs, kt⟩ : ∃ rs : Int32 × z_T, rs = (r0, h9) := ⟨_, rfl⟩
  generalize hn0 : z_n h = n0 at hc hB ⊢
  rw [← kt] at hv
  refine lv_aload_n hx hb dX12_isUp_0 rfl (lv_at hl 0 rfl) ?_
  refine lv_aload_n hx hb dX12_isUp_1 rfl (lv_at hl 0 rfl) ?_
  obtain ⟨g1, hv⟩ := y_gd_e hv
  obtain ⟨o2, eo2, hv⟩ := y_bi_e hv
  refine z_getR hc hB 11 6 g1 eo2 (by decide) (by decide) rfl (z_l1 hc qfX12_33) dX12_isUp_2 ?_
  refine lv_bipush (v := (36 : Int32)) hx hb dX12_isUp_5 (by decide) ?_
  obtain ⟨g3, hv⟩ := y_gd_e hv
  obtain ⟨i4, hv⟩ := y_gd_e hv
  refine z_iald hc hB g3 i4 dX12_isUp_7 ?_
  obtain ⟨⟨r7, h10⟩, c5, hv⟩ := y_bi_e hv
  refine z_thL hc hB (z_runV hc hB 11 (mm_X12_likes hSK l ad o0 (z_I h o2 (36 : Int32).toNatClampNeg) h c5) md_X12_likes qmX12_264 g1 (by decide) rfl rfl rfl ⟨Nat.le_of_ble_eq_true rfl, Nat.le_of_ble_eq_true rfl⟩ rfl hl.1 rfl (Nat.le_of_ble_eq_true rfl) dX12_isUp_8 ⟨Nat.le_of_ble_eq_true rfl, Nat.le_of_ble_eq_true rfl⟩) (fun H locs hB => ?_)
  refine lv_lstore_n (lv' := [(1, .long r7), (0, .ref (ad o0))]) hx hb dX12_isUp_11 rfl hl (by decide) rfl (fun ls hl => ?_)
  refine lv_aload_n hx hb dX12_isUp_12 rfl (lv_at hl 1 rfl) ?_
  obtain ⟨g11, hv⟩ := y_gd_e hv
  obtain ⟨o12, eo12, hv⟩ := y_bi_e hv
  refine z_getR hc hB 11 6 g11 eo12 (by decide) (by decide) rfl (z_l1 hc qfX12_33) dX12_isUp_13 ?_
  refine lv_bipush (v := (6 : Int32)) hx hb dX12_isUp_16 (by decide) ?_
  obtain ⟨g13, hv⟩ := y_gd_e hv
  obtain ⟨i14, hv⟩ := y_gd_e hv
  refine z_iald hc hB g13 i14 dX12_isUp_18 ?_
  refine lv_i2l hx hb dX12_isUp_19 rfl ?_
  refine lv_lload_n hx hb dX12_isUp_20 rfl (lv_at hl 0 rfl) ?_
  refine lv_aload_n hx hb dX12_isUp_21 rfl (lv_at hl 1 rfl) ?_
  obtain ⟨o15, eo15, hv⟩ := y_bi_e hv
  refine z_getR hc hB 11 21 g11 eo15 (by decide) (by decide) rfl (z_l1 hc qfX12_50) dX12_isUp_22 ?_
  refine lv_iconst (v := (0 : Int32)) hx hb dX12_isUp_25 (by decide) ?_
  obtain ⟨g16, hv⟩ := y_gd_e hv
  obtain ⟨i17, hv⟩ := y_gd_e hv
  refine z_lald hc hB g16 i17 dX12_isUp_26 ?_
  refine lv_lsub hx hb dX12_isUp_27 ?_
  refine lv_lmul hx hb dX12_isUp_28 ?_
  refine lv_aload_n hx hb dX12_isUp_29 rfl (lv_at hl 1 rfl) ?_
  refine z_getR hc hB 11 6 g11 eo12 (by decide) (by decide) rfl (z_l1 hc qfX12_33) dX12_isUp_30 ?_
  refine lv_iconst (v := (5 : Int32)) hx hb dX12_isUp_33 (by decide) ?_
  obtain ⟨i18, hv⟩ := y_gd_e hv
  refine z_iald hc hB g13 i18 dX12_isUp_34 ?_
  refine lv_i2l hx hb dX12_isUp_35 rfl ?_
  refine lv_aload_n hx hb dX12_isUp_36 rfl (lv_at hl 1 rfl) ?_
  refine z_getR hc hB 11 21 g11 eo15 (by decide) (by decide) rfl (z_l1 hc qfX12_50) dX12_isUp_37 ?_
  refine lv_iconst (v := (0 : Int32)) hx hb dX12_isUp_40 (by decide) ?_
  obtain ⟨i19, hv⟩ := y_gd_e hv
  refine z_lald hc hB g16 i19 dX12_isUp_41 ?_
  refine lv_lmul hx hb dX12_isUp_42 ?_
  refine W.lcmp hx hb dX12_isUp_43 ?_
  refine lv_if_gt (tgt := 51) hx hb dX12_isUp_44 (by decide) (fun c20 => ?_) (fun c20 => ?_)
  · replace hv := y_br_t hv c20
    refine lv_iconst (v := (0 : Int32)) hx hb dX12_isUp_51 (by decide) ?_
    replace hv := Option.some.inj hv
    subst hv
    obtain ⟨e1, e2⟩ := y_pr kt
    rw [← e1, ← e2]
    exact z_zret hc hB hr rfl dX12_isUp_52
  · replace hv := y_br_f hv c20
    refine lv_iconst (v := (1 : Int32)) hx hb dX12_isUp_47 (by decide) ?_
    refine lv_goto (tgt := 52) hx hb dX12_isUp_48 (by decide) ?_
    replace hv := Option.some.inj hv
    subst hv
    obtain ⟨e1, e2⟩ := y_pr kt
    rw [← e1, ← e2]
    exact z_zret hc hB hr rfl dX12_isUp_52
theorem qmX12_286 : Cond.methodLink RX12 286 yX12_isUp ∈ z_ws := List.mem_filter.mpr ⟨List.mem_append_right _ (List.mem_of_getElem? (i := 1641) (by decide +kernel)), rfl⟩
theorem qc_X12_isUp : Cond.code yX12_isUp cX12_isUp 3 (some .boolean) ∈ z_ws := List.mem_filter.mpr ⟨List.mem_append_right _ (List.mem_of_getElem? (i := 1644) (by decide +kernel)), rfl⟩
theorem qi_X12_isUp : Cond.instanceMethod yX12_isUp ∈ z_ws := List.mem_filter.mpr ⟨List.mem_append_right _ (List.mem_of_getElem? (i := 1643) (by decide +kernel)), rfl⟩
theorem qs_X12_isUp : Cond.selects RX12 yX12_isUp yX12_isUp ∈ z_ws := List.mem_filter.mpr ⟨List.mem_append_left _ (List.mem_of_getElem? (i := 58) (by decide +kernel)), rfl⟩
theorem md_X12_isUp : z_mdV yX12_isUp cX12_isUp 3 (some .boolean) 0 := ⟨⟨qn_RX12, qc_X12_isUp, ⟨by decide +kernel, by decide +kernel, by decide +kernel⟩⟩, qi_X12_isUp, qs_X12_isUp⟩
theorem dX12_up_0 : decode cX12_up 0 = .ok (.aload_n 0, 1) := by decide +kernel
theorem dX12_up_1 : decode cX12_up 1 = .ok (.iconst 0, 1) := by decide +kernel
theorem dX12_up_2 : decode cX12_up 2 = .ok (.putfield 1, 3) := by decide +kernel
theorem dX12_up_5 : decode cX12_up 5 = .ok (.aload_n 0, 1) := by decide +kernel
theorem dX12_up_6 : decode cX12_up 6 = .ok (.invokevirtual 286, 3) := by decide +kernel
theorem dX12_up_9 : decode cX12_up 9 = .ok (.ifCond .eq 7, 3) := by decide +kernel
theorem dX12_up_12 : decode cX12_up 12 = .ok (.iconst 1, 1) := by decide +kernel
theorem dX12_up_13 : decode cX12_up 13 = .ok (.goto 4, 3) := by decide +kernel
theorem dX12_up_16 : decode cX12_up 16 = .ok (.iconst 0, 1) := by decide +kernel
theorem dX12_up_17 : decode cX12_up 17 = .ok (.ireturn, 1) := by decide +kernel
abbrev rm_X12_up : Room := { frames := 5, cells := 0, slots := 0, locals := 114 }
noncomputable def fX12_up (o0 : Nat) (h : z_T) : Option (Int32 × z_T) :=
  y_gd (z_ok h o0 11) <|
  y_nm (z_sI h o0 0 (0 : Int32)) fun h2 =>
  y_bi (fX12_isUp o0 h2) fun ⟨r4, h8⟩ =>
  y_br (r4 = 0)
    (some ((0 : Int32), h8))
    (some ((1 : Int32), h8))
set_option maxHeartbeats 4000000 in
set_option maxRecDepth 100000 in
theorem mm_X12_up {G : z_Gt} {S : State → Prop} (hSK : z_SK S) (l : Launch) (ad : Nat → Nat) (o0 : Nat) (h : z_T) {r0 : Int32} {h9 : z_T} (hv : fX12_up o0 h = some (r0, h9)) : z_Mi G S l yX12_up cX12_up 1 (.int) rm_X12_up 0 0 [.ref (ad o0)] ad h h9 r0 := by
  refine z_ofW hSK (by decide) (Nat.le_of_ble_eq_true rfl) ?_
  intro p e s m args below meth c ls hc hr hnm hB hl
  have hx := hc.1.1
  have hb := hc.1.2.1
  have hown := hc.1.2.2.2.1
  have hts := hc.1.2.2.2.2
  replace hc : z_C G S ad (z_n h) p m c cX12_up 1 s args RX12 meth := hc
  replace hown : s.vm.findClass RX12 = some m.cls := hown
  replace hl : lv_has ls 1 [(0, .ref (ad o0))] := hl
  show W p l e rm_X12_up s m args below meth c s.heap [] 0 0 (MQ below (z_Qi G ad h9 (z_n h) s.heap.size r0) args s 0 0 (z_A ad (z_n h) s.heap.size)) (F0 m 0 ls [])
  obtain ⟨rs, kt⟩ : ∃ rs : Int32 × z_T, rs = (r0, h9) := ⟨_, rfl⟩
  generalize hn0 : z_n h = n0 at hc hB ⊢
  rw [← kt] at hv
  refine lv_aload_n hx hb dX12_up_0 rfl (lv_at hl 0 rfl) ?_
  refine lv_iconst (v := (0 : Int32)) hx hb dX12_up_1 (by decide) ?_
  obtain ⟨g1, hv⟩ := y_gd_e hv
  obtain ⟨h2, eh2, hv⟩ := y_nm_e hv
  refine y_putI hc hB 11 0 eh2 g1 (z_l1 hc qfX12_1) dX12_up_2 (by decide) (by decide) rfl rfl rfl rfl (fun H locs hB => ?_)
  refine lv_aload_n hx hb dX12_up_5 rfl (lv_at hl 0 rfl) ?_
  obtain ⟨⟨r4, h8⟩, c3, hv⟩ := y_bi_e hv
  refine z_thI hc hB (z_runV hc hB 11 (mm_X12_isUp hSK l ad o0 h2 c3) md_X12_isUp qmX12_286 (by rw [eh2]; exact g1) (by decide) rfl rfl rfl ⟨Nat.le_of_ble_eq_true rfl, Nat.le_of_ble_eq_true rfl⟩ rfl hl.1 rfl (Nat.le_of_ble_eq_true rfl) dX12_up_6 ⟨Nat.le_of_ble_eq_true rfl, Nat.le_of_ble_eq_true rfl⟩) (fun H locs hB => ?_)
  refine lv_if_eq (tgt := 16) hx hb dX12_up_9 (by decide) (fun c9 => ?_) (fun c9 => ?_)
  · replace hv := y_br_t hv c9
    refine lv_iconst (v := (0 : Int32)) hx hb dX12_up_16 (by decide) ?_
    replace hv := Option.some.inj hv
    subst hv
    obtain ⟨e1, e2⟩ := y_pr kt
    rw [← e1, ← e2]
    exact z_iret hc hB hr dX12_up_17
  · replace hv := y_br_f hv c9
    refine lv_iconst (v := (1 : Int32)) hx hb dX12_up_12 (by decide) ?_
    refine lv_goto (tgt := 17) hx hb dX12_up_13 (by decide) ?_
    replace hv := Option.some.inj hv
    subst hv
    obtain ⟨e1, e2⟩ := y_pr kt
    rw [← e1, ← e2]
    exact z_iret hc hB hr dX12_up_17
theorem dX12_likely_0 : decode cX12_likely 0 = .ok (.aload_n 0, 1) := by decide +kernel
theorem dX12_likely_1 : decode cX12_likely 1 = .ok (.iconst 0, 1) := by decide +kernel
theorem dX12_likely_2 : decode cX12_likely 2 = .ok (.putfield 1, 3) := by decide +kernel
theorem dX12_likely_5 : decode cX12_likely 5 = .ok (.aload_n 0, 1) := by decide +kernel
theorem dX12_likely_6 : decode cX12_likely 6 = .ok (.aload_n 0, 1) := by decide +kernel
theorem dX12_likely_7 : decode cX12_likely 7 = .ok (.getfield 33, 3) := by decide +kernel
theorem dX12_likely_10 : decode cX12_likely 10 = .ok (.bipush 36, 2) := by decide +kernel
theorem dX12_likely_12 : decode cX12_likely 12 = .ok (.iaload, 1) := by decide +kernel
theorem dX12_likely_13 : decode cX12_likely 13 = .ok (.invokevirtual 264, 3) := by decide +kernel
theorem dX12_likely_16 : decode cX12_likely 16 = .ok (.pop2, 1) := by decide +kernel
theorem dX12_likely_17 : decode cX12_likely 17 = .ok (.iconst 0, 1) := by decide +kernel
theorem dX12_likely_18 : decode cX12_likely 18 = .ok (.istore_n 1, 1) := by decide +kernel
theorem dX12_likely_19 : decode cX12_likely 19 = .ok (.iconst 1, 1) := by decide +kernel
theorem dX12_likely_20 : decode cX12_likely 20 = .ok (.istore_n 2, 1) := by decide +kernel
theorem dX12_likely_21 : decode cX12_likely 21 = .ok (.iload_n 2, 1) := by decide +kernel
theorem dX12_likely_22 : decode cX12_likely 22 = .ok (.aload_n 0, 1) := by decide +kernel
theorem dX12_likely_23 : decode cX12_likely 23 = .ok (.invokevirtual 253, 3) := by decide +kernel
theorem dX12_likely_26 : decode cX12_likely 26 = .ok (.if_icmp .ge 27, 3) := by decide +kernel
theorem dX12_likely_29 : decode cX12_likely 29 = .ok (.aload_n 0, 1) := by decide +kernel
theorem dX12_likely_30 : decode cX12_likely 30 = .ok (.getfield 50, 3) := by decide +kernel
theorem dX12_likely_33 : decode cX12_likely 33 = .ok (.iload_n 2, 1) := by decide +kernel
theorem dX12_likely_34 : decode cX12_likely 34 = .ok (.laload, 1) := by decide +kernel
theorem dX12_likely_35 : decode cX12_likely 35 = .ok (.aload_n 0, 1) := by decide +kernel
theorem dX12_likely_36 : decode cX12_likely 36 = .ok (.getfield 50, 3) := by decide +kernel
theorem dX12_likely_39 : decode cX12_likely 39 = .ok (.iload_n 1, 1) := by decide +kernel
theorem dX12_likely_40 : decode cX12_likely 40 = .ok (.laload, 1) := by decide +kernel
theorem dX12_likely_41 : decode cX12_likely 41 = .ok (.lcmp, 1) := by decide +kernel
theorem dX12_likely_42 : decode cX12_likely 42 = .ok (.ifCond .le 5, 3) := by decide +kernel
theorem dX12_likely_45 : decode cX12_likely 45 = .ok (.iload_n 2, 1) := by decide +kernel
theorem dX12_likely_46 : decode cX12_likely 46 = .ok (.istore_n 1, 1) := by decide +kernel
theorem dX12_likely_47 : decode cX12_likely 47 = .ok (.iinc 2 1, 3) := by decide +kernel
theorem dX12_likely_50 : decode cX12_likely 50 = .ok (.goto (-29), 3) := by decide +kernel
theorem dX12_likely_53 : decode cX12_likely 53 = .ok (.iload_n 1, 1) := by decide +kernel
theorem dX12_likely_54 : decode cX12_likely 54 = .ok (.ifCond .ne 7, 3) := by decide +kernel
theorem dX12_likely_57 : decode cX12_likely 57 = .ok (.iconst (-1), 1) := by decide +kernel
theorem dX12_likely_58 : decode cX12_likely 58 = .ok (.goto 6, 3) := by decide +kernel
theorem dX12_likely_61 : decode cX12_likely 61 = .ok (.iload_n 1, 1) := by decide +kernel
theorem dX12_likely_62 : decode cX12_likely 62 = .ok (.iconst 1, 1) := by decide +kernel
theorem dX12_likely_63 : decode cX12_likely 63 = .ok (.isub, 1) := by decide +kernel
theorem dX12_likely_64 : decode cX12_likely 64 = .ok (.ireturn, 1) := by decide +kernel
abbrev rm_X12_likely : Room := { frames := 4, cells := 0, slots := 0, locals := 92 }
noncomputable def fX12_likely_b47 (o0 : Nat) (x1 : Int32) (x2 : Int32) (h : z_T) : Option ((Int32 × Int32) ⊕ (Int32 × z_T)) :=
  y_nm (x2 + 1) fun v1 =>
  some (.inl (x1, v1))
noncomputable def fX12_likely_b21_i (o0 : Nat) (h : z_T) (x1 : Int32) (x2 : Int32) : Option ((Int32 × Int32) ⊕ (Int32 × z_T)) :=
  y_gd (z_ok h o0 11) <|
  y_bi (fX12_places o0 h) fun r3 =>
  y_br (r3 ≤ x2)
    (y_mp <|
    y_br (x1 = 0)
      (some ((-1 : Int32), h))
      (some ((x1 - (1 : Int32)), h)))
    (y_bi (z_R h o0 21) fun o11 =>
    y_gd (z_ok h o11 14) <|
    y_gd (z_ix x2 (z_N h o11)) <|
    y_gd (z_ix x1 (z_N h o11)) <|
    y_br ((lg_cmp (z_L h o11 x2.toNatClampNeg) (z_L h o11 x1.toNatClampNeg)) ≤ 0)
      (fX12_likely_b47 o0 x1 x2 h)
      (fX12_likely_b47 o0 x2 x2 h))
noncomputable def fX12_likely_b21 (o0 : Nat) (x1 : Int32) (x2 : Int32) (h : z_T) : Option (Int32 × z_T) := y_lp (fun q : Int32 × Int32 => fX12_likely_b21_i o0 h q.1 q.2) (x1, x2)
noncomputable def fX12_likely (o0 : Nat) (h : z_T) : Option (Int32 × z_T) :=
  y_gd (z_ok h o0 11) <|
  y_nm (z_sI h o0 0 (0 : Int32)) fun h17 =>
  y_bi (z_R h17 o0 6) fun o18 =>
  y_gd (z_ok h17 o18 13) <|
  y_gd (z_ix (36 : Int32) (z_N h17 o18)) <|
  y_bi (fX12_likes o0 (z_I h17 o18 (36 : Int32).toNatClampNeg) h17) fun ⟨r23, h26⟩ =>
  fX12_likely_b21 o0 (0 : Int32) (1 : Int32) h26
set_option maxHeartbeats 4000000 in
set_option maxRecDepth 100000 in
theorem mm_X12_likely {G : z_Gt} {S : State → Prop} (hSK : z_SK S) (l : Launch) (ad : Nat → Nat) (o0 : Nat) (h : z_T) {r0 : Int32} {h9 : z_T} (hv : fX12_likely o0 h = some (r0, h9)) : z_Mi G S l yX12_likely cX12_likely 3 (.int) rm_X12_likely 0 0 [.ref (ad o0)] ad h h9 r0 := by
  refine z_ofW hSK (by decide) (Nat.le_of_ble_eq_true rfl) ?_
  intro p e s m args below meth c ls hc hr hnm hB hl
  have hx := hc.1.1
  have hb := hc.1.2.1
  have hown := hc.1.2.2.2.1
  have hts := hc.1.2.2.2.2
  replace hc : z_C G S ad (z_n h) p m c cX12_likely 3 s args RX12 meth := hc
  replace hown : s.vm.findClass RX12 = some m.cls := hown
  replace hl : lv_has ls 3 [(0, .ref (ad o0))] := hl
  show W p l e rm_X12_likely s m args below meth c s.heap [] 0 0 (MQ below (z_Qi G ad h9 (z_n h) s.heap.size r0) args s 0 0 (z_A ad (z_n h) s.heap.size)) (F0 m 0 ls [])
  obtain ⟨rs, kt⟩ : ∃ rs : Int32 × z_T, rs = (r0, h9) := ⟨_, rfl⟩
  generalize hn0 : z_n h = n0 at hc hB ⊢
  have L21 : ∀ (h : z_T) (nn21 : Nat) (x1 : Int32) (x2 : Int32) (H : Heap) (locs : List Loc) (ls : Array Slot), z_B G ad n0 s h H locs → lv_has ls 3 [(0, .ref (ad o0)), (1, .int x1), (2, .int x2)] → ∀ vv21, y_lpN (fun q : Int32 × Int32 => fX12_likely_b21_i o0 h q.1 q.2) nn21 (x1, x2) = some vv21 → vv21 = (r0, h9) → W p l e rm_X12_likely s m args below meth c H locs 0 0 (MQ below (z_Qi G ad h9 n0 s.heap.size r0) args s 0 0 (z_A ad n0 s.heap.size)) (F0 m 21 ls []) := by
    intro h nn21
    induction nn21 with
    | zero => intro x1 x2 H locs ls hB hl vv21 hv kv21; exact absurd hv (fun q => y_lpN_0 q)
    | succ nn21 ih21 =>
      intro x1 x2 H locs ls hB hl vv21 hv kv21
      obtain ⟨w, hq, kw21⟩ := y_lpN_e hv
      clear hv
      have hv : fX12_likely_b21_i o0 h x1 x2 = some w := hq
      clear hq
      have b47 : ∀ (x1 : Int32) (x2 : Int32) (H : Heap) (locs : List Loc) (ls : Array Slot), z_B G ad n0 s h H locs → lv_has ls 3 [(0, .ref (ad o0)), (1, .int x1), (2, .int x2)] → ∀ w, fX12_likely_b47 o0 x1 x2 h = some w → y_lq (fun q : Int32 × Int32 => fX12_likely_b21_i o0 h q.1 q.2) nn21 vv21 w → W p l e rm_X12_likely s m args below meth c H locs 0 0 (MQ below (z_Qi G ad h9 n0 s.heap.size r0) args s 0 0 (z_A ad n0 s.heap.size)) (F0 m 47 ls []) := by
        intro x1 x2 H locs ls hB hl w hv kw21
        obtain ⟨v1, ev1, hv⟩ := y_nm_e hv
        refine lv_iinc (v := v1) (lv' := [(2, .int v1), (0, .ref (ad o0)), (1, .int x1)]) hx hb dX12_likely_47 hl (k := 2) rfl (by rw [ev1]; rfl) (by decide) rfl (fun ls hl => ?_)
        refine lv_goto (tgt := 21) hx hb dX12_likely_50 (by decide) ?_
        replace hv := Option.some.inj hv
        subst hv
        exact ih21 x1 v1 _ _ _ hB (lv_sub hl [1, 2, 0] rfl) _ kw21 kv21
      refine lv_iload_n hx hb dX12_likely_21 rfl (lv_at hl 2 rfl) ?_
      refine lv_aload_n hx hb dX12_likely_22 rfl (lv_at hl 0 rfl) ?_
      obtain ⟨g7, hv⟩ := y_gd_e hv
      obtain ⟨r3, c2, hv⟩ := y_bi_e hv
      refine z_thI hc hB (z_runV hc hB 11 (mm_X12_places hSK l ad o0 h c2) md_X12_places qmX12_253 g7 (by decide) rfl rfl rfl ⟨Nat.le_of_ble_eq_true rfl, Nat.le_of_ble_eq_true rfl⟩ rfl hl.1 rfl (Nat.le_of_ble_eq_true rfl) dX12_likely_23 ⟨Nat.le_of_ble_eq_true rfl, Nat.le_of_ble_eq_true rfl⟩) (fun H locs hB => ?_)
      refine lv_icmp_ge (tgt := 53) hx hb dX12_likely_26 (by decide) (fun c8 => ?_) (fun c8 => ?_)
      · replace hv := y_br_t hv c8
        obtain ⟨t9, hq, ew⟩ := y_mp_e hv
        clear hv; subst ew
        replace kw21 : t9 = _ := kw21
        subst kw21
        have hv := hq
        clear hq
        refine lv_iload_n hx hb dX12_likely_53 rfl (lv_at hl 1 rfl) ?_
        refine lv_if_ne (tgt := 61) hx hb dX12_likely_54 (by decide) (fun c10 => ?_) (fun c10 => ?_)
        · replace hv := y_br_f hv c10
          refine lv_iload_n hx hb dX12_likely_61 rfl (lv_at hl 1 rfl) ?_
          refine lv_iconst (v := (1 : Int32)) hx hb dX12_likely_62 (by decide) ?_
          refine lv_isub hx hb dX12_likely_63 ?_
          replace hv := Option.some.inj hv
          subst hv
          obtain ⟨e1, e2⟩ := y_pr kv21
          rw [← e1, ← e2]
          exact z_iret hc hB hr dX12_likely_64
        · replace hv := y_br_t hv c10
          refine lv_iconst (v := (-1 : Int32)) hx hb dX12_likely_57 (by decide) ?_
          refine lv_goto (tgt := 64) hx hb dX12_likely_58 (by decide) ?_
          replace hv := Option.some.inj hv
          subst hv
          obtain ⟨e1, e2⟩ := y_pr kv21
          rw [← e1, ← e2]
          exact z_iret hc hB hr dX12_likely_64
      · replace hv := y_br_f hv c8
        refine lv_aload_n hx hb dX12_likely_29 rfl (lv_at hl 0 rfl) ?_
        obtain ⟨o11, eo11, hv⟩ := y_bi_e hv
        refine z_getR hc hB 11 21 g7 eo11 (by decide) (by decide) rfl (z_l1 hc qfX12_50) dX12_likely_30 ?_
        refine lv_iload_n hx hb dX12_likely_33 rfl (lv_at hl 2 rfl) ?_
        obtain ⟨g12, hv⟩ := y_gd_e hv
        obtain ⟨i13, hv⟩ := y_gd_e hv
        refine z_lald hc hB g12 i13 dX12_likely_34 ?_
        refine lv_aload_n hx hb dX12_likely_35 rfl (lv_at hl 0 rfl) ?_
        refine z_getR hc hB 11 21 g7 eo11 (by decide) (by decide) rfl (z_l1 hc qfX12_50) dX12_likely_36 ?_
        refine lv_iload_n hx hb dX12_likely_39 rfl (lv_at hl 1 rfl) ?_
        obtain ⟨i14, hv⟩ := y_gd_e hv
        refine z_lald hc hB g12 i14 dX12_likely_40 ?_
        refine W.lcmp hx hb dX12_likely_41 ?_
        refine lv_if_le (tgt := 47) hx hb dX12_likely_42 (by decide) (fun c15 => ?_) (fun c15 => ?_)
        · replace hv := y_br_t hv c15
          exact b47 x1 x2 _ _ _ hB (lv_sub hl [0, 1, 2] rfl) _ hv kw21
        · replace hv := y_br_f hv c15
          refine lv_iload_n hx hb dX12_likely_45 rfl (lv_at hl 2 rfl) ?_
          refine lv_istore_n (lv' := [(1, .int x2), (0, .ref (ad o0)), (2, .int x2)]) hx hb dX12_likely_46 rfl hl (by decide) rfl (fun ls hl => ?_)
          exact b47 x2 x2 _ _ _ hB (lv_sub hl [1, 0, 2] rfl) _ hv kw21
  rw [← kt] at hv
  refine lv_aload_n hx hb dX12_likely_0 rfl (lv_at hl 0 rfl) ?_
  refine lv_iconst (v := (0 : Int32)) hx hb dX12_likely_1 (by decide) ?_
  obtain ⟨g16, hv⟩ := y_gd_e hv
  obtain ⟨h17, eh17, hv⟩ := y_nm_e hv
  refine y_putI hc hB 11 0 eh17 g16 (z_l1 hc qfX12_1) dX12_likely_2 (by decide) (by decide) rfl rfl rfl rfl (fun H locs hB => ?_)
  refine lv_aload_n hx hb dX12_likely_5 rfl (lv_at hl 0 rfl) ?_
  refine lv_aload_n hx hb dX12_likely_6 rfl (lv_at hl 0 rfl) ?_
  obtain ⟨o18, eo18, hv⟩ := y_bi_e hv
  refine z_getR hc hB 11 6 (by rw [eh17]; exact g16) eo18 (by decide) (by decide) rfl (z_l1 hc qfX12_33) dX12_likely_7 ?_
  refine lv_bipush (v := (36 : Int32)) hx hb dX12_likely_10 (by decide) ?_
  obtain ⟨g19, hv⟩ := y_gd_e hv
  obtain ⟨i20, hv⟩ := y_gd_e hv
  refine z_iald hc hB g19 i20 dX12_likely_12 ?_
  obtain ⟨⟨r23, h26⟩, c21, hv⟩ := y_bi_e hv
  refine z_thL hc hB (z_runV hc hB 11 (mm_X12_likes hSK l ad o0 (z_I h17 o18 (36 : Int32).toNatClampNeg) h17 c21) md_X12_likes qmX12_264 (by rw [eh17]; exact g16) (by decide) rfl rfl rfl ⟨Nat.le_of_ble_eq_true rfl, Nat.le_of_ble_eq_true rfl⟩ rfl hl.1 rfl (Nat.le_of_ble_eq_true rfl) dX12_likely_13 ⟨Nat.le_of_ble_eq_true rfl, Nat.le_of_ble_eq_true rfl⟩) (fun H locs hB => ?_)
  refine lv_pop2_2 hx hb dX12_likely_16 rfl ?_
  refine lv_iconst (v := (0 : Int32)) hx hb dX12_likely_17 (by decide) ?_
  refine lv_istore_n (lv' := [(1, .int (0 : Int32)), (0, .ref (ad o0))]) hx hb dX12_likely_18 rfl hl (by decide) rfl (fun ls hl => ?_)
  refine lv_iconst (v := (1 : Int32)) hx hb dX12_likely_19 (by decide) ?_
  refine lv_istore_n (lv' := [(2, .int (1 : Int32)), (1, .int (0 : Int32)), (0, .ref (ad o0))]) hx hb dX12_likely_20 rfl hl (by decide) rfl (fun ls hl => ?_)
  obtain ⟨n, hv⟩ := y_lp_e hv
  exact L21 h26 n (0 : Int32) (1 : Int32) _ _ _ hB (lv_sub hl [2, 1, 0] rfl) _ hv kt
theorem dX12_fits_0 : decode cX12_fits 0 = .ok (.aload_n 0, 1) := by decide +kernel
theorem dX12_fits_1 : decode cX12_fits 1 = .ok (.iconst 0, 1) := by decide +kernel
theorem dX12_fits_2 : decode cX12_fits 2 = .ok (.putfield 1, 3) := by decide +kernel
theorem dX12_fits_5 : decode cX12_fits 5 = .ok (.aload_n 0, 1) := by decide +kernel
theorem dX12_fits_6 : decode cX12_fits 6 = .ok (.aload_n 0, 1) := by decide +kernel
theorem dX12_fits_7 : decode cX12_fits 7 = .ok (.getfield 33, 3) := by decide +kernel
theorem dX12_fits_10 : decode cX12_fits 10 = .ok (.bipush 36, 2) := by decide +kernel
theorem dX12_fits_12 : decode cX12_fits 12 = .ok (.iaload, 1) := by decide +kernel
theorem dX12_fits_13 : decode cX12_fits 13 = .ok (.invokevirtual 264, 3) := by decide +kernel
theorem dX12_fits_16 : decode cX12_fits 16 = .ok (.pop2, 1) := by decide +kernel
theorem dX12_fits_17 : decode cX12_fits 17 = .ok (.iconst 0, 1) := by decide +kernel
theorem dX12_fits_18 : decode cX12_fits 18 = .ok (.istore_n 1, 1) := by decide +kernel
theorem dX12_fits_19 : decode cX12_fits 19 = .ok (.iconst 0, 1) := by decide +kernel
theorem dX12_fits_20 : decode cX12_fits 20 = .ok (.istore_n 2, 1) := by decide +kernel
theorem dX12_fits_21 : decode cX12_fits 21 = .ok (.iload_n 2, 1) := by decide +kernel
theorem dX12_fits_22 : decode cX12_fits 22 = .ok (.aload_n 0, 1) := by decide +kernel
theorem dX12_fits_23 : decode cX12_fits 23 = .ok (.invokevirtual 253, 3) := by decide +kernel
theorem dX12_fits_26 : decode cX12_fits 26 = .ok (.if_icmp .ge 30, 3) := by decide +kernel
theorem dX12_fits_29 : decode cX12_fits 29 = .ok (.iload_n 1, 1) := by decide +kernel
theorem dX12_fits_30 : decode cX12_fits 30 = .ok (.aload_n 0, 1) := by decide +kernel
theorem dX12_fits_31 : decode cX12_fits 31 = .ok (.getfield 50, 3) := by decide +kernel
theorem dX12_fits_34 : decode cX12_fits 34 = .ok (.iload_n 2, 1) := by decide +kernel
theorem dX12_fits_35 : decode cX12_fits 35 = .ok (.laload, 1) := by decide +kernel
theorem dX12_fits_36 : decode cX12_fits 36 = .ok (.lconst 0, 1) := by decide +kernel
theorem dX12_fits_37 : decode cX12_fits 37 = .ok (.lcmp, 1) := by decide +kernel
theorem dX12_fits_38 : decode cX12_fits 38 = .ok (.ifCond .le 9, 3) := by decide +kernel
theorem dX12_fits_41 : decode cX12_fits 41 = .ok (.iconst 1, 1) := by decide +kernel
theorem dX12_fits_42 : decode cX12_fits 42 = .ok (.iload_n 2, 1) := by decide +kernel
theorem dX12_fits_43 : decode cX12_fits 43 = .ok (.ishl, 1) := by decide +kernel
theorem dX12_fits_44 : decode cX12_fits 44 = .ok (.goto 4, 3) := by decide +kernel
theorem dX12_fits_47 : decode cX12_fits 47 = .ok (.iconst 0, 1) := by decide +kernel
theorem dX12_fits_48 : decode cX12_fits 48 = .ok (.ior, 1) := by decide +kernel
theorem dX12_fits_49 : decode cX12_fits 49 = .ok (.istore_n 1, 1) := by decide +kernel
theorem dX12_fits_50 : decode cX12_fits 50 = .ok (.iinc 2 1, 3) := by decide +kernel
theorem dX12_fits_53 : decode cX12_fits 53 = .ok (.goto (-32), 3) := by decide +kernel
theorem dX12_fits_56 : decode cX12_fits 56 = .ok (.iload_n 1, 1) := by decide +kernel
theorem dX12_fits_57 : decode cX12_fits 57 = .ok (.ireturn, 1) := by decide +kernel
abbrev rm_X12_fits : Room := { frames := 4, cells := 0, slots := 0, locals := 92 }
noncomputable def fX12_fits_b48 (o0 : Nat) (x2 : Int32) (s0 : Int32) (s1 : Int32) (h : z_T) : Option ((Int32 × Int32) ⊕ (Int32 × z_T)) :=
  y_nm ((s0 ||| s1)) fun v1 =>
  y_nm (x2 + 1) fun v2 =>
  some (.inl (v1, v2))
noncomputable def fX12_fits_b21_i (o0 : Nat) (h : z_T) (x1 : Int32) (x2 : Int32) : Option ((Int32 × Int32) ⊕ (Int32 × z_T)) :=
  y_gd (z_ok h o0 11) <|
  y_bi (fX12_places o0 h) fun r4 =>
  y_br (r4 ≤ x2)
    (y_mp <|
    some (x1, h))
    (y_bi (z_R h o0 21) fun o11 =>
    y_gd (z_ok h o11 14) <|
    y_gd (z_ix x2 (z_N h o11)) <|
    y_br ((lg_cmp (z_L h o11 x2.toNatClampNeg) (0 : Int64)) ≤ 0)
      (fX12_fits_b48 o0 x2 x1 (0 : Int32) h)
      (fX12_fits_b48 o0 x2 x1 ((1 : Int32) <<< (x2 &&& 31)) h))
noncomputable def fX12_fits_b21 (o0 : Nat) (x1 : Int32) (x2 : Int32) (h : z_T) : Option (Int32 × z_T) := y_lp (fun q : Int32 × Int32 => fX12_fits_b21_i o0 h q.1 q.2) (x1, x2)
noncomputable def fX12_fits (o0 : Nat) (h : z_T) : Option (Int32 × z_T) :=
  y_gd (z_ok h o0 11) <|
  y_nm (z_sI h o0 0 (0 : Int32)) fun h16 =>
  y_bi (z_R h16 o0 6) fun o17 =>
  y_gd (z_ok h16 o17 13) <|
  y_gd (z_ix (36 : Int32) (z_N h16 o17)) <|
  y_bi (fX12_likes o0 (z_I h16 o17 (36 : Int32).toNatClampNeg) h16) fun ⟨r22, h25⟩ =>
  fX12_fits_b21 o0 (0 : Int32) (0 : Int32) h25
set_option maxHeartbeats 4000000 in
set_option maxRecDepth 100000 in
theorem mm_X12_fits {G : z_Gt} {S : State → Prop} (hSK : z_SK S) (l : Launch) (ad : Nat → Nat) (o0 : Nat) (h : z_T) {r0 : Int32} {h9 : z_T} (hv : fX12_fits o0 h = some (r0, h9)) : z_Mi G S l yX12_fits cX12_fits 3 (.int) rm_X12_fits 0 0 [.ref (ad o0)] ad h h9 r0 := by
  refine z_ofW hSK (by decide) (Nat.le_of_ble_eq_true rfl) ?_
  intro p e s m args below meth c ls hc hr hnm hB hl
  have hx := hc.1.1
  have hb := hc.1.2.1
  have hown := hc.1.2.2.2.1
  have hts := hc.1.2.2.2.2
  replace hc : z_C G S ad (z_n h) p m c cX12_fits 3 s args RX12 meth := hc
  replace hown : s.vm.findClass RX12 = some m.cls := hown
  replace hl : lv_has ls 3 [(0, .ref (ad o0))] := hl
  show W p l e rm_X12_fits s m args below meth c s.heap [] 0 0 (MQ below (z_Qi G ad h9 (z_n h) s.heap.size r0) args s 0 0 (z_A ad (z_n h) s.heap.size)) (F0 m 0 ls [])
  obtain ⟨rs, kt⟩ : ∃ rs : Int32 × z_T, rs = (r0, h9) := ⟨_, rfl⟩
  generalize hn0 : z_n h = n0 at hc hB ⊢
  have L21 : ∀ (h : z_T) (nn21 : Nat) (x1 : Int32) (x2 : Int32) (H : Heap) (locs : List Loc) (ls : Array Slot), z_B G ad n0 s h H locs → lv_has ls 3 [(0, .ref (ad o0)), (1, .int x1), (2, .int x2)] → ∀ vv21, y_lpN (fun q : Int32 × Int32 => fX12_fits_b21_i o0 h q.1 q.2) nn21 (x1, x2) = some vv21 → vv21 = (r0, h9) → W p l e rm_X12_fits s m args below meth c H locs 0 0 (MQ below (z_Qi G ad h9 n0 s.heap.size r0) args s 0 0 (z_A ad n0 s.heap.size)) (F0 m 21 ls []) := by
    intro h nn21
    induction nn21 with
    | zero => intro x1 x2 H locs ls hB hl vv21 hv kv21; exact absurd hv (fun q => y_lpN_0 q)
    | succ nn21 ih21 =>
      intro x1 x2 H locs ls hB hl vv21 hv kv21
      obtain ⟨w, hq, kw21⟩ := y_lpN_e hv
      clear hv
      have hv : fX12_fits_b21_i o0 h x1 x2 = some w := hq
      clear hq
      have b48 : ∀ (x2 : Int32) (s0 : Int32) (s1 : Int32) (H : Heap) (locs : List Loc) (ls : Array Slot), z_B G ad n0 s h H locs → lv_has ls 3 [(0, .ref (ad o0)), (2, .int x2)] → ∀ w, fX12_fits_b48 o0 x2 s0 s1 h = some w → y_lq (fun q : Int32 × Int32 => fX12_fits_b21_i o0 h q.1 q.2) nn21 vv21 w → W p l e rm_X12_fits s m args below meth c H locs 0 0 (MQ below (z_Qi G ad h9 n0 s.heap.size r0) args s 0 0 (z_A ad n0 s.heap.size)) (F0 m 48 ls [.int s1, .int s0]) := by
        intro x2 s0 s1 H locs ls hB hl w hv kw21
        refine lv_ior hx hb dX12_fits_48 ?_
        obtain ⟨v1, ev1, hv⟩ := y_nm_e hv
        rw [← ev1]
        refine lv_istore_n (lv' := [(1, .int v1), (0, .ref (ad o0)), (2, .int x2)]) hx hb dX12_fits_49 rfl hl (by decide) rfl (fun ls hl => ?_)
        obtain ⟨v2, ev2, hv⟩ := y_nm_e hv
        refine lv_iinc (v := v2) (lv' := [(2, .int v2), (1, .int v1), (0, .ref (ad o0))]) hx hb dX12_fits_50 hl (k := 2) rfl (by rw [ev2]; rfl) (by decide) rfl (fun ls hl => ?_)
        refine lv_goto (tgt := 21) hx hb dX12_fits_53 (by decide) ?_
        replace hv := Option.some.inj hv
        subst hv
        exact ih21 v1 v2 _ _ _ hB (lv_sub hl [2, 1, 0] rfl) _ kw21 kv21
      refine lv_iload_n hx hb dX12_fits_21 rfl (lv_at hl 2 rfl) ?_
      refine lv_aload_n hx hb dX12_fits_22 rfl (lv_at hl 0 rfl) ?_
      obtain ⟨g8, hv⟩ := y_gd_e hv
      obtain ⟨r4, c3, hv⟩ := y_bi_e hv
      refine z_thI hc hB (z_runV hc hB 11 (mm_X12_places hSK l ad o0 h c3) md_X12_places qmX12_253 g8 (by decide) rfl rfl rfl ⟨Nat.le_of_ble_eq_true rfl, Nat.le_of_ble_eq_true rfl⟩ rfl hl.1 rfl (Nat.le_of_ble_eq_true rfl) dX12_fits_23 ⟨Nat.le_of_ble_eq_true rfl, Nat.le_of_ble_eq_true rfl⟩) (fun H locs hB => ?_)
      refine lv_icmp_ge (tgt := 56) hx hb dX12_fits_26 (by decide) (fun c9 => ?_) (fun c9 => ?_)
      · replace hv := y_br_t hv c9
        obtain ⟨t10, hq, ew⟩ := y_mp_e hv
        clear hv; subst ew
        replace kw21 : t10 = _ := kw21
        subst kw21
        have hv := hq
        clear hq
        refine lv_iload_n hx hb dX12_fits_56 rfl (lv_at hl 1 rfl) ?_
        replace hv := Option.some.inj hv
        subst hv
        obtain ⟨e1, e2⟩ := y_pr kv21
        rw [← e1, ← e2]
        exact z_iret hc hB hr dX12_fits_57
      · replace hv := y_br_f hv c9
        refine lv_iload_n hx hb dX12_fits_29 rfl (lv_at hl 1 rfl) ?_
        refine lv_aload_n hx hb dX12_fits_30 rfl (lv_at hl 0 rfl) ?_
        obtain ⟨o11, eo11, hv⟩ := y_bi_e hv
        refine z_getR hc hB 11 21 g8 eo11 (by decide) (by decide) rfl (z_l1 hc qfX12_50) dX12_fits_31 ?_
        refine lv_iload_n hx hb dX12_fits_34 rfl (lv_at hl 2 rfl) ?_
        obtain ⟨g12, hv⟩ := y_gd_e hv
        obtain ⟨i13, hv⟩ := y_gd_e hv
        refine z_lald hc hB g12 i13 dX12_fits_35 ?_
        refine lv_lconst (v := (0 : Int64)) hx hb dX12_fits_36 (by decide) ?_
        refine W.lcmp hx hb dX12_fits_37 ?_
        refine lv_if_le (tgt := 47) hx hb dX12_fits_38 (by decide) (fun c14 => ?_) (fun c14 => ?_)
        · replace hv := y_br_t hv c14
          refine lv_iconst (v := (0 : Int32)) hx hb dX12_fits_47 (by decide) ?_
          exact b48 x2 x1 (0 : Int32) _ _ _ hB (lv_sub hl [0, 2] rfl) _ hv kw21
        · replace hv := y_br_f hv c14
          refine lv_iconst (v := (1 : Int32)) hx hb dX12_fits_41 (by decide) ?_
          refine lv_iload_n hx hb dX12_fits_42 rfl (lv_at hl 2 rfl) ?_
          refine lv_ishl hx hb dX12_fits_43 ?_
          refine lv_goto (tgt := 48) hx hb dX12_fits_44 (by decide) ?_
          exact b48 x2 x1 ((1 : Int32) <<< (x2 &&& 31)) _ _ _ hB (lv_sub hl [0, 2] rfl) _ hv kw21
  rw [← kt] at hv
  refine lv_aload_n hx hb dX12_fits_0 rfl (lv_at hl 0 rfl) ?_
  refine lv_iconst (v := (0 : Int32)) hx hb dX12_fits_1 (by decide) ?_
  obtain ⟨g15, hv⟩ := y_gd_e hv
  obtain ⟨h16, eh16, hv⟩ := y_nm_e hv
  refine y_putI hc hB 11 0 eh16 g15 (z_l1 hc qfX12_1) dX12_fits_2 (by decide) (by decide) rfl rfl rfl rfl (fun H locs hB => ?_)
  refine lv_aload_n hx hb dX12_fits_5 rfl (lv_at hl 0 rfl) ?_
  refine lv_aload_n hx hb dX12_fits_6 rfl (lv_at hl 0 rfl) ?_
  obtain ⟨o17, eo17, hv⟩ := y_bi_e hv
  refine z_getR hc hB 11 6 (by rw [eh16]; exact g15) eo17 (by decide) (by decide) rfl (z_l1 hc qfX12_33) dX12_fits_7 ?_
  refine lv_bipush (v := (36 : Int32)) hx hb dX12_fits_10 (by decide) ?_
  obtain ⟨g18, hv⟩ := y_gd_e hv
  obtain ⟨i19, hv⟩ := y_gd_e hv
  refine z_iald hc hB g18 i19 dX12_fits_12 ?_
  obtain ⟨⟨r22, h25⟩, c20, hv⟩ := y_bi_e hv
  refine z_thL hc hB (z_runV hc hB 11 (mm_X12_likes hSK l ad o0 (z_I h16 o17 (36 : Int32).toNatClampNeg) h16 c20) md_X12_likes qmX12_264 (by rw [eh16]; exact g15) (by decide) rfl rfl rfl ⟨Nat.le_of_ble_eq_true rfl, Nat.le_of_ble_eq_true rfl⟩ rfl hl.1 rfl (Nat.le_of_ble_eq_true rfl) dX12_fits_13 ⟨Nat.le_of_ble_eq_true rfl, Nat.le_of_ble_eq_true rfl⟩) (fun H locs hB => ?_)
  refine lv_pop2_2 hx hb dX12_fits_16 rfl ?_
  refine lv_iconst (v := (0 : Int32)) hx hb dX12_fits_17 (by decide) ?_
  refine lv_istore_n (lv' := [(1, .int (0 : Int32)), (0, .ref (ad o0))]) hx hb dX12_fits_18 rfl hl (by decide) rfl (fun ls hl => ?_)
  refine lv_iconst (v := (0 : Int32)) hx hb dX12_fits_19 (by decide) ?_
  refine lv_istore_n (lv' := [(2, .int (0 : Int32)), (1, .int (0 : Int32)), (0, .ref (ad o0))]) hx hb dX12_fits_20 rfl hl (by decide) rfl (fun ls hl => ?_)
  obtain ⟨n, hv⟩ := y_lp_e hv
  exact L21 h25 n (0 : Int32) (0 : Int32) _ _ _ hB (lv_sub hl [2, 1, 0] rfl) _ hv kt
theorem dX12_goods_0 : decode cX12_goods 0 = .ok (.iconst 0, 1) := by decide +kernel
theorem dX12_goods_1 : decode cX12_goods 1 = .ok (.istore_n 1, 1) := by decide +kernel
theorem dX12_goods_2 : decode cX12_goods 2 = .ok (.iconst 0, 1) := by decide +kernel
theorem dX12_goods_3 : decode cX12_goods 3 = .ok (.istore_n 2, 1) := by decide +kernel
theorem dX12_goods_4 : decode cX12_goods 4 = .ok (.iload_n 2, 1) := by decide +kernel
theorem dX12_goods_5 : decode cX12_goods 5 = .ok (.aload_n 0, 1) := by decide +kernel
theorem dX12_goods_6 : decode cX12_goods 6 = .ok (.getfield 33, 3) := by decide +kernel
theorem dX12_goods_9 : decode cX12_goods 9 = .ok (.iconst 0, 1) := by decide +kernel
theorem dX12_goods_10 : decode cX12_goods 10 = .ok (.iaload, 1) := by decide +kernel
theorem dX12_goods_11 : decode cX12_goods 11 = .ok (.if_icmp .ge 45, 3) := by decide +kernel
theorem dX12_goods_14 : decode cX12_goods 14 = .ok (.iload_n 1, 1) := by decide +kernel
theorem dX12_goods_15 : decode cX12_goods 15 = .ok (.aload_n 0, 1) := by decide +kernel
theorem dX12_goods_16 : decode cX12_goods 16 = .ok (.getfield 33, 3) := by decide +kernel
theorem dX12_goods_19 : decode cX12_goods 19 = .ok (.bipush 8, 2) := by decide +kernel
theorem dX12_goods_21 : decode cX12_goods 21 = .ok (.iload_n 2, 1) := by decide +kernel
theorem dX12_goods_22 : decode cX12_goods 22 = .ok (.iadd, 1) := by decide +kernel
theorem dX12_goods_23 : decode cX12_goods 23 = .ok (.iaload, 1) := by decide +kernel
theorem dX12_goods_24 : decode cX12_goods 24 = .ok (.bipush 9, 2) := by decide +kernel
theorem dX12_goods_26 : decode cX12_goods 26 = .ok (.if_icmp .ne 21, 3) := by decide +kernel
theorem dX12_goods_29 : decode cX12_goods 29 = .ok (.aload_n 0, 1) := by decide +kernel
theorem dX12_goods_30 : decode cX12_goods 30 = .ok (.getfield 33, 3) := by decide +kernel
theorem dX12_goods_33 : decode cX12_goods 33 = .ok (.bipush 16, 2) := by decide +kernel
theorem dX12_goods_35 : decode cX12_goods 35 = .ok (.iload_n 2, 1) := by decide +kernel
theorem dX12_goods_36 : decode cX12_goods 36 = .ok (.iadd, 1) := by decide +kernel
theorem dX12_goods_37 : decode cX12_goods 37 = .ok (.iaload, 1) := by decide +kernel
theorem dX12_goods_38 : decode cX12_goods 38 = .ok (.ifCond .ne 9, 3) := by decide +kernel
theorem dX12_goods_41 : decode cX12_goods 41 = .ok (.iconst 1, 1) := by decide +kernel
theorem dX12_goods_42 : decode cX12_goods 42 = .ok (.iload_n 2, 1) := by decide +kernel
theorem dX12_goods_43 : decode cX12_goods 43 = .ok (.ishl, 1) := by decide +kernel
theorem dX12_goods_44 : decode cX12_goods 44 = .ok (.goto 4, 3) := by decide +kernel
theorem dX12_goods_47 : decode cX12_goods 47 = .ok (.iconst 0, 1) := by decide +kernel
theorem dX12_goods_48 : decode cX12_goods 48 = .ok (.ior, 1) := by decide +kernel
theorem dX12_goods_49 : decode cX12_goods 49 = .ok (.istore_n 1, 1) := by decide +kernel
theorem dX12_goods_50 : decode cX12_goods 50 = .ok (.iinc 2 1, 3) := by decide +kernel
theorem dX12_goods_53 : decode cX12_goods 53 = .ok (.goto (-49), 3) := by decide +kernel
theorem dX12_goods_56 : decode cX12_goods 56 = .ok (.iload_n 1, 1) := by decide +kernel
theorem dX12_goods_57 : decode cX12_goods 57 = .ok (.ireturn, 1) := by decide +kernel
abbrev rm_X12_goods : Room := { frames := 0, cells := 0, slots := 0, locals := 0 }
noncomputable def fX12_goods_b48 (o0 : Nat) (x2 : Int32) (s0 : Int32) (s1 : Int32) (h : z_T) : Option ((Int32 × Int32) ⊕ (Int32)) :=
  y_nm ((s0 ||| s1)) fun v1 =>
  y_nm (x2 + 1) fun v2 =>
  some (.inl (v1, v2))
noncomputable def fX12_goods_b47 (o0 : Nat) (x2 : Int32) (s0 : Int32) (h : z_T) : Option ((Int32 × Int32) ⊕ (Int32)) :=
  fX12_goods_b48 o0 x2 s0 (0 : Int32) h
noncomputable def fX12_goods_b4_i (o0 : Nat) (h : z_T) (x1 : Int32) (x2 : Int32) : Option ((Int32 × Int32) ⊕ (Int32)) :=
  y_gd (z_ok h o0 11) <|
  y_bi (z_R h o0 6) fun o4 =>
  y_gd (z_ok h o4 13) <|
  y_gd (z_ix (0 : Int32) (z_N h o4)) <|
  y_br ((z_I h o4 (0 : Int32).toNatClampNeg) ≤ x2)
    (y_mp <|
    some x1)
    (y_gd (z_ix ((8 : Int32) + x2) (z_N h o4)) <|
    y_br ((z_I h o4 ((8 : Int32) + x2).toNatClampNeg) = (9 : Int32))
      (y_gd (z_ix ((16 : Int32) + x2) (z_N h o4)) <|
      y_br ((z_I h o4 ((16 : Int32) + x2).toNatClampNeg) = 0)
        (fX12_goods_b48 o0 x2 x1 ((1 : Int32) <<< (x2 &&& 31)) h)
        (fX12_goods_b47 o0 x2 x1 h))
      (fX12_goods_b47 o0 x2 x1 h))
noncomputable def fX12_goods_b4 (o0 : Nat) (x1 : Int32) (x2 : Int32) (h : z_T) : Option (Int32) := y_lp (fun q : Int32 × Int32 => fX12_goods_b4_i o0 h q.1 q.2) (x1, x2)
noncomputable def fX12_goods (o0 : Nat) (h : z_T) : Option (Int32) :=
  fX12_goods_b4 o0 (0 : Int32) (0 : Int32) h
set_option maxHeartbeats 4000000 in
set_option maxRecDepth 100000 in
theorem mm_X12_goods {G : z_Gt} {S : State → Prop} (hSK : z_SK S) (l : Launch) (ad : Nat → Nat) (o0 : Nat) (h : z_T) {r0 : Int32} (hv : fX12_goods o0 h = some r0) : z_Mi G S l yX12_goods cX12_goods 3 (.int) rm_X12_goods 0 0 [.ref (ad o0)] ad h h r0 := by
  refine z_ofW hSK (by decide) (Nat.le_of_ble_eq_true rfl) ?_
  intro p e s m args below meth c ls hc hr hnm hB hl
  have hx := hc.1.1
  have hb := hc.1.2.1
  have hown := hc.1.2.2.2.1
  have hts := hc.1.2.2.2.2
  replace hc : z_C G S ad (z_n h) p m c cX12_goods 3 s args RX12 meth := hc
  replace hown : s.vm.findClass RX12 = some m.cls := hown
  replace hl : lv_has ls 3 [(0, .ref (ad o0))] := hl
  show W p l e rm_X12_goods s m args below meth c s.heap [] 0 0 (MQ below (z_Qi G ad h (z_n h) s.heap.size r0) args s 0 0 (z_A ad (z_n h) s.heap.size)) (F0 m 0 ls [])
  obtain ⟨rs, kt⟩ : ∃ rs : Int32, rs = r0 := ⟨_, rfl⟩
  generalize hn0 : z_n h = n0 at hc hB ⊢
  have L4 : ∀ (nn4 : Nat) (x1 : Int32) (x2 : Int32) (H : Heap) (locs : List Loc) (ls : Array Slot), z_B G ad n0 s h H locs → lv_has ls 3 [(0, .ref (ad o0)), (1, .int x1), (2, .int x2)] → ∀ vv4, y_lpN (fun q : Int32 × Int32 => fX12_goods_b4_i o0 h q.1 q.2) nn4 (x1, x2) = some vv4 → vv4 = r0 → W p l e rm_X12_goods s m args below meth c H locs 0 0 (MQ below (z_Qi G ad h n0 s.heap.size r0) args s 0 0 (z_A ad n0 s.heap.size)) (F0 m 4 ls []) := by
    intro nn4
    induction nn4 with
    | zero => intro x1 x2 H locs ls hB hl vv4 hv kv4; exact absurd hv (fun q => y_lpN_0 q)
    | succ nn4 ih4 =>
      intro x1 x2 H locs ls hB hl vv4 hv kv4
      obtain ⟨w, hq, kw4⟩ := y_lpN_e hv
      clear hv
      have hv : fX12_goods_b4_i o0 h x1 x2 = some w := hq
      clear hq
      have b48 : ∀ (x2 : Int32) (s0 : Int32) (s1 : Int32) (H : Heap) (locs : List Loc) (ls : Array Slot), z_B G ad n0 s h H locs → lv_has ls 3 [(0, .ref (ad o0)), (2, .int x2)] → ∀ w, fX12_goods_b48 o0 x2 s0 s1 h = some w → y_lq (fun q : Int32 × Int32 => fX12_goods_b4_i o0 h q.1 q.2) nn4 vv4 w → W p l e rm_X12_goods s m args below meth c H locs 0 0 (MQ below (z_Qi G ad h n0 s.heap.size r0) args s 0 0 (z_A ad n0 s.heap.size)) (F0 m 48 ls [.int s1, .int s0]) := by
        intro x2 s0 s1 H locs ls hB hl w hv kw4
        refine lv_ior hx hb dX12_goods_48 ?_
        obtain ⟨v1, ev1, hv⟩ := y_nm_e hv
        rw [← ev1]
        refine lv_istore_n (lv' := [(1, .int v1), (0, .ref (ad o0)), (2, .int x2)]) hx hb dX12_goods_49 rfl hl (by decide) rfl (fun ls hl => ?_)
        obtain ⟨v2, ev2, hv⟩ := y_nm_e hv
        refine lv_iinc (v := v2) (lv' := [(2, .int v2), (1, .int v1), (0, .ref (ad o0))]) hx hb dX12_goods_50 hl (k := 2) rfl (by rw [ev2]; rfl) (by decide) rfl (fun ls hl => ?_)
        refine lv_goto (tgt := 4) hx hb dX12_goods_53 (by decide) ?_
        replace hv := Option.some.inj hv
        subst hv
        exact ih4 v1 v2 _ _ _ hB (lv_sub hl [2, 1, 0] rfl) _ kw4 kv4
      have b47 : ∀ (x2 : Int32) (s0 : Int32) (H : Heap) (locs : List Loc) (ls : Array Slot), z_B G ad n0 s h H locs → lv_has ls 3 [(0, .ref (ad o0)), (2, .int x2)] → ∀ w, fX12_goods_b47 o0 x2 s0 h = some w → y_lq (fun q : Int32 × Int32 => fX12_goods_b4_i o0 h q.1 q.2) nn4 vv4 w → W p l e rm_X12_goods s m args below meth c H locs 0 0 (MQ below (z_Qi G ad h n0 s.heap.size r0) args s 0 0 (z_A ad n0 s.heap.size)) (F0 m 47 ls [.int s0]) := by
        intro x2 s0 H locs ls hB hl w hv kw4
        refine lv_iconst (v := (0 : Int32)) hx hb dX12_goods_47 (by decide) ?_
        exact b48 x2 s0 (0 : Int32) _ _ _ hB (lv_sub hl [0, 1] rfl) _ hv kw4
      refine lv_iload_n hx hb dX12_goods_4 rfl (lv_at hl 2 rfl) ?_
      refine lv_aload_n hx hb dX12_goods_5 rfl (lv_at hl 0 rfl) ?_
      obtain ⟨g3, hv⟩ := y_gd_e hv
      obtain ⟨o4, eo4, hv⟩ := y_bi_e hv
      refine z_getR hc hB 11 6 g3 eo4 (by decide) (by decide) rfl (z_l1 hc qfX12_33) dX12_goods_6 ?_
      refine lv_iconst (v := (0 : Int32)) hx hb dX12_goods_9 (by decide) ?_
      obtain ⟨g5, hv⟩ := y_gd_e hv
      obtain ⟨i6, hv⟩ := y_gd_e hv
      refine z_iald hc hB g5 i6 dX12_goods_10 ?_
      refine lv_icmp_ge (tgt := 56) hx hb dX12_goods_11 (by decide) (fun c7 => ?_) (fun c7 => ?_)
      · replace hv := y_br_t hv c7
        obtain ⟨t8, hq, ew⟩ := y_mp_e hv
        clear hv; subst ew
        replace kw4 : t8 = _ := kw4
        subst kw4
        have hv := hq
        clear hq
        refine lv_iload_n hx hb dX12_goods_56 rfl (lv_at hl 1 rfl) ?_
        replace hv := Option.some.inj hv
        subst hv
        rw [← kv4]
        exact z_iret hc hB hr dX12_goods_57
      · replace hv := y_br_f hv c7
        refine lv_iload_n hx hb dX12_goods_14 rfl (lv_at hl 1 rfl) ?_
        refine lv_aload_n hx hb dX12_goods_15 rfl (lv_at hl 0 rfl) ?_
        refine z_getR hc hB 11 6 g3 eo4 (by decide) (by decide) rfl (z_l1 hc qfX12_33) dX12_goods_16 ?_
        refine lv_bipush (v := (8 : Int32)) hx hb dX12_goods_19 (by decide) ?_
        refine lv_iload_n hx hb dX12_goods_21 rfl (lv_at hl 2 rfl) ?_
        refine lv_iadd hx hb dX12_goods_22 ?_
        obtain ⟨i9, hv⟩ := y_gd_e hv
        refine z_iald hc hB g5 i9 dX12_goods_23 ?_
        refine lv_bipush (v := (9 : Int32)) hx hb dX12_goods_24 (by decide) ?_
        refine lv_icmp_ne (tgt := 47) hx hb dX12_goods_26 (by decide) (fun c10 => ?_) (fun c10 => ?_)
        · replace hv := y_br_f hv c10
          exact b47 x2 x1 _ _ _ hB (lv_sub hl [0, 2] rfl) _ hv kw4
        · replace hv := y_br_t hv c10
          refine lv_aload_n hx hb dX12_goods_29 rfl (lv_at hl 0 rfl) ?_
          refine z_getR hc hB 11 6 g3 eo4 (by decide) (by decide) rfl (z_l1 hc qfX12_33) dX12_goods_30 ?_
          refine lv_bipush (v := (16 : Int32)) hx hb dX12_goods_33 (by decide) ?_
          refine lv_iload_n hx hb dX12_goods_35 rfl (lv_at hl 2 rfl) ?_
          refine lv_iadd hx hb dX12_goods_36 ?_
          obtain ⟨i11, hv⟩ := y_gd_e hv
          refine z_iald hc hB g5 i11 dX12_goods_37 ?_
          refine lv_if_ne (tgt := 47) hx hb dX12_goods_38 (by decide) (fun c12 => ?_) (fun c12 => ?_)
          · replace hv := y_br_f hv c12
            exact b47 x2 x1 _ _ _ hB (lv_sub hl [0, 2] rfl) _ hv kw4
          · replace hv := y_br_t hv c12
            refine lv_iconst (v := (1 : Int32)) hx hb dX12_goods_41 (by decide) ?_
            refine lv_iload_n hx hb dX12_goods_42 rfl (lv_at hl 2 rfl) ?_
            refine lv_ishl hx hb dX12_goods_43 ?_
            refine lv_goto (tgt := 48) hx hb dX12_goods_44 (by decide) ?_
            exact b48 x2 x1 ((1 : Int32) <<< (x2 &&& 31)) _ _ _ hB (lv_sub hl [0, 2] rfl) _ hv kw4
  rw [← kt] at hv
  refine lv_iconst (v := (0 : Int32)) hx hb dX12_goods_0 (by decide) ?_
  refine lv_istore_n (lv' := [(1, .int (0 : Int32)), (0, .ref (ad o0))]) hx hb dX12_goods_1 rfl hl (by decide) rfl (fun ls hl => ?_)
  refine lv_iconst (v := (0 : Int32)) hx hb dX12_goods_2 (by decide) ?_
  refine lv_istore_n (lv' := [(2, .int (0 : Int32)), (1, .int (0 : Int32)), (0, .ref (ad o0))]) hx hb dX12_goods_3 rfl hl (by decide) rfl (fun ls hl => ?_)
  obtain ⟨n, hv⟩ := y_lp_e hv
  exact L4 n (0 : Int32) (0 : Int32) _ _ _ hB (lv_sub hl [2, 1, 0] rfl) _ hv kt
theorem qmX12_292 : Cond.methodLink RX12 292 yX12_bits ∈ z_ws := List.mem_filter.mpr ⟨List.mem_append_right _ (List.mem_of_getElem? (i := 1661) (by decide +kernel)), rfl⟩
theorem qc_X12_bits : Cond.code yX12_bits cX12_bits 3 (some .int) ∈ z_ws := List.mem_filter.mpr ⟨List.mem_append_right _ (List.mem_of_getElem? (i := 1663) (by decide +kernel)), rfl⟩
theorem qs_X12_bits : Cond.static yX12_bits ∈ z_ws := List.mem_filter.mpr ⟨List.mem_append_right _ (List.mem_of_getElem? (i := 1662) (by decide +kernel)), rfl⟩
theorem md_X12_bits : z_mdS yX12_bits cX12_bits 3 (some .int) 1 := ⟨⟨qn_RX12, qc_X12_bits, ⟨by decide +kernel, by decide +kernel, by decide +kernel⟩⟩, qs_X12_bits⟩
theorem qmX12_289 : Cond.methodLink RX12 289 yX12_goods ∈ z_ws := List.mem_filter.mpr ⟨List.mem_append_right _ (List.mem_of_getElem? (i := 1657) (by decide +kernel)), rfl⟩
theorem qc_X12_goods : Cond.code yX12_goods cX12_goods 3 (some .int) ∈ z_ws := List.mem_filter.mpr ⟨List.mem_append_right _ (List.mem_of_getElem? (i := 1660) (by decide +kernel)), rfl⟩
theorem qi_X12_goods : Cond.instanceMethod yX12_goods ∈ z_ws := List.mem_filter.mpr ⟨List.mem_append_right _ (List.mem_of_getElem? (i := 1659) (by decide +kernel)), rfl⟩
theorem qs_X12_goods : Cond.selects RX12 yX12_goods yX12_goods ∈ z_ws := List.mem_filter.mpr ⟨List.mem_append_left _ (List.mem_of_getElem? (i := 59) (by decide +kernel)), rfl⟩
theorem md_X12_goods : z_mdV yX12_goods cX12_goods 3 (some .int) 0 := ⟨⟨qn_RX12, qc_X12_goods, ⟨by decide +kernel, by decide +kernel, by decide +kernel⟩⟩, qi_X12_goods, qs_X12_goods⟩
theorem dX12_enough_0 : decode cX12_enough 0 = .ok (.aload_n 0, 1) := by decide +kernel
theorem dX12_enough_1 : decode cX12_enough 1 = .ok (.iconst 0, 1) := by decide +kernel
theorem dX12_enough_2 : decode cX12_enough 2 = .ok (.putfield 1, 3) := by decide +kernel
theorem dX12_enough_5 : decode cX12_enough 5 = .ok (.iconst (-1), 1) := by decide +kernel
theorem dX12_enough_6 : decode cX12_enough 6 = .ok (.istore_n 1, 1) := by decide +kernel
theorem dX12_enough_7 : decode cX12_enough 7 = .ok (.iconst 0, 1) := by decide +kernel
theorem dX12_enough_8 : decode cX12_enough 8 = .ok (.istore_n 2, 1) := by decide +kernel
theorem dX12_enough_9 : decode cX12_enough 9 = .ok (.iload_n 2, 1) := by decide +kernel
theorem dX12_enough_10 : decode cX12_enough 10 = .ok (.sipush 256, 3) := by decide +kernel
theorem dX12_enough_13 : decode cX12_enough 13 = .ok (.if_icmp .ge 94, 3) := by decide +kernel
theorem dX12_enough_16 : decode cX12_enough 16 = .ok (.iload_n 2, 1) := by decide +kernel
theorem dX12_enough_17 : decode cX12_enough 17 = .ok (.aload_n 0, 1) := by decide +kernel
theorem dX12_enough_18 : decode cX12_enough 18 = .ok (.invokevirtual 289, 3) := by decide +kernel
theorem dX12_enough_21 : decode cX12_enough 21 = .ok (.iconst (-1), 1) := by decide +kernel
theorem dX12_enough_22 : decode cX12_enough 22 = .ok (.ixor, 1) := by decide +kernel
theorem dX12_enough_23 : decode cX12_enough 23 = .ok (.iand, 1) := by decide +kernel
theorem dX12_enough_24 : decode cX12_enough 24 = .ok (.ifCond .ne 7, 3) := by decide +kernel
theorem dX12_enough_27 : decode cX12_enough 27 = .ok (.iconst 1, 1) := by decide +kernel
theorem dX12_enough_28 : decode cX12_enough 28 = .ok (.goto 4, 3) := by decide +kernel
theorem dX12_enough_31 : decode cX12_enough 31 = .ok (.iconst 0, 1) := by decide +kernel
theorem dX12_enough_32 : decode cX12_enough 32 = .ok (.istore_n 3, 1) := by decide +kernel
theorem dX12_enough_33 : decode cX12_enough 33 = .ok (.iconst 0, 1) := by decide +kernel
theorem dX12_enough_34 : decode cX12_enough 34 = .ok (.istore 4, 2) := by decide +kernel
theorem dX12_enough_36 : decode cX12_enough 36 = .ok (.iload 4, 2) := by decide +kernel
theorem dX12_enough_38 : decode cX12_enough 38 = .ok (.aload_n 0, 1) := by decide +kernel
theorem dX12_enough_39 : decode cX12_enough 39 = .ok (.getfield 33, 3) := by decide +kernel
theorem dX12_enough_42 : decode cX12_enough 42 = .ok (.iconst 1, 1) := by decide +kernel
theorem dX12_enough_43 : decode cX12_enough 43 = .ok (.iaload, 1) := by decide +kernel
theorem dX12_enough_44 : decode cX12_enough 44 = .ok (.if_icmp .ge 36, 3) := by decide +kernel
theorem dX12_enough_47 : decode cX12_enough 47 = .ok (.iload_n 3, 1) := by decide +kernel
theorem dX12_enough_48 : decode cX12_enough 48 = .ok (.ifCond .eq 24, 3) := by decide +kernel
theorem dX12_enough_51 : decode cX12_enough 51 = .ok (.iload_n 2, 1) := by decide +kernel
theorem dX12_enough_52 : decode cX12_enough 52 = .ok (.aload_n 0, 1) := by decide +kernel
theorem dX12_enough_53 : decode cX12_enough 53 = .ok (.getfield 33, 3) := by decide +kernel
theorem dX12_enough_56 : decode cX12_enough 56 = .ok (.bipush 30, 2) := by decide +kernel
theorem dX12_enough_58 : decode cX12_enough 58 = .ok (.iload 4, 2) := by decide +kernel
theorem dX12_enough_60 : decode cX12_enough 60 = .ok (.iadd, 1) := by decide +kernel
theorem dX12_enough_61 : decode cX12_enough 61 = .ok (.iaload, 1) := by decide +kernel
theorem dX12_enough_62 : decode cX12_enough 62 = .ok (.iconst (-1), 1) := by decide +kernel
theorem dX12_enough_63 : decode cX12_enough 63 = .ok (.ixor, 1) := by decide +kernel
theorem dX12_enough_64 : decode cX12_enough 64 = .ok (.iand, 1) := by decide +kernel
theorem dX12_enough_65 : decode cX12_enough 65 = .ok (.ifCond .eq 7, 3) := by decide +kernel
theorem dX12_enough_68 : decode cX12_enough 68 = .ok (.iconst 1, 1) := by decide +kernel
theorem dX12_enough_69 : decode cX12_enough 69 = .ok (.goto 4, 3) := by decide +kernel
theorem dX12_enough_72 : decode cX12_enough 72 = .ok (.iconst 0, 1) := by decide +kernel
theorem dX12_enough_73 : decode cX12_enough 73 = .ok (.istore_n 3, 1) := by decide +kernel
theorem dX12_enough_74 : decode cX12_enough 74 = .ok (.iinc 4 1, 3) := by decide +kernel
theorem dX12_enough_77 : decode cX12_enough 77 = .ok (.goto (-41), 3) := by decide +kernel
theorem dX12_enough_80 : decode cX12_enough 80 = .ok (.iload_n 3, 1) := by decide +kernel
theorem dX12_enough_81 : decode cX12_enough 81 = .ok (.ifCond .eq 20, 3) := by decide +kernel
theorem dX12_enough_84 : decode cX12_enough 84 = .ok (.iload_n 1, 1) := by decide +kernel
theorem dX12_enough_85 : decode cX12_enough 85 = .ok (.ifCond .lt 14, 3) := by decide +kernel
theorem dX12_enough_88 : decode cX12_enough 88 = .ok (.iload_n 2, 1) := by decide +kernel
theorem dX12_enough_89 : decode cX12_enough 89 = .ok (.invokestatic 292, 3) := by decide +kernel
theorem dX12_enough_92 : decode cX12_enough 92 = .ok (.iload_n 1, 1) := by decide +kernel
theorem dX12_enough_93 : decode cX12_enough 93 = .ok (.invokestatic 292, 3) := by decide +kernel
theorem dX12_enough_96 : decode cX12_enough 96 = .ok (.if_icmp .ge 5, 3) := by decide +kernel
theorem dX12_enough_99 : decode cX12_enough 99 = .ok (.iload_n 2, 1) := by decide +kernel
theorem dX12_enough_100 : decode cX12_enough 100 = .ok (.istore_n 1, 1) := by decide +kernel
theorem dX12_enough_101 : decode cX12_enough 101 = .ok (.iinc 2 1, 3) := by decide +kernel
theorem dX12_enough_104 : decode cX12_enough 104 = .ok (.goto (-95), 3) := by decide +kernel
theorem dX12_enough_107 : decode cX12_enough 107 = .ok (.iload_n 1, 1) := by decide +kernel
theorem dX12_enough_108 : decode cX12_enough 108 = .ok (.ireturn, 1) := by decide +kernel
abbrev rm_X12_enough : Room := { frames := 1, cells := 0, slots := 0, locals := 22 }
noncomputable def fX12_enough_b101 (o0 : Nat) (x1 : Int32) (x2 : Int32) (h : z_T) : Option ((Int32 × Int32) ⊕ (Int32 × z_T)) :=
  y_nm (x2 + 1) fun v1 =>
  some (.inl (x1, v1))
noncomputable def fX12_enough_b99 (o0 : Nat) (x2 : Int32) (h : z_T) : Option ((Int32 × Int32) ⊕ (Int32 × z_T)) :=
  fX12_enough_b101 o0 x2 x2 h
noncomputable def fX12_enough_b73 (o0 : Nat) (x1 : Int32) (x2 : Int32) (x4 : Int32) (s0 : Int32) (h : z_T) : Option ((Int32 × Int32) ⊕ ((Int32 × Int32) ⊕ (Int32 × z_T))) :=
  y_nm (x4 + 1) fun v2 =>
  some (.inl (s0, v2))
noncomputable def fX12_enough_b72 (o0 : Nat) (x1 : Int32) (x2 : Int32) (x4 : Int32) (h : z_T) : Option ((Int32 × Int32) ⊕ ((Int32 × Int32) ⊕ (Int32 × z_T))) :=
  fX12_enough_b73 o0 x1 x2 x4 (0 : Int32) h
noncomputable def fX12_enough_b36_i (o0 : Nat) (x1 : Int32) (x2 : Int32) (h : z_T) (x3 : Int32) (x4 : Int32) : Option ((Int32 × Int32) ⊕ ((Int32 × Int32) ⊕ (Int32 × z_T))) :=
  y_gd (z_ok h o0 11) <|
  y_bi (z_R h o0 6) fun o4 =>
  y_gd (z_ok h o4 13) <|
  y_gd (z_ix (1 : Int32) (z_N h o4)) <|
  y_br ((z_I h o4 (1 : Int32).toNatClampNeg) ≤ x4)
    (y_mp <|
    y_br (x3 = 0)
      (fX12_enough_b101 o0 x1 x2 h)
      (y_br (x1 < 0)
        (fX12_enough_b99 o0 x2 h)
        (y_bi (fX12_bits x2) fun r12 =>
        y_bi (fX12_bits x1) fun r17 =>
        y_br (r17 ≤ r12)
          (fX12_enough_b101 o0 x1 x2 h)
          (fX12_enough_b99 o0 x2 h))))
    (y_br (x3 = 0)
      (fX12_enough_b72 o0 x1 x2 x4 h)
      (y_gd (z_ix ((30 : Int32) + x4) (z_N h o4)) <|
      y_br ((x2 &&& ((z_I h o4 ((30 : Int32) + x4).toNatClampNeg) ^^^ (-1 : Int32))) = 0)
        (fX12_enough_b72 o0 x1 x2 x4 h)
        (fX12_enough_b73 o0 x1 x2 x4 (1 : Int32) h)))
noncomputable def fX12_enough_b36 (o0 : Nat) (x1 : Int32) (x2 : Int32) (x3 : Int32) (x4 : Int32) (h : z_T) : Option ((Int32 × Int32) ⊕ (Int32 × z_T)) := y_lp (fun q : Int32 × Int32 => fX12_enough_b36_i o0 x1 x2 h q.1 q.2) (x3, x4)
noncomputable def fX12_enough_b32 (o0 : Nat) (x1 : Int32) (x2 : Int32) (s0 : Int32) (h : z_T) : Option ((Int32 × Int32) ⊕ (Int32 × z_T)) :=
  fX12_enough_b36 o0 x1 x2 s0 (0 : Int32) h
noncomputable def fX12_enough_b9_i (o0 : Nat) (h : z_T) (x1 : Int32) (x2 : Int32) : Option ((Int32 × Int32) ⊕ (Int32 × z_T)) :=
  y_br ((256 : Int32) ≤ x2)
    (y_mp <|
    some (x1, h))
    (y_gd (z_ok h o0 11) <|
    y_bi (fX12_goods o0 h) fun r28 =>
    y_br ((x2 &&& (r28 ^^^ (-1 : Int32))) = 0)
      (fX12_enough_b32 o0 x1 x2 (1 : Int32) h)
      (fX12_enough_b32 o0 x1 x2 (0 : Int32) h))
noncomputable def fX12_enough_b9 (o0 : Nat) (x1 : Int32) (x2 : Int32) (h : z_T) : Option (Int32 × z_T) := y_lp (fun q : Int32 × Int32 => fX12_enough_b9_i o0 h q.1 q.2) (x1, x2)
noncomputable def fX12_enough (o0 : Nat) (h : z_T) : Option (Int32 × z_T) :=
  y_gd (z_ok h o0 11) <|
  y_nm (z_sI h o0 0 (0 : Int32)) fun h35 =>
  fX12_enough_b9 o0 (-1 : Int32) (0 : Int32) h35
set_option maxHeartbeats 4000000 in
set_option maxRecDepth 100000 in
theorem mm_X12_enough {G : z_Gt} {S : State → Prop} (hSK : z_SK S) (l : Launch) (ad : Nat → Nat) (o0 : Nat) (h : z_T) {r0 : Int32} {h9 : z_T} (hv : fX12_enough o0 h = some (r0, h9)) : z_Mi G S l yX12_enough cX12_enough 5 (.int) rm_X12_enough 0 0 [.ref (ad o0)] ad h h9 r0 := by
  refine z_ofW hSK (by decide) (Nat.le_of_ble_eq_true rfl) ?_
  intro p e s m args below meth c ls hc hr hnm hB hl
  have hx := hc.1.1
  have hb := hc.1.2.1
  have hown := hc.1.2.2.2.1
  have hts := hc.1.2.2.2.2
  replace hc : z_C G S ad (z_n h) p m c cX12_enough 5 s args RX12 meth := hc
  replace hown : s.vm.findClass RX12 = some m.cls := hown
  replace hl : lv_has ls 5 [(0, .ref (ad o0))] := hl
  show W p l e rm_X12_enough s m args below meth c s.heap [] 0 0 (MQ below (z_Qi G ad h9 (z_n h) s.heap.size r0) args s 0 0 (z_A ad (z_n h) s.heap.size)) (F0 m 0 ls [])
  obtain ⟨rs, kt⟩ : ∃ rs : Int32 × z_T, rs = (r0, h9) := ⟨_, rfl⟩
  generalize hn0 : z_n h = n0 at hc hB ⊢
  have L9 : ∀ (h : z_T) (nn9 : Nat) (x1 : Int32) (x2 : Int32) (H : Heap) (locs : List Loc) (ls : Array Slot), z_B G ad n0 s h H locs → lv_has ls 5 [(0, .ref (ad o0)), (1, .int x1), (2, .int x2)] → ∀ vv9, y_lpN (fun q : Int32 × Int32 => fX12_enough_b9_i o0 h q.1 q.2) nn9 (x1, x2) = some vv9 → vv9 = (r0, h9) → W p l e rm_X12_enough s m args below meth c H locs 0 0 (MQ below (z_Qi G ad h9 n0 s.heap.size r0) args s 0 0 (z_A ad n0 s.heap.size)) (F0 m 9 ls []) := by
    intro h nn9
    induction nn9 with
    | zero => intro x1 x2 H locs ls hB hl vv9 hv kv9; exact absurd hv (fun q => y_lpN_0 q)
    | succ nn9 ih9 =>
      intro x1 x2 H locs ls hB hl vv9 hv kv9
      obtain ⟨w, hq, kw9⟩ := y_lpN_e hv
      clear hv
      have hv : fX12_enough_b9_i o0 h x1 x2 = some w := hq
      clear hq
      have b101 : ∀ (x1 : Int32) (x2 : Int32) (H : Heap) (locs : List Loc) (ls : Array Slot), z_B G ad n0 s h H locs → lv_has ls 5 [(0, .ref (ad o0)), (1, .int x1), (2, .int x2)] → ∀ w, fX12_enough_b101 o0 x1 x2 h = some w → y_lq (fun q : Int32 × Int32 => fX12_enough_b9_i o0 h q.1 q.2) nn9 vv9 w → W p l e rm_X12_enough s m args below meth c H locs 0 0 (MQ below (z_Qi G ad h9 n0 s.heap.size r0) args s 0 0 (z_A ad n0 s.heap.size)) (F0 m 101 ls []) := by
        intro x1 x2 H locs ls hB hl w hv kw9
        obtain ⟨v1, ev1, hv⟩ := y_nm_e hv
        refine lv_iinc (v := v1) (lv' := [(2, .int v1), (0, .ref (ad o0)), (1, .int x1)]) hx hb dX12_enough_101 hl (k := 2) rfl (by rw [ev1]; rfl) (by decide) rfl (fun ls hl => ?_)
        refine lv_goto (tgt := 9) hx hb dX12_enough_104 (by decide) ?_
        replace hv := Option.some.inj hv
        subst hv
        exact ih9 x1 v1 _ _ _ hB (lv_sub hl [1, 2, 0] rfl) _ kw9 kv9
      have b99 : ∀ (x2 : Int32) (H : Heap) (locs : List Loc) (ls : Array Slot), z_B G ad n0 s h H locs → lv_has ls 5 [(0, .ref (ad o0)), (2, .int x2)] → ∀ w, fX12_enough_b99 o0 x2 h = some w → y_lq (fun q : Int32 × Int32 => fX12_enough_b9_i o0 h q.1 q.2) nn9 vv9 w → W p l e rm_X12_enough s m args below meth c H locs 0 0 (MQ below (z_Qi G ad h9 n0 s.heap.size r0) args s 0 0 (z_A ad n0 s.heap.size)) (F0 m 99 ls []) := by
        intro x2 H locs ls hB hl w hv kw9
        refine lv_iload_n hx hb dX12_enough_99 rfl (lv_at hl 1 rfl) ?_
        refine lv_istore_n (lv' := [(1, .int x2), (0, .ref (ad o0)), (2, .int x2)]) hx hb dX12_enough_100 rfl hl (by decide) rfl (fun ls hl => ?_)
        exact b101 x2 x2 _ _ _ hB (lv_sub hl [1, 0, 2] rfl) _ hv kw9
      have L36 : ∀ (x1 : Int32) (x2 : Int32) (nn36 : Nat) (x3 : Int32) (x4 : Int32) (H : Heap) (locs : List Loc) (ls : Array Slot), z_B G ad n0 s h H locs → lv_has ls 5 [(0, .ref (ad o0)), (1, .int x1), (2, .int x2), (3, .int x3), (4, .int x4)] → ∀ vv36, y_lpN (fun q : Int32 × Int32 => fX12_enough_b36_i o0 x1 x2 h q.1 q.2) nn36 (x3, x4) = some vv36 → y_lq (fun q : Int32 × Int32 => fX12_enough_b9_i o0 h q.1 q.2) nn9 vv9 vv36 → W p l e rm_X12_enough s m args below meth c H locs 0 0 (MQ below (z_Qi G ad h9 n0 s.heap.size r0) args s 0 0 (z_A ad n0 s.heap.size)) (F0 m 36 ls []) := by
        intro x1 x2 nn36
        induction nn36 with
        | zero => intro x3 x4 H locs ls hB hl vv36 hv kv36; exact absurd hv (fun q => y_lpN_0 q)
        | succ nn36 ih36 =>
          intro x3 x4 H locs ls hB hl vv36 hv kv36
          obtain ⟨w, hq, kw36⟩ := y_lpN_e hv
          clear hv
          have hv : fX12_enough_b36_i o0 x1 x2 h x3 x4 = some w := hq
          clear hq
          have b73 : ∀ (x4 : Int32) (s0 : Int32) (H : Heap) (locs : List Loc) (ls : Array Slot), z_B G ad n0 s h H locs → lv_has ls 5 [(0, .ref (ad o0)), (1, .int x1), (2, .int x2), (4, .int x4)] → ∀ w, fX12_enough_b73 o0 x1 x2 x4 s0 h = some w → y_lq (fun q : Int32 × Int32 => fX12_enough_b36_i o0 x1 x2 h q.1 q.2) nn36 vv36 w → W p l e rm_X12_enough s m args below meth c H locs 0 0 (MQ below (z_Qi G ad h9 n0 s.heap.size r0) args s 0 0 (z_A ad n0 s.heap.size)) (F0 m 73 ls [.int s0]) := by
            intro x4 s0 H locs ls hB hl w hv kw36
            refine lv_istore_n (lv' := [(3, .int s0), (0, .ref (ad o0)), (1, .int x1), (2, .int x2), (4, .int x4)]) hx hb dX12_enough_73 rfl hl (by decide) rfl (fun ls hl => ?_)
            obtain ⟨v2, ev2, hv⟩ := y_nm_e hv
            refine lv_iinc (v := v2) (lv' := [(4, .int v2), (3, .int s0), (0, .ref (ad o0)), (1, .int x1), (2, .int x2)]) hx hb dX12_enough_74 hl (k := 4) rfl (by rw [ev2]; rfl) (by decide) rfl (fun ls hl => ?_)
            refine lv_goto (tgt := 36) hx hb dX12_enough_77 (by decide) ?_
            replace hv := Option.some.inj hv
            subst hv
            exact ih36 s0 v2 _ _ _ hB (lv_sub hl [2, 3, 4, 1, 0] rfl) _ kw36 kv36
          have b72 : ∀ (x4 : Int32) (H : Heap) (locs : List Loc) (ls : Array Slot), z_B G ad n0 s h H locs → lv_has ls 5 [(0, .ref (ad o0)), (1, .int x1), (2, .int x2), (4, .int x4)] → ∀ w, fX12_enough_b72 o0 x1 x2 x4 h = some w → y_lq (fun q : Int32 × Int32 => fX12_enough_b36_i o0 x1 x2 h q.1 q.2) nn36 vv36 w → W p l e rm_X12_enough s m args below meth c H locs 0 0 (MQ below (z_Qi G ad h9 n0 s.heap.size r0) args s 0 0 (z_A ad n0 s.heap.size)) (F0 m 72 ls []) := by
            intro x4 H locs ls hB hl w hv kw36
            refine lv_iconst (v := (0 : Int32)) hx hb dX12_enough_72 (by decide) ?_
            exact b73 x4 (0 : Int32) _ _ _ hB (lv_sub hl [0, 1, 2, 3] rfl) _ hv kw36
          refine lv_iload hx hb dX12_enough_36 (lv_at hl 4 rfl) ?_
          refine lv_aload_n hx hb dX12_enough_38 rfl (lv_at hl 0 rfl) ?_
          obtain ⟨g3, hv⟩ := y_gd_e hv
          obtain ⟨o4, eo4, hv⟩ := y_bi_e hv
          refine z_getR hc hB 11 6 g3 eo4 (by decide) (by decide) rfl (z_l1 hc qfX12_33) dX12_enough_39 ?_
          refine lv_iconst (v := (1 : Int32)) hx hb dX12_enough_42 (by decide) ?_
          obtain ⟨g5, hv⟩ := y_gd_e hv
          obtain ⟨i6, hv⟩ := y_gd_e hv
          refine z_iald hc hB g5 i6 dX12_enough_43 ?_
          refine lv_icmp_ge (tgt := 80) hx hb dX12_enough_44 (by decide) (fun c7 => ?_) (fun c7 => ?_)
          · replace hv := y_br_t hv c7
            obtain ⟨t8, hq, ew⟩ := y_mp_e hv
            clear hv; subst ew
            replace kw36 : t8 = _ := kw36
            subst kw36
            have hv := hq
            clear hq
            refine lv_iload_n hx hb dX12_enough_80 rfl (lv_at hl 3 rfl) ?_
            refine lv_if_eq (tgt := 101) hx hb dX12_enough_81 (by decide) (fun c9 => ?_) (fun c9 => ?_)
            · replace hv := y_br_t hv c9
              exact b101 x1 x2 _ _ _ hB (lv_sub hl [0, 1, 2] rfl) _ hv kv36
            · replace hv := y_br_f hv c9
              refine lv_iload_n hx hb dX12_enough_84 rfl (lv_at hl 1 rfl) ?_
              refine lv_if_lt (tgt := 99) hx hb dX12_enough_85 (by decide) (fun c10 => ?_) (fun c10 => ?_)
              · replace hv := y_br_t hv c10
                exact b99 x2 _ _ _ hB (lv_sub hl [0, 2] rfl) _ hv kv36
              · replace hv := y_br_f hv c10
                refine lv_iload_n hx hb dX12_enough_88 rfl (lv_at hl 2 rfl) ?_
                obtain ⟨r12, c11, hv⟩ := y_bi_e hv
                refine z_thI hc hB (z_runS hc hB (mm_X12_bits hSK l ad x2 h c11) md_X12_bits qmX12_292 rfl rfl ⟨Nat.le_of_ble_eq_true rfl, Nat.le_of_ble_eq_true rfl⟩ rfl hl.1 rfl (Nat.le_of_ble_eq_true rfl) dX12_enough_89 ⟨Nat.le_of_ble_eq_true rfl, Nat.le_of_ble_eq_true rfl⟩) (fun H locs hB => ?_)
                refine lv_iload_n hx hb dX12_enough_92 rfl (lv_at hl 1 rfl) ?_
                obtain ⟨r17, c16, hv⟩ := y_bi_e hv
                refine z_thI hc hB (z_runS hc hB (mm_X12_bits hSK l ad x1 h c16) md_X12_bits qmX12_292 rfl rfl ⟨Nat.le_of_ble_eq_true rfl, Nat.le_of_ble_eq_true rfl⟩ rfl hl.1 rfl (Nat.le_of_ble_eq_true rfl) dX12_enough_93 ⟨Nat.le_of_ble_eq_true rfl, Nat.le_of_ble_eq_true rfl⟩) (fun H locs hB => ?_)
                refine lv_icmp_ge (tgt := 101) hx hb dX12_enough_96 (by decide) (fun c21 => ?_) (fun c21 => ?_)
                · replace hv := y_br_t hv c21
                  exact b101 x1 x2 _ _ _ hB (lv_sub hl [0, 1, 2] rfl) _ hv kv36
                · replace hv := y_br_f hv c21
                  exact b99 x2 _ _ _ hB (lv_sub hl [0, 2] rfl) _ hv kv36
          · replace hv := y_br_f hv c7
            refine lv_iload_n hx hb dX12_enough_47 rfl (lv_at hl 3 rfl) ?_
            refine lv_if_eq (tgt := 72) hx hb dX12_enough_48 (by decide) (fun c22 => ?_) (fun c22 => ?_)
            · replace hv := y_br_t hv c22
              exact b72 x4 _ _ _ hB (lv_sub hl [0, 1, 2, 4] rfl) _ hv kw36
            · replace hv := y_br_f hv c22
              refine lv_iload_n hx hb dX12_enough_51 rfl (lv_at hl 2 rfl) ?_
              refine lv_aload_n hx hb dX12_enough_52 rfl (lv_at hl 0 rfl) ?_
              refine z_getR hc hB 11 6 g3 eo4 (by decide) (by decide) rfl (z_l1 hc qfX12_33) dX12_enough_53 ?_
              refine lv_bipush (v := (30 : Int32)) hx hb dX12_enough_56 (by decide) ?_
              refine lv_iload hx hb dX12_enough_58 (lv_at hl 4 rfl) ?_
              refine lv_iadd hx hb dX12_enough_60 ?_
              obtain ⟨i23, hv⟩ := y_gd_e hv
              refine z_iald hc hB g5 i23 dX12_enough_61 ?_
              refine lv_iconst (v := (-1 : Int32)) hx hb dX12_enough_62 (by decide) ?_
              refine lv_ixor hx hb dX12_enough_63 ?_
              refine lv_iand hx hb dX12_enough_64 ?_
              refine lv_if_eq (tgt := 72) hx hb dX12_enough_65 (by decide) (fun c24 => ?_) (fun c24 => ?_)
              · replace hv := y_br_t hv c24
                exact b72 x4 _ _ _ hB (lv_sub hl [0, 1, 2, 4] rfl) _ hv kw36
              · replace hv := y_br_f hv c24
                refine lv_iconst (v := (1 : Int32)) hx hb dX12_enough_68 (by decide) ?_
                refine lv_goto (tgt := 73) hx hb dX12_enough_69 (by decide) ?_
                exact b73 x4 (1 : Int32) _ _ _ hB (lv_sub hl [0, 1, 2, 4] rfl) _ hv kw36
      have b32 : ∀ (x1 : Int32) (x2 : Int32) (s0 : Int32) (H : Heap) (locs : List Loc) (ls : Array Slot), z_B G ad n0 s h H locs → lv_has ls 5 [(0, .ref (ad o0)), (1, .int x1), (2, .int x2)] → ∀ w, fX12_enough_b32 o0 x1 x2 s0 h = some w → y_lq (fun q : Int32 × Int32 => fX12_enough_b9_i o0 h q.1 q.2) nn9 vv9 w → W p l e rm_X12_enough s m args below meth c H locs 0 0 (MQ below (z_Qi G ad h9 n0 s.heap.size r0) args s 0 0 (z_A ad n0 s.heap.size)) (F0 m 32 ls [.int s0]) := by
        intro x1 x2 s0 H locs ls hB hl w hv kw9
        refine lv_istore_n (lv' := [(3, .int s0), (0, .ref (ad o0)), (1, .int x1), (2, .int x2)]) hx hb dX12_enough_32 rfl hl (by decide) rfl (fun ls hl => ?_)
        refine lv_iconst (v := (0 : Int32)) hx hb dX12_enough_33 (by decide) ?_
        refine lv_istore (lv' := [(4, .int (0 : Int32)), (3, .int s0), (0, .ref (ad o0)), (1, .int x1), (2, .int x2)]) hx hb dX12_enough_34 hl (by decide) rfl (fun ls hl => ?_)
        obtain ⟨n, hv⟩ := y_lp_e hv
        exact L36 x1 x2 n s0 (0 : Int32) _ _ _ hB (lv_sub hl [2, 3, 4, 1, 0] rfl) _ hv kw9
      refine lv_iload_n hx hb dX12_enough_9 rfl (lv_at hl 2 rfl) ?_
      refine lv_sipush (v := (256 : Int32)) hx hb dX12_enough_10 (by decide) ?_
      refine lv_icmp_ge (tgt := 107) hx hb dX12_enough_13 (by decide) (fun c25 => ?_) (fun c25 => ?_)
      · replace hv := y_br_t hv c25
        obtain ⟨t26, hq, ew⟩ := y_mp_e hv
        clear hv; subst ew
        replace kw9 : t26 = _ := kw9
        subst kw9
        have hv := hq
        clear hq
        refine lv_iload_n hx hb dX12_enough_107 rfl (lv_at hl 1 rfl) ?_
        replace hv := Option.some.inj hv
        subst hv
        obtain ⟨e1, e2⟩ := y_pr kv9
        rw [← e1, ← e2]
        exact z_iret hc hB hr dX12_enough_108
      · replace hv := y_br_f hv c25
        refine lv_iload_n hx hb dX12_enough_16 rfl (lv_at hl 2 rfl) ?_
        refine lv_aload_n hx hb dX12_enough_17 rfl (lv_at hl 0 rfl) ?_
        obtain ⟨g32, hv⟩ := y_gd_e hv
        obtain ⟨r28, c27, hv⟩ := y_bi_e hv
        refine z_thI hc hB (z_runV hc hB 11 (mm_X12_goods hSK l ad o0 h c27) md_X12_goods qmX12_289 g32 (by decide) rfl rfl rfl ⟨Nat.le_of_ble_eq_true rfl, Nat.le_of_ble_eq_true rfl⟩ rfl hl.1 rfl (Nat.le_of_ble_eq_true rfl) dX12_enough_18 ⟨Nat.le_of_ble_eq_true rfl, Nat.le_of_ble_eq_true rfl⟩) (fun H locs hB => ?_)
        refine lv_iconst (v := (-1 : Int32)) hx hb dX12_enough_21 (by decide) ?_
        refine lv_ixor hx hb dX12_enough_22 ?_
        refine lv_iand hx hb dX12_enough_23 ?_
        refine lv_if_ne (tgt := 31) hx hb dX12_enough_24 (by decide) (fun c33 => ?_) (fun c33 => ?_)
        · replace hv := y_br_f hv c33
          refine lv_iconst (v := (0 : Int32)) hx hb dX12_enough_31 (by decide) ?_
          exact b32 x1 x2 (0 : Int32) _ _ _ hB (lv_sub hl [0, 1, 2] rfl) _ hv kw9
        · replace hv := y_br_t hv c33
          refine lv_iconst (v := (1 : Int32)) hx hb dX12_enough_27 (by decide) ?_
          refine lv_goto (tgt := 32) hx hb dX12_enough_28 (by decide) ?_
          exact b32 x1 x2 (1 : Int32) _ _ _ hB (lv_sub hl [0, 1, 2] rfl) _ hv kw9
  rw [← kt] at hv
  refine lv_aload_n hx hb dX12_enough_0 rfl (lv_at hl 0 rfl) ?_
  refine lv_iconst (v := (0 : Int32)) hx hb dX12_enough_1 (by decide) ?_
  obtain ⟨g34, hv⟩ := y_gd_e hv
  obtain ⟨h35, eh35, hv⟩ := y_nm_e hv
  refine y_putI hc hB 11 0 eh35 g34 (z_l1 hc qfX12_1) dX12_enough_2 (by decide) (by decide) rfl rfl rfl rfl (fun H locs hB => ?_)
  refine lv_iconst (v := (-1 : Int32)) hx hb dX12_enough_5 (by decide) ?_
  refine lv_istore_n (lv' := [(1, .int (-1 : Int32)), (0, .ref (ad o0))]) hx hb dX12_enough_6 rfl hl (by decide) rfl (fun ls hl => ?_)
  refine lv_iconst (v := (0 : Int32)) hx hb dX12_enough_7 (by decide) ?_
  refine lv_istore_n (lv' := [(2, .int (0 : Int32)), (1, .int (-1 : Int32)), (0, .ref (ad o0))]) hx hb dX12_enough_8 rfl hl (by decide) rfl (fun ls hl => ?_)
  obtain ⟨n, hv⟩ := y_lp_e hv
  exact L9 h35 n (-1 : Int32) (0 : Int32) _ _ _ hB (lv_sub hl [2, 1, 0] rfl) _ hv kt
theorem dX12_forger_0 : decode cX12_forger 0 = .ok (.aload_n 0, 1) := by decide +kernel
theorem dX12_forger_1 : decode cX12_forger 1 = .ok (.iconst 0, 1) := by decide +kernel
theorem dX12_forger_2 : decode cX12_forger 2 = .ok (.putfield 1, 3) := by decide +kernel
theorem dX12_forger_5 : decode cX12_forger 5 = .ok (.iconst 0, 1) := by decide +kernel
theorem dX12_forger_6 : decode cX12_forger 6 = .ok (.istore_n 1, 1) := by decide +kernel
theorem dX12_forger_7 : decode cX12_forger 7 = .ok (.iload_n 1, 1) := by decide +kernel
theorem dX12_forger_8 : decode cX12_forger 8 = .ok (.aload_n 0, 1) := by decide +kernel
theorem dX12_forger_9 : decode cX12_forger 9 = .ok (.getfield 33, 3) := by decide +kernel
theorem dX12_forger_12 : decode cX12_forger 12 = .ok (.iconst 1, 1) := by decide +kernel
theorem dX12_forger_13 : decode cX12_forger 13 = .ok (.iaload, 1) := by decide +kernel
theorem dX12_forger_14 : decode cX12_forger 14 = .ok (.if_icmp .ge 30, 3) := by decide +kernel
theorem dX12_forger_17 : decode cX12_forger 17 = .ok (.aload_n 0, 1) := by decide +kernel
theorem dX12_forger_18 : decode cX12_forger 18 = .ok (.invokevirtual 289, 3) := by decide +kernel
theorem dX12_forger_21 : decode cX12_forger 21 = .ok (.aload_n 0, 1) := by decide +kernel
theorem dX12_forger_22 : decode cX12_forger 22 = .ok (.getfield 33, 3) := by decide +kernel
theorem dX12_forger_25 : decode cX12_forger 25 = .ok (.bipush 30, 2) := by decide +kernel
theorem dX12_forger_27 : decode cX12_forger 27 = .ok (.iload_n 1, 1) := by decide +kernel
theorem dX12_forger_28 : decode cX12_forger 28 = .ok (.iadd, 1) := by decide +kernel
theorem dX12_forger_29 : decode cX12_forger 29 = .ok (.iaload, 1) := by decide +kernel
theorem dX12_forger_30 : decode cX12_forger 30 = .ok (.iconst (-1), 1) := by decide +kernel
theorem dX12_forger_31 : decode cX12_forger 31 = .ok (.ixor, 1) := by decide +kernel
theorem dX12_forger_32 : decode cX12_forger 32 = .ok (.iand, 1) := by decide +kernel
theorem dX12_forger_33 : decode cX12_forger 33 = .ok (.ifCond .ne 5, 3) := by decide +kernel
theorem dX12_forger_36 : decode cX12_forger 36 = .ok (.iload_n 1, 1) := by decide +kernel
theorem dX12_forger_37 : decode cX12_forger 37 = .ok (.ireturn, 1) := by decide +kernel
theorem dX12_forger_38 : decode cX12_forger 38 = .ok (.iinc 1 1, 3) := by decide +kernel
theorem dX12_forger_41 : decode cX12_forger 41 = .ok (.goto (-34), 3) := by decide +kernel
theorem dX12_forger_44 : decode cX12_forger 44 = .ok (.iconst (-1), 1) := by decide +kernel
theorem dX12_forger_45 : decode cX12_forger 45 = .ok (.ireturn, 1) := by decide +kernel
abbrev rm_X12_forger : Room := { frames := 1, cells := 0, slots := 0, locals := 22 }
noncomputable def fX12_forger_b7_i (o0 : Nat) (h : z_T) (x1 : Int32) : Option ((Int32) ⊕ (Int32 × z_T)) :=
  y_gd (z_ok h o0 11) <|
  y_bi (z_R h o0 6) fun o2 =>
  y_gd (z_ok h o2 13) <|
  y_gd (z_ix (1 : Int32) (z_N h o2)) <|
  y_br ((z_I h o2 (1 : Int32).toNatClampNeg) ≤ x1)
    (y_mp <|
    some ((-1 : Int32), h))
    (y_bi (fX12_goods o0 h) fun r8 =>
    y_gd (z_ix ((30 : Int32) + x1) (z_N h o2)) <|
    y_br ((r8 &&& ((z_I h o2 ((30 : Int32) + x1).toNatClampNeg) ^^^ (-1 : Int32))) = 0)
      (y_mp <|
      some (x1, h))
      (y_nm (x1 + 1) fun v14 =>
      some (.inl (v14))))
noncomputable def fX12_forger_b7 (o0 : Nat) (x1 : Int32) (h : z_T) : Option (Int32 × z_T) := y_lp (fun q : Int32 => fX12_forger_b7_i o0 h q) (x1)
noncomputable def fX12_forger (o0 : Nat) (h : z_T) : Option (Int32 × z_T) :=
  y_gd (z_ok h o0 11) <|
  y_nm (z_sI h o0 0 (0 : Int32)) fun h17 =>
  fX12_forger_b7 o0 (0 : Int32) h17
set_option maxHeartbeats 4000000 in
set_option maxRecDepth 100000 in
theorem mm_X12_forger {G : z_Gt} {S : State → Prop} (hSK : z_SK S) (l : Launch) (ad : Nat → Nat) (o0 : Nat) (h : z_T) {r0 : Int32} {h9 : z_T} (hv : fX12_forger o0 h = some (r0, h9)) : z_Mi G S l yX12_forger cX12_forger 2 (.int) rm_X12_forger 0 0 [.ref (ad o0)] ad h h9 r0 := by
  refine z_ofW hSK (by decide) (Nat.le_of_ble_eq_true rfl) ?_
  intro p e s m args below meth c ls hc hr hnm hB hl
  have hx := hc.1.1
  have hb := hc.1.2.1
  have hown := hc.1.2.2.2.1
  have hts := hc.1.2.2.2.2
  replace hc : z_C G S ad (z_n h) p m c cX12_forger 2 s args RX12 meth := hc
  replace hown : s.vm.findClass RX12 = some m.cls := hown
  replace hl : lv_has ls 2 [(0, .ref (ad o0))] := hl
  show W p l e rm_X12_forger s m args below meth c s.heap [] 0 0 (MQ below (z_Qi G ad h9 (z_n h) s.heap.size r0) args s 0 0 (z_A ad (z_n h) s.heap.size)) (F0 m 0 ls [])
  obtain ⟨rs, kt⟩ : ∃ rs : Int32 × z_T, rs = (r0, h9) := ⟨_, rfl⟩
  generalize hn0 : z_n h = n0 at hc hB ⊢
  have L7 : ∀ (h : z_T) (nn7 : Nat) (x1 : Int32) (H : Heap) (locs : List Loc) (ls : Array Slot), z_B G ad n0 s h H locs → lv_has ls 2 [(0, .ref (ad o0)), (1, .int x1)] → ∀ vv7, y_lpN (fun q : Int32 => fX12_forger_b7_i o0 h q) nn7 (x1) = some vv7 → vv7 = (r0, h9) → W p l e rm_X12_forger s m args below meth c H locs 0 0 (MQ below (z_Qi G ad h9 n0 s.heap.size r0) args s 0 0 (z_A ad n0 s.heap.size)) (F0 m 7 ls []) := by
    intro h nn7
    induction nn7 with
    | zero => intro x1 H locs ls hB hl vv7 hv kv7; exact absurd hv (fun q => y_lpN_0 q)
    | succ nn7 ih7 =>
      intro x1 H locs ls hB hl vv7 hv kv7
      obtain ⟨w, hq, kw7⟩ := y_lpN_e hv
      clear hv
      have hv : fX12_forger_b7_i o0 h x1 = some w := hq
      clear hq
      refine lv_iload_n hx hb dX12_forger_7 rfl (lv_at hl 1 rfl) ?_
      refine lv_aload_n hx hb dX12_forger_8 rfl (lv_at hl 0 rfl) ?_
      obtain ⟨g1, hv⟩ := y_gd_e hv
      obtain ⟨o2, eo2, hv⟩ := y_bi_e hv
      refine z_getR hc hB 11 6 g1 eo2 (by decide) (by decide) rfl (z_l1 hc qfX12_33) dX12_forger_9 ?_
      refine lv_iconst (v := (1 : Int32)) hx hb dX12_forger_12 (by decide) ?_
      obtain ⟨g3, hv⟩ := y_gd_e hv
      obtain ⟨i4, hv⟩ := y_gd_e hv
      refine z_iald hc hB g3 i4 dX12_forger_13 ?_
      refine lv_icmp_ge (tgt := 44) hx hb dX12_forger_14 (by decide) (fun c5 => ?_) (fun c5 => ?_)
      · replace hv := y_br_t hv c5
        obtain ⟨t6, hq, ew⟩ := y_mp_e hv
        clear hv; subst ew
        replace kw7 : t6 = _ := kw7
        subst kw7
        have hv := hq
        clear hq
        refine lv_iconst (v := (-1 : Int32)) hx hb dX12_forger_44 (by decide) ?_
        replace hv := Option.some.inj hv
        subst hv
        obtain ⟨e1, e2⟩ := y_pr kv7
        rw [← e1, ← e2]
        exact z_iret hc hB hr dX12_forger_45
      · replace hv := y_br_f hv c5
        refine lv_aload_n hx hb dX12_forger_17 rfl (lv_at hl 0 rfl) ?_
        obtain ⟨r8, c7, hv⟩ := y_bi_e hv
        refine z_thI hc hB (z_runV hc hB 11 (mm_X12_goods hSK l ad o0 h c7) md_X12_goods qmX12_289 g1 (by decide) rfl rfl rfl ⟨Nat.le_of_ble_eq_true rfl, Nat.le_of_ble_eq_true rfl⟩ rfl hl.1 rfl (Nat.le_of_ble_eq_true rfl) dX12_forger_18 ⟨Nat.le_of_ble_eq_true rfl, Nat.le_of_ble_eq_true rfl⟩) (fun H locs hB => ?_)
        refine lv_aload_n hx hb dX12_forger_21 rfl (lv_at hl 0 rfl) ?_
        refine z_getR hc hB 11 6 g1 eo2 (by decide) (by decide) rfl (z_l1 hc qfX12_33) dX12_forger_22 ?_
        refine lv_bipush (v := (30 : Int32)) hx hb dX12_forger_25 (by decide) ?_
        refine lv_iload_n hx hb dX12_forger_27 rfl (lv_at hl 1 rfl) ?_
        refine lv_iadd hx hb dX12_forger_28 ?_
        obtain ⟨i12, hv⟩ := y_gd_e hv
        refine z_iald hc hB g3 i12 dX12_forger_29 ?_
        refine lv_iconst (v := (-1 : Int32)) hx hb dX12_forger_30 (by decide) ?_
        refine lv_ixor hx hb dX12_forger_31 ?_
        refine lv_iand hx hb dX12_forger_32 ?_
        refine lv_if_ne (tgt := 38) hx hb dX12_forger_33 (by decide) (fun c13 => ?_) (fun c13 => ?_)
        · replace hv := y_br_f hv c13
          obtain ⟨v14, ev14, hv⟩ := y_nm_e hv
          refine lv_iinc (v := v14) (lv' := [(1, .int v14), (0, .ref (ad o0))]) hx hb dX12_forger_38 hl (k := 1) rfl (by rw [ev14]; rfl) (by decide) rfl (fun ls hl => ?_)
          refine lv_goto (tgt := 7) hx hb dX12_forger_41 (by decide) ?_
          replace hv := Option.some.inj hv
          subst hv
          exact ih7 v14 _ _ _ hB (lv_sub hl [1, 0] rfl) _ kw7 kv7
        · replace hv := y_br_t hv c13
          obtain ⟨t15, hq, ew⟩ := y_mp_e hv
          clear hv; subst ew
          replace kw7 : t15 = _ := kw7
          subst kw7
          have hv := hq
          clear hq
          refine lv_iload_n hx hb dX12_forger_36 rfl (lv_at hl 1 rfl) ?_
          replace hv := Option.some.inj hv
          subst hv
          obtain ⟨e1, e2⟩ := y_pr kv7
          rw [← e1, ← e2]
          exact z_iret hc hB hr dX12_forger_37
  rw [← kt] at hv
  refine lv_aload_n hx hb dX12_forger_0 rfl (lv_at hl 0 rfl) ?_
  refine lv_iconst (v := (0 : Int32)) hx hb dX12_forger_1 (by decide) ?_
  obtain ⟨g16, hv⟩ := y_gd_e hv
  obtain ⟨h17, eh17, hv⟩ := y_nm_e hv
  refine y_putI hc hB 11 0 eh17 g16 (z_l1 hc qfX12_1) dX12_forger_2 (by decide) (by decide) rfl rfl rfl rfl (fun H locs hB => ?_)
  refine lv_iconst (v := (0 : Int32)) hx hb dX12_forger_5 (by decide) ?_
  refine lv_istore_n (lv' := [(1, .int (0 : Int32)), (0, .ref (ad o0))]) hx hb dX12_forger_6 rfl hl (by decide) rfl (fun ls hl => ?_)
  obtain ⟨n, hv⟩ := y_lp_e hv
  exact L7 h17 n (0 : Int32) _ _ _ hB (lv_sub hl [1, 0] rfl) _ hv kt
theorem dX12_power_0 : decode cX12_power 0 = .ok (.lconst 1, 1) := by decide +kernel
theorem dX12_power_1 : decode cX12_power 1 = .ok (.lstore_n 3, 1) := by decide +kernel
theorem dX12_power_2 : decode cX12_power 2 = .ok (.iconst 0, 1) := by decide +kernel
theorem dX12_power_3 : decode cX12_power 3 = .ok (.istore 5, 2) := by decide +kernel
theorem dX12_power_5 : decode cX12_power 5 = .ok (.iload 5, 2) := by decide +kernel
theorem dX12_power_7 : decode cX12_power 7 = .ok (.iload_n 2, 1) := by decide +kernel
theorem dX12_power_8 : decode cX12_power 8 = .ok (.if_icmp .ge 14, 3) := by decide +kernel
theorem dX12_power_11 : decode cX12_power 11 = .ok (.lload_n 3, 1) := by decide +kernel
theorem dX12_power_12 : decode cX12_power 12 = .ok (.iload_n 1, 1) := by decide +kernel
theorem dX12_power_13 : decode cX12_power 13 = .ok (.i2l, 1) := by decide +kernel
theorem dX12_power_14 : decode cX12_power 14 = .ok (.lmul, 1) := by decide +kernel
theorem dX12_power_15 : decode cX12_power 15 = .ok (.lstore_n 3, 1) := by decide +kernel
theorem dX12_power_16 : decode cX12_power 16 = .ok (.iinc 5 1, 3) := by decide +kernel
theorem dX12_power_19 : decode cX12_power 19 = .ok (.goto (-14), 3) := by decide +kernel
theorem dX12_power_22 : decode cX12_power 22 = .ok (.lload_n 3, 1) := by decide +kernel
theorem dX12_power_23 : decode cX12_power 23 = .ok (.lreturn, 1) := by decide +kernel
abbrev rm_X12_power : Room := { frames := 0, cells := 0, slots := 0, locals := 0 }
noncomputable def fX12_power_b5_i (x1 : Int32) (x2 : Int32) (l3 : Int64) (x5 : Int32) : Option ((Int64 × Int32) ⊕ (Int64)) :=
  y_br (x2 ≤ x5)
    (y_mp <|
    some l3)
    (y_nm ((l3 * (x1).toInt64)) fun v3 =>
    y_nm (x5 + 1) fun v4 =>
    some (.inl (v3, v4)))
noncomputable def fX12_power_b5 (x1 : Int32) (x2 : Int32) (l3 : Int64) (x5 : Int32) : Option (Int64) := y_lp (fun q : Int64 × Int32 => fX12_power_b5_i x1 x2 q.1 q.2) (l3, x5)
noncomputable def fX12_power (o0 : Nat) (x1 : Int32) (x2 : Int32) : Option (Int64) :=
  fX12_power_b5 x1 x2 (1 : Int64) (0 : Int32)
set_option maxHeartbeats 4000000 in
set_option maxRecDepth 100000 in
theorem mm_X12_power {G : z_Gt} {S : State → Prop} (hSK : z_SK S) (l : Launch) (ad : Nat → Nat) (o0 : Nat) (x1 : Int32) (x2 : Int32) (h : z_T) {r0 : Int64} (hv : fX12_power o0 x1 x2 = some r0) : z_Ml G S l yX12_power cX12_power 6 (.long) rm_X12_power 0 0 [.ref (ad o0), .int x1, .int x2] ad h h r0 := by
  refine z_ofW hSK (by decide) (Nat.le_of_ble_eq_true rfl) ?_
  intro p e s m args below meth c ls hc hr hnm hB hl
  have hx := hc.1.1
  have hb := hc.1.2.1
  have hown := hc.1.2.2.2.1
  have hts := hc.1.2.2.2.2
  replace hc : z_C G S ad (z_n h) p m c cX12_power 6 s args RX12 meth := hc
  replace hown : s.vm.findClass RX12 = some m.cls := hown
  replace hl : lv_has ls 6 [(0, .ref (ad o0)), (1, .int x1), (2, .int x2)] := hl
  show W p l e rm_X12_power s m args below meth c s.heap [] 0 0 (MQ below (z_Ql G ad h (z_n h) s.heap.size r0) args s 0 0 (z_A ad (z_n h) s.heap.size)) (F0 m 0 ls [])
  obtain ⟨rs, kt⟩ : ∃ rs : Int64, rs = r0 := ⟨_, rfl⟩
  generalize hn0 : z_n h = n0 at hc hB ⊢
  have L5 : ∀ (nn5 : Nat) (l3 : Int64) (x5 : Int32) (H : Heap) (locs : List Loc) (ls : Array Slot), z_B G ad n0 s h H locs → lv_has ls 6 [(1, .int x1), (2, .int x2), (3, .long l3), (5, .int x5)] → ∀ vv5, y_lpN (fun q : Int64 × Int32 => fX12_power_b5_i x1 x2 q.1 q.2) nn5 (l3, x5) = some vv5 → vv5 = r0 → W p l e rm_X12_power s m args below meth c H locs 0 0 (MQ below (z_Ql G ad h n0 s.heap.size r0) args s 0 0 (z_A ad n0 s.heap.size)) (F0 m 5 ls []) := by
    intro nn5
    induction nn5 with
    | zero => intro l3 x5 H locs ls hB hl vv5 hv kv5; exact absurd hv (fun q => y_lpN_0 q)
    | succ nn5 ih5 =>
      intro l3 x5 H locs ls hB hl vv5 hv kv5
      obtain ⟨w, hq, kw5⟩ := y_lpN_e hv
      clear hv
      have hv : fX12_power_b5_i x1 x2 l3 x5 = some w := hq
      clear hq
      refine lv_iload hx hb dX12_power_5 (lv_at hl 3 rfl) ?_
      refine lv_iload_n hx hb dX12_power_7 rfl (lv_at hl 1 rfl) ?_
      refine lv_icmp_ge (tgt := 22) hx hb dX12_power_8 (by decide) (fun c1 => ?_) (fun c1 => ?_)
      · replace hv := y_br_t hv c1
        obtain ⟨t2, hq, ew⟩ := y_mp_e hv
        clear hv; subst ew
        replace kw5 : t2 = _ := kw5
        subst kw5
        have hv := hq
        clear hq
        refine lv_lload_n hx hb dX12_power_22 rfl (lv_at hl 2 rfl) ?_
        replace hv := Option.some.inj hv
        subst hv
        rw [← kv5]
        exact z_lret hc hB hr dX12_power_23
      · replace hv := y_br_f hv c1
        refine lv_lload_n hx hb dX12_power_11 rfl (lv_at hl 2 rfl) ?_
        refine lv_iload_n hx hb dX12_power_12 rfl (lv_at hl 0 rfl) ?_
        refine lv_i2l hx hb dX12_power_13 rfl ?_
        refine lv_lmul hx hb dX12_power_14 ?_
        obtain ⟨v3, ev3, hv⟩ := y_nm_e hv
        rw [← ev3]
        refine lv_lstore_n (lv' := [(3, .long v3), (1, .int x1), (2, .int x2), (5, .int x5)]) hx hb dX12_power_15 rfl hl (by decide) rfl (fun ls hl => ?_)
        obtain ⟨v4, ev4, hv⟩ := y_nm_e hv
        refine lv_iinc (v := v4) (lv' := [(5, .int v4), (3, .long v3), (1, .int x1), (2, .int x2)]) hx hb dX12_power_16 hl (k := 3) rfl (by rw [ev4]; rfl) (by decide) rfl (fun ls hl => ?_)
        refine lv_goto (tgt := 5) hx hb dX12_power_19 (by decide) ?_
        replace hv := Option.some.inj hv
        subst hv
        exact ih5 v3 v4 _ _ _ hB (lv_sub hl [2, 3, 1, 0] rfl) _ kw5 kv5
  rw [← kt] at hv
  refine lv_lconst (v := (1 : Int64)) hx hb dX12_power_0 (by decide) ?_
  refine lv_lstore_n (lv' := [(3, .long (1 : Int64)), (0, .ref (ad o0)), (1, .int x1), (2, .int x2)]) hx hb dX12_power_1 rfl hl (by decide) rfl (fun ls hl => ?_)
  refine lv_iconst (v := (0 : Int32)) hx hb dX12_power_2 (by decide) ?_
  refine lv_istore (lv' := [(5, .int (0 : Int32)), (3, .long (1 : Int64)), (0, .ref (ad o0)), (1, .int x1), (2, .int x2)]) hx hb dX12_power_3 hl (by decide) rfl (fun ls hl => ?_)
  obtain ⟨n, hv⟩ := y_lp_e hv
  exact L5 n (1 : Int64) (0 : Int32) _ _ _ hB (lv_sub hl [3, 4, 1, 0] rfl) _ hv kt
theorem dX12_allWeights_0 : decode cX12_allWeights 0 = .ok (.iconst 0, 1) := by decide +kernel
theorem dX12_allWeights_1 : decode cX12_allWeights 1 = .ok (.istore_n 1, 1) := by decide +kernel
theorem dX12_allWeights_2 : decode cX12_allWeights 2 = .ok (.iconst 0, 1) := by decide +kernel
theorem dX12_allWeights_3 : decode cX12_allWeights 3 = .ok (.istore_n 2, 1) := by decide +kernel
theorem dX12_allWeights_4 : decode cX12_allWeights 4 = .ok (.iload_n 2, 1) := by decide +kernel
theorem dX12_allWeights_5 : decode cX12_allWeights 5 = .ok (.aload_n 0, 1) := by decide +kernel
theorem dX12_allWeights_6 : decode cX12_allWeights 6 = .ok (.invokevirtual 253, 3) := by decide +kernel
theorem dX12_allWeights_9 : decode cX12_allWeights 9 = .ok (.if_icmp .ge 17, 3) := by decide +kernel
theorem dX12_allWeights_12 : decode cX12_allWeights 12 = .ok (.iload_n 1, 1) := by decide +kernel
theorem dX12_allWeights_13 : decode cX12_allWeights 13 = .ok (.aload_n 0, 1) := by decide +kernel
theorem dX12_allWeights_14 : decode cX12_allWeights 14 = .ok (.iload_n 2, 1) := by decide +kernel
theorem dX12_allWeights_15 : decode cX12_allWeights 15 = .ok (.invokevirtual 256, 3) := by decide +kernel
theorem dX12_allWeights_18 : decode cX12_allWeights 18 = .ok (.iadd, 1) := by decide +kernel
theorem dX12_allWeights_19 : decode cX12_allWeights 19 = .ok (.istore_n 1, 1) := by decide +kernel
theorem dX12_allWeights_20 : decode cX12_allWeights 20 = .ok (.iinc 2 1, 3) := by decide +kernel
theorem dX12_allWeights_23 : decode cX12_allWeights 23 = .ok (.goto (-19), 3) := by decide +kernel
theorem dX12_allWeights_26 : decode cX12_allWeights 26 = .ok (.iload_n 1, 1) := by decide +kernel
theorem dX12_allWeights_27 : decode cX12_allWeights 27 = .ok (.ireturn, 1) := by decide +kernel
abbrev rm_X12_allWeights : Room := { frames := 1, cells := 0, slots := 0, locals := 21 }
noncomputable def fX12_allWeights_b4_i (o0 : Nat) (h : z_T) (x1 : Int32) (x2 : Int32) : Option ((Int32 × Int32) ⊕ (Int32)) :=
  y_gd (z_ok h o0 11) <|
  y_bi (fX12_places o0 h) fun r2 =>
  y_br (r2 ≤ x2)
    (y_mp <|
    some x1)
    (y_bi (fX12_weightOf o0 x2 h) fun r10 =>
    y_nm ((x1 + r10)) fun v14 =>
    y_nm (x2 + 1) fun v15 =>
    some (.inl (v14, v15)))
noncomputable def fX12_allWeights_b4 (o0 : Nat) (x1 : Int32) (x2 : Int32) (h : z_T) : Option (Int32) := y_lp (fun q : Int32 × Int32 => fX12_allWeights_b4_i o0 h q.1 q.2) (x1, x2)
noncomputable def fX12_allWeights (o0 : Nat) (h : z_T) : Option (Int32) :=
  fX12_allWeights_b4 o0 (0 : Int32) (0 : Int32) h
set_option maxHeartbeats 4000000 in
set_option maxRecDepth 100000 in
theorem mm_X12_allWeights {G : z_Gt} {S : State → Prop} (hSK : z_SK S) (l : Launch) (ad : Nat → Nat) (o0 : Nat) (h : z_T) {r0 : Int32} (hv : fX12_allWeights o0 h = some r0) : z_Mi G S l yX12_allWeights cX12_allWeights 3 (.int) rm_X12_allWeights 0 0 [.ref (ad o0)] ad h h r0 := by
  refine z_ofW hSK (by decide) (Nat.le_of_ble_eq_true rfl) ?_
  intro p e s m args below meth c ls hc hr hnm hB hl
  have hx := hc.1.1
  have hb := hc.1.2.1
  have hown := hc.1.2.2.2.1
  have hts := hc.1.2.2.2.2
  replace hc : z_C G S ad (z_n h) p m c cX12_allWeights 3 s args RX12 meth := hc
  replace hown : s.vm.findClass RX12 = some m.cls := hown
  replace hl : lv_has ls 3 [(0, .ref (ad o0))] := hl
  show W p l e rm_X12_allWeights s m args below meth c s.heap [] 0 0 (MQ below (z_Qi G ad h (z_n h) s.heap.size r0) args s 0 0 (z_A ad (z_n h) s.heap.size)) (F0 m 0 ls [])
  obtain ⟨rs, kt⟩ : ∃ rs : Int32, rs = r0 := ⟨_, rfl⟩
  generalize hn0 : z_n h = n0 at hc hB ⊢
  have L4 : ∀ (nn4 : Nat) (x1 : Int32) (x2 : Int32) (H : Heap) (locs : List Loc) (ls : Array Slot), z_B G ad n0 s h H locs → lv_has ls 3 [(0, .ref (ad o0)), (1, .int x1), (2, .int x2)] → ∀ vv4, y_lpN (fun q : Int32 × Int32 => fX12_allWeights_b4_i o0 h q.1 q.2) nn4 (x1, x2) = some vv4 → vv4 = r0 → W p l e rm_X12_allWeights s m args below meth c H locs 0 0 (MQ below (z_Qi G ad h n0 s.heap.size r0) args s 0 0 (z_A ad n0 s.heap.size)) (F0 m 4 ls []) := by
    intro nn4
    induction nn4 with
    | zero => intro x1 x2 H locs ls hB hl vv4 hv kv4; exact absurd hv (fun q => y_lpN_0 q)
    | succ nn4 ih4 =>
      intro x1 x2 H locs ls hB hl vv4 hv kv4
      obtain ⟨w, hq, kw4⟩ := y_lpN_e hv
      clear hv
      have hv : fX12_allWeights_b4_i o0 h x1 x2 = some w := hq
      clear hq
      refine lv_iload_n hx hb dX12_allWeights_4 rfl (lv_at hl 2 rfl) ?_
      refine lv_aload_n hx hb dX12_allWeights_5 rfl (lv_at hl 0 rfl) ?_
      obtain ⟨g6, hv⟩ := y_gd_e hv
      obtain ⟨r2, c1, hv⟩ := y_bi_e hv
      refine z_thI hc hB (z_runV hc hB 11 (mm_X12_places hSK l ad o0 h c1) md_X12_places qmX12_253 g6 (by decide) rfl rfl rfl ⟨Nat.le_of_ble_eq_true rfl, Nat.le_of_ble_eq_true rfl⟩ rfl hl.1 rfl (Nat.le_of_ble_eq_true rfl) dX12_allWeights_6 ⟨Nat.le_of_ble_eq_true rfl, Nat.le_of_ble_eq_true rfl⟩) (fun H locs hB => ?_)
      refine lv_icmp_ge (tgt := 26) hx hb dX12_allWeights_9 (by decide) (fun c7 => ?_) (fun c7 => ?_)
      · replace hv := y_br_t hv c7
        obtain ⟨t8, hq, ew⟩ := y_mp_e hv
        clear hv; subst ew
        replace kw4 : t8 = _ := kw4
        subst kw4
        have hv := hq
        clear hq
        refine lv_iload_n hx hb dX12_allWeights_26 rfl (lv_at hl 1 rfl) ?_
        replace hv := Option.some.inj hv
        subst hv
        rw [← kv4]
        exact z_iret hc hB hr dX12_allWeights_27
      · replace hv := y_br_f hv c7
        refine lv_iload_n hx hb dX12_allWeights_12 rfl (lv_at hl 1 rfl) ?_
        refine lv_aload_n hx hb dX12_allWeights_13 rfl (lv_at hl 0 rfl) ?_
        refine lv_iload_n hx hb dX12_allWeights_14 rfl (lv_at hl 2 rfl) ?_
        obtain ⟨r10, c9, hv⟩ := y_bi_e hv
        refine z_thI hc hB (z_runV hc hB 11 (mm_X12_weightOf hSK l ad o0 x2 h c9) md_X12_weightOf qmX12_256 g6 (by decide) rfl rfl rfl ⟨Nat.le_of_ble_eq_true rfl, Nat.le_of_ble_eq_true rfl⟩ rfl hl.1 rfl (Nat.le_of_ble_eq_true rfl) dX12_allWeights_15 ⟨Nat.le_of_ble_eq_true rfl, Nat.le_of_ble_eq_true rfl⟩) (fun H locs hB => ?_)
        refine lv_iadd hx hb dX12_allWeights_18 ?_
        obtain ⟨v14, ev14, hv⟩ := y_nm_e hv
        rw [← ev14]
        refine lv_istore_n (lv' := [(1, .int v14), (0, .ref (ad o0)), (2, .int x2)]) hx hb dX12_allWeights_19 rfl hl (by decide) rfl (fun ls hl => ?_)
        obtain ⟨v15, ev15, hv⟩ := y_nm_e hv
        refine lv_iinc (v := v15) (lv' := [(2, .int v15), (1, .int v14), (0, .ref (ad o0))]) hx hb dX12_allWeights_20 hl (k := 2) rfl (by rw [ev15]; rfl) (by decide) rfl (fun ls hl => ?_)
        refine lv_goto (tgt := 4) hx hb dX12_allWeights_23 (by decide) ?_
        replace hv := Option.some.inj hv
        subst hv
        exact ih4 v14 v15 _ _ _ hB (lv_sub hl [2, 1, 0] rfl) _ kw4 kv4
  rw [← kt] at hv
  refine lv_iconst (v := (0 : Int32)) hx hb dX12_allWeights_0 (by decide) ?_
  refine lv_istore_n (lv' := [(1, .int (0 : Int32)), (0, .ref (ad o0))]) hx hb dX12_allWeights_1 rfl hl (by decide) rfl (fun ls hl => ?_)
  refine lv_iconst (v := (0 : Int32)) hx hb dX12_allWeights_2 (by decide) ?_
  refine lv_istore_n (lv' := [(2, .int (0 : Int32)), (1, .int (0 : Int32)), (0, .ref (ad o0))]) hx hb dX12_allWeights_3 rfl hl (by decide) rfl (fun ls hl => ?_)
  obtain ⟨n, hv⟩ := y_lp_e hv
  exact L4 n (0 : Int32) (0 : Int32) _ _ _ hB (lv_sub hl [2, 1, 0] rfl) _ hv kt
theorem qmX12_295 : Cond.methodLink RX12 295 yX12_lesser ∈ z_ws := List.mem_filter.mpr ⟨List.mem_append_right _ (List.mem_of_getElem? (i := 1680) (by decide +kernel)), rfl⟩
theorem qc_X12_lesser : Cond.code yX12_lesser cX12_lesser 4 (some .long) ∈ z_ws := List.mem_filter.mpr ⟨List.mem_append_right _ (List.mem_of_getElem? (i := 1682) (by decide +kernel)), rfl⟩
theorem qs_X12_lesser : Cond.static yX12_lesser ∈ z_ws := List.mem_filter.mpr ⟨List.mem_append_right _ (List.mem_of_getElem? (i := 1681) (by decide +kernel)), rfl⟩
theorem md_X12_lesser : z_mdS yX12_lesser cX12_lesser 4 (some .long) 2 := ⟨⟨qn_RX12, qc_X12_lesser, ⟨by decide +kernel, by decide +kernel, by decide +kernel⟩⟩, qs_X12_lesser⟩
theorem dX12_errorOf_0 : decode cX12_errorOf 0 = .ok (.iload_n 1, 1) := by decide +kernel
theorem dX12_errorOf_1 : decode cX12_errorOf 1 = .ok (.invokestatic 292, 3) := by decide +kernel
theorem dX12_errorOf_4 : decode cX12_errorOf 4 = .ok (.istore_n 2, 1) := by decide +kernel
theorem dX12_errorOf_5 : decode cX12_errorOf 5 = .ok (.lconst 0, 1) := by decide +kernel
theorem dX12_errorOf_6 : decode cX12_errorOf 6 = .ok (.lstore_n 3, 1) := by decide +kernel
theorem dX12_errorOf_7 : decode cX12_errorOf 7 = .ok (.iconst 0, 1) := by decide +kernel
theorem dX12_errorOf_8 : decode cX12_errorOf 8 = .ok (.istore 5, 2) := by decide +kernel
theorem dX12_errorOf_10 : decode cX12_errorOf 10 = .ok (.iload 5, 2) := by decide +kernel
theorem dX12_errorOf_12 : decode cX12_errorOf 12 = .ok (.iconst 1, 1) := by decide +kernel
theorem dX12_errorOf_13 : decode cX12_errorOf 13 = .ok (.iload_n 2, 1) := by decide +kernel
theorem dX12_errorOf_14 : decode cX12_errorOf 14 = .ok (.ishl, 1) := by decide +kernel
theorem dX12_errorOf_15 : decode cX12_errorOf 15 = .ok (.if_icmp .ge 157, 3) := by decide +kernel
theorem dX12_errorOf_18 : decode cX12_errorOf 18 = .ok (.lconst 0, 1) := by decide +kernel
theorem dX12_errorOf_19 : decode cX12_errorOf 19 = .ok (.lstore 6, 2) := by decide +kernel
theorem dX12_errorOf_21 : decode cX12_errorOf 21 = .ok (.lconst 0, 1) := by decide +kernel
theorem dX12_errorOf_22 : decode cX12_errorOf 22 = .ok (.lstore 8, 2) := by decide +kernel
theorem dX12_errorOf_24 : decode cX12_errorOf 24 = .ok (.iconst 0, 1) := by decide +kernel
theorem dX12_errorOf_25 : decode cX12_errorOf 25 = .ok (.istore 10, 2) := by decide +kernel
theorem dX12_errorOf_27 : decode cX12_errorOf 27 = .ok (.iload 10, 2) := by decide +kernel
theorem dX12_errorOf_29 : decode cX12_errorOf 29 = .ok (.aload_n 0, 1) := by decide +kernel
theorem dX12_errorOf_30 : decode cX12_errorOf 30 = .ok (.invokevirtual 253, 3) := by decide +kernel
theorem dX12_errorOf_33 : decode cX12_errorOf 33 = .ok (.if_icmp .ge 123, 3) := by decide +kernel
theorem dX12_errorOf_36 : decode cX12_errorOf 36 = .ok (.aload_n 0, 1) := by decide +kernel
theorem dX12_errorOf_37 : decode cX12_errorOf 37 = .ok (.iload 10, 2) := by decide +kernel
theorem dX12_errorOf_39 : decode cX12_errorOf 39 = .ok (.invokevirtual 256, 3) := by decide +kernel
theorem dX12_errorOf_42 : decode cX12_errorOf 42 = .ok (.i2l, 1) := by decide +kernel
theorem dX12_errorOf_43 : decode cX12_errorOf 43 = .ok (.lstore 11, 2) := by decide +kernel
theorem dX12_errorOf_45 : decode cX12_errorOf 45 = .ok (.iconst 0, 1) := by decide +kernel
theorem dX12_errorOf_46 : decode cX12_errorOf 46 = .ok (.istore 13, 2) := by decide +kernel
theorem dX12_errorOf_48 : decode cX12_errorOf 48 = .ok (.iconst 0, 1) := by decide +kernel
theorem dX12_errorOf_49 : decode cX12_errorOf 49 = .ok (.istore 14, 2) := by decide +kernel
theorem dX12_errorOf_51 : decode cX12_errorOf 51 = .ok (.iload 14, 2) := by decide +kernel
theorem dX12_errorOf_53 : decode cX12_errorOf 53 = .ok (.bipush 8, 2) := by decide +kernel
theorem dX12_errorOf_55 : decode cX12_errorOf 55 = .ok (.if_icmp .ge 63, 3) := by decide +kernel
theorem dX12_errorOf_58 : decode cX12_errorOf 58 = .ok (.iload_n 1, 1) := by decide +kernel
theorem dX12_errorOf_59 : decode cX12_errorOf 59 = .ok (.iload 14, 2) := by decide +kernel
theorem dX12_errorOf_61 : decode cX12_errorOf 61 = .ok (.invokestatic 210, 3) := by decide +kernel
theorem dX12_errorOf_64 : decode cX12_errorOf 64 = .ok (.ifCond .ne 6, 3) := by decide +kernel
theorem dX12_errorOf_67 : decode cX12_errorOf 67 = .ok (.goto 45, 3) := by decide +kernel
theorem dX12_errorOf_70 : decode cX12_errorOf 70 = .ok (.lload 11, 2) := by decide +kernel
theorem dX12_errorOf_72 : decode cX12_errorOf 72 = .ok (.iload 5, 2) := by decide +kernel
theorem dX12_errorOf_74 : decode cX12_errorOf 74 = .ok (.iload 13, 2) := by decide +kernel
theorem dX12_errorOf_76 : decode cX12_errorOf 76 = .ok (.invokestatic 210, 3) := by decide +kernel
theorem dX12_errorOf_79 : decode cX12_errorOf 79 = .ok (.ifCond .eq 15, 3) := by decide +kernel
theorem dX12_errorOf_82 : decode cX12_errorOf 82 = .ok (.aload_n 0, 1) := by decide +kernel
theorem dX12_errorOf_83 : decode cX12_errorOf 83 = .ok (.iload 10, 2) := by decide +kernel
theorem dX12_errorOf_85 : decode cX12_errorOf 85 = .ok (.iload 14, 2) := by decide +kernel
theorem dX12_errorOf_87 : decode cX12_errorOf 87 = .ok (.invokevirtual 250, 3) := by decide +kernel
theorem dX12_errorOf_90 : decode cX12_errorOf 90 = .ok (.i2l, 1) := by decide +kernel
theorem dX12_errorOf_91 : decode cX12_errorOf 91 = .ok (.goto 15, 3) := by decide +kernel
theorem dX12_errorOf_94 : decode cX12_errorOf 94 = .ok (.bipush 9, 2) := by decide +kernel
theorem dX12_errorOf_96 : decode cX12_errorOf 96 = .ok (.aload_n 0, 1) := by decide +kernel
theorem dX12_errorOf_97 : decode cX12_errorOf 97 = .ok (.iload 10, 2) := by decide +kernel
theorem dX12_errorOf_99 : decode cX12_errorOf 99 = .ok (.iload 14, 2) := by decide +kernel
theorem dX12_errorOf_101 : decode cX12_errorOf 101 = .ok (.invokevirtual 250, 3) := by decide +kernel
theorem dX12_errorOf_104 : decode cX12_errorOf 104 = .ok (.isub, 1) := by decide +kernel
theorem dX12_errorOf_105 : decode cX12_errorOf 105 = .ok (.i2l, 1) := by decide +kernel
theorem dX12_errorOf_106 : decode cX12_errorOf 106 = .ok (.lmul, 1) := by decide +kernel
theorem dX12_errorOf_107 : decode cX12_errorOf 107 = .ok (.lstore 11, 2) := by decide +kernel
theorem dX12_errorOf_109 : decode cX12_errorOf 109 = .ok (.iinc 13 1, 3) := by decide +kernel
theorem dX12_errorOf_112 : decode cX12_errorOf 112 = .ok (.iinc 14 1, 3) := by decide +kernel
theorem dX12_errorOf_115 : decode cX12_errorOf 115 = .ok (.goto (-64), 3) := by decide +kernel
theorem dX12_errorOf_118 : decode cX12_errorOf 118 = .ok (.lload 6, 2) := by decide +kernel
theorem dX12_errorOf_120 : decode cX12_errorOf 120 = .ok (.iload 10, 2) := by decide +kernel
theorem dX12_errorOf_122 : decode cX12_errorOf 122 = .ok (.ifCond .ne 8, 3) := by decide +kernel
theorem dX12_errorOf_125 : decode cX12_errorOf 125 = .ok (.lload 11, 2) := by decide +kernel
theorem dX12_errorOf_127 : decode cX12_errorOf 127 = .ok (.goto 4, 3) := by decide +kernel
theorem dX12_errorOf_130 : decode cX12_errorOf 130 = .ok (.lconst 0, 1) := by decide +kernel
theorem dX12_errorOf_131 : decode cX12_errorOf 131 = .ok (.ladd, 1) := by decide +kernel
theorem dX12_errorOf_132 : decode cX12_errorOf 132 = .ok (.lstore 6, 2) := by decide +kernel
theorem dX12_errorOf_134 : decode cX12_errorOf 134 = .ok (.lload 8, 2) := by decide +kernel
theorem dX12_errorOf_136 : decode cX12_errorOf 136 = .ok (.iload 10, 2) := by decide +kernel
theorem dX12_errorOf_138 : decode cX12_errorOf 138 = .ok (.ifCond .le 8, 3) := by decide +kernel
theorem dX12_errorOf_141 : decode cX12_errorOf 141 = .ok (.lload 11, 2) := by decide +kernel
theorem dX12_errorOf_143 : decode cX12_errorOf 143 = .ok (.goto 4, 3) := by decide +kernel
theorem dX12_errorOf_146 : decode cX12_errorOf 146 = .ok (.lconst 0, 1) := by decide +kernel
theorem dX12_errorOf_147 : decode cX12_errorOf 147 = .ok (.ladd, 1) := by decide +kernel
theorem dX12_errorOf_148 : decode cX12_errorOf 148 = .ok (.lstore 8, 2) := by decide +kernel
theorem dX12_errorOf_150 : decode cX12_errorOf 150 = .ok (.iinc 10 1, 3) := by decide +kernel
theorem dX12_errorOf_153 : decode cX12_errorOf 153 = .ok (.goto (-126), 3) := by decide +kernel
theorem dX12_errorOf_156 : decode cX12_errorOf 156 = .ok (.lload_n 3, 1) := by decide +kernel
theorem dX12_errorOf_157 : decode cX12_errorOf 157 = .ok (.lload 6, 2) := by decide +kernel
theorem dX12_errorOf_159 : decode cX12_errorOf 159 = .ok (.lload 8, 2) := by decide +kernel
theorem dX12_errorOf_161 : decode cX12_errorOf 161 = .ok (.invokestatic 295, 3) := by decide +kernel
theorem dX12_errorOf_164 : decode cX12_errorOf 164 = .ok (.ladd, 1) := by decide +kernel
theorem dX12_errorOf_165 : decode cX12_errorOf 165 = .ok (.lstore_n 3, 1) := by decide +kernel
theorem dX12_errorOf_166 : decode cX12_errorOf 166 = .ok (.iinc 5 1, 3) := by decide +kernel
theorem dX12_errorOf_169 : decode cX12_errorOf 169 = .ok (.goto (-159), 3) := by decide +kernel
theorem dX12_errorOf_172 : decode cX12_errorOf 172 = .ok (.lload_n 3, 1) := by decide +kernel
theorem dX12_errorOf_173 : decode cX12_errorOf 173 = .ok (.lreturn, 1) := by decide +kernel
abbrev rm_X12_errorOf : Room := { frames := 2, cells := 0, slots := 0, locals := 43 }
noncomputable def fX12_errorOf_b147 (o0 : Nat) (x1 : Int32) (x2 : Int32) (l3 : Int64) (x5 : Int32) (l6 : Int64) (x10 : Int32) (s0 : Int64) (s1 : Int64) (h : z_T) : Option ((Int64 × Int64 × Int32) ⊕ ((Int64 × Int32) ⊕ (Int64))) :=
  y_nm ((s0 + s1)) fun v1 =>
  y_nm (x10 + 1) fun v2 =>
  some (.inl (l6, v1, v2))
noncomputable def fX12_errorOf_b131 (o0 : Nat) (x1 : Int32) (x2 : Int32) (l3 : Int64) (x5 : Int32) (l8 : Int64) (x10 : Int32) (l11 : Int64) (s0 : Int64) (s1 : Int64) (h : z_T) : Option ((Int64 × Int64 × Int32) ⊕ ((Int64 × Int32) ⊕ (Int64))) :=
  y_nm ((s0 + s1)) fun v3 =>
  y_br (x10 ≤ 0)
    (fX12_errorOf_b147 o0 x1 x2 l3 x5 v3 x10 l8 (0 : Int64) h)
    (fX12_errorOf_b147 o0 x1 x2 l3 x5 v3 x10 l8 l11 h)
noncomputable def fX12_errorOf_b112 (o0 : Nat) (x1 : Int32) (x2 : Int32) (l3 : Int64) (x5 : Int32) (l6 : Int64) (l8 : Int64) (x10 : Int32) (l11 : Int64) (x13 : Int32) (x14 : Int32) (h : z_T) : Option ((Int64 × Int32 × Int32) ⊕ ((Int64 × Int64 × Int32) ⊕ ((Int64 × Int32) ⊕ (Int64)))) :=
  y_nm (x14 + 1) fun v5 =>
  some (.inl (l11, x13, v5))
noncomputable def fX12_errorOf_b106 (o0 : Nat) (x1 : Int32) (x2 : Int32) (l3 : Int64) (x5 : Int32) (l6 : Int64) (l8 : Int64) (x10 : Int32) (x13 : Int32) (x14 : Int32) (s0 : Int64) (s1 : Int64) (h : z_T) : Option ((Int64 × Int32 × Int32) ⊕ ((Int64 × Int64 × Int32) ⊕ ((Int64 × Int32) ⊕ (Int64)))) :=
  y_nm ((s0 * s1)) fun v6 =>
  y_nm (x13 + 1) fun v7 =>
  fX12_errorOf_b112 o0 x1 x2 l3 x5 l6 l8 x10 v6 v7 x14 h
noncomputable def fX12_errorOf_b51_i (o0 : Nat) (x1 : Int32) (x2 : Int32) (l3 : Int64) (x5 : Int32) (l6 : Int64) (l8 : Int64) (x10 : Int32) (h : z_T) (l11 : Int64) (x13 : Int32) (x14 : Int32) : Option ((Int64 × Int32 × Int32) ⊕ ((Int64 × Int64 × Int32) ⊕ ((Int64 × Int32) ⊕ (Int64)))) :=
  y_br ((8 : Int32) ≤ x14)
    (y_mp <|
    y_br (x10 = 0)
      (fX12_errorOf_b131 o0 x1 x2 l3 x5 l8 x10 l11 l6 l11 h)
      (fX12_errorOf_b131 o0 x1 x2 l3 x5 l8 x10 l11 l6 (0 : Int64) h))
    (y_bi (fX12_bitOf x1 x14) fun r12 =>
    y_br (r12 = 0)
      (fX12_errorOf_b112 o0 x1 x2 l3 x5 l6 l8 x10 l11 x13 x14 h)
      (y_bi (fX12_bitOf x5 x13) fun r18 =>
      y_br (r18 = 0)
        (y_gd (z_ok h o0 11) <|
        y_bi (fX12_plain o0 x10 x14 h) fun r24 =>
        fX12_errorOf_b106 o0 x1 x2 l3 x5 l6 l8 x10 x13 x14 l11 ((((9 : Int32) - r24)).toInt64) h)
        (y_gd (z_ok h o0 11) <|
        y_bi (fX12_plain o0 x10 x14 h) fun r30 =>
        fX12_errorOf_b106 o0 x1 x2 l3 x5 l6 l8 x10 x13 x14 l11 ((r30).toInt64) h)))
noncomputable def fX12_errorOf_b51 (o0 : Nat) (x1 : Int32) (x2 : Int32) (l3 : Int64) (x5 : Int32) (l6 : Int64) (l8 : Int64) (x10 : Int32) (l11 : Int64) (x13 : Int32) (x14 : Int32) (h : z_T) : Option ((Int64 × Int64 × Int32) ⊕ ((Int64 × Int32) ⊕ (Int64))) := y_lp (fun q : Int64 × Int32 × Int32 => fX12_errorOf_b51_i o0 x1 x2 l3 x5 l6 l8 x10 h q.1 q.2.1 q.2.2) (l11, x13, x14)
noncomputable def fX12_errorOf_b27_i (o0 : Nat) (x1 : Int32) (x2 : Int32) (l3 : Int64) (x5 : Int32) (h : z_T) (l6 : Int64) (l8 : Int64) (x10 : Int32) : Option ((Int64 × Int64 × Int32) ⊕ ((Int64 × Int32) ⊕ (Int64))) :=
  y_gd (z_ok h o0 11) <|
  y_bi (fX12_places o0 h) fun r36 =>
  y_br (r36 ≤ x10)
    (y_mp <|
    y_bi (fX12_lesser l6 l8) fun r45 =>
    y_nm ((l3 + r45)) fun v48 =>
    y_nm (x5 + 1) fun v49 =>
    some (.inl (v48, v49)))
    (y_bi (fX12_weightOf o0 x10 h) fun r51 =>
    y_nm ((r51).toInt64) fun v55 =>
    fX12_errorOf_b51 o0 x1 x2 l3 x5 l6 l8 x10 v55 (0 : Int32) (0 : Int32) h)
noncomputable def fX12_errorOf_b27 (o0 : Nat) (x1 : Int32) (x2 : Int32) (l3 : Int64) (x5 : Int32) (l6 : Int64) (l8 : Int64) (x10 : Int32) (h : z_T) : Option ((Int64 × Int32) ⊕ (Int64)) := y_lp (fun q : Int64 × Int64 × Int32 => fX12_errorOf_b27_i o0 x1 x2 l3 x5 h q.1 q.2.1 q.2.2) (l6, l8, x10)
noncomputable def fX12_errorOf_b10_i (o0 : Nat) (x1 : Int32) (x2 : Int32) (h : z_T) (l3 : Int64) (x5 : Int32) : Option ((Int64 × Int32) ⊕ (Int64)) :=
  y_br (((1 : Int32) <<< (x2 &&& 31)) ≤ x5)
    (y_mp <|
    some l3)
    (fX12_errorOf_b27 o0 x1 x2 l3 x5 (0 : Int64) (0 : Int64) (0 : Int32) h)
noncomputable def fX12_errorOf_b10 (o0 : Nat) (x1 : Int32) (x2 : Int32) (l3 : Int64) (x5 : Int32) (h : z_T) : Option (Int64) := y_lp (fun q : Int64 × Int32 => fX12_errorOf_b10_i o0 x1 x2 h q.1 q.2) (l3, x5)
noncomputable def fX12_errorOf (o0 : Nat) (x1 : Int32) (h : z_T) : Option (Int64) :=
  y_bi (fX12_bits x1) fun r59 =>
  fX12_errorOf_b10 o0 x1 r59 (0 : Int64) (0 : Int32) h
set_option maxHeartbeats 4000000 in
set_option maxRecDepth 100000 in
theorem mm_X12_errorOf {G : z_Gt} {S : State → Prop} (hSK : z_SK S) (l : Launch) (ad : Nat → Nat) (o0 : Nat) (x1 : Int32) (h : z_T) {r0 : Int64} (hv : fX12_errorOf o0 x1 h = some r0) : z_Ml G S l yX12_errorOf cX12_errorOf 15 (.long) rm_X12_errorOf 0 0 [.ref (ad o0), .int x1] ad h h r0 := by
  refine z_ofW hSK (by decide) (Nat.le_of_ble_eq_true rfl) ?_
  intro p e s m args below meth c ls hc hr hnm hB hl
  have hx := hc.1.1
  have hb := hc.1.2.1
  have hown := hc.1.2.2.2.1
  have hts := hc.1.2.2.2.2
  replace hc : z_C G S ad (z_n h) p m c cX12_errorOf 15 s args RX12 meth := hc
  replace hown : s.vm.findClass RX12 = some m.cls := hown
  replace hl : lv_has ls 15 [(0, .ref (ad o0)), (1, .int x1)] := hl
  show W p l e rm_X12_errorOf s m args below meth c s.heap [] 0 0 (MQ below (z_Ql G ad h (z_n h) s.heap.size r0) args s 0 0 (z_A ad (z_n h) s.heap.size)) (F0 m 0 ls [])
  obtain ⟨rs, kt⟩ : ∃ rs : Int64, rs = r0 := ⟨_, rfl⟩
  generalize hn0 : z_n h = n0 at hc hB ⊢
  have L10 : ∀ (x2 : Int32) (nn10 : Nat) (l3 : Int64) (x5 : Int32) (H : Heap) (locs : List Loc) (ls : Array Slot), z_B G ad n0 s h H locs → lv_has ls 15 [(0, .ref (ad o0)), (1, .int x1), (2, .int x2), (3, .long l3), (5, .int x5)] → ∀ vv10, y_lpN (fun q : Int64 × Int32 => fX12_errorOf_b10_i o0 x1 x2 h q.1 q.2) nn10 (l3, x5) = some vv10 → vv10 = r0 → W p l e rm_X12_errorOf s m args below meth c H locs 0 0 (MQ below (z_Ql G ad h n0 s.heap.size r0) args s 0 0 (z_A ad n0 s.heap.size)) (F0 m 10 ls []) := by
    intro x2 nn10
    induction nn10 with
    | zero => intro l3 x5 H locs ls hB hl vv10 hv kv10; exact absurd hv (fun q => y_lpN_0 q)
    | succ nn10 ih10 =>
      intro l3 x5 H locs ls hB hl vv10 hv kv10
      obtain ⟨w, hq, kw10⟩ := y_lpN_e hv
      clear hv
      have hv : fX12_errorOf_b10_i o0 x1 x2 h l3 x5 = some w := hq
      clear hq
      have L27 : ∀ (l3 : Int64) (x5 : Int32) (nn27 : Nat) (l6 : Int64) (l8 : Int64) (x10 : Int32) (H : Heap) (locs : List Loc) (ls : Array Slot), z_B G ad n0 s h H locs → lv_has ls 15 [(0, .ref (ad o0)), (1, .int x1), (2, .int x2), (3, .long l3), (5, .int x5), (6, .long l6), (8, .long l8), (10, .int x10)] → ∀ vv27, y_lpN (fun q : Int64 × Int64 × Int32 => fX12_errorOf_b27_i o0 x1 x2 l3 x5 h q.1 q.2.1 q.2.2) nn27 (l6, l8, x10) = some vv27 → y_lq (fun q : Int64 × Int32 => fX12_errorOf_b10_i o0 x1 x2 h q.1 q.2) nn10 vv10 vv27 → W p l e rm_X12_errorOf s m args below meth c H locs 0 0 (MQ below (z_Ql G ad h n0 s.heap.size r0) args s 0 0 (z_A ad n0 s.heap.size)) (F0 m 27 ls []) := by
        intro l3 x5 nn27
        induction nn27 with
        | zero => intro l6 l8 x10 H locs ls hB hl vv27 hv kv27; exact absurd hv (fun q => y_lpN_0 q)
        | succ nn27 ih27 =>
          intro l6 l8 x10 H locs ls hB hl vv27 hv kv27
          obtain ⟨w, hq, kw27⟩ := y_lpN_e hv
          clear hv
          have hv : fX12_errorOf_b27_i o0 x1 x2 l3 x5 h l6 l8 x10 = some w := hq
          clear hq
          have b147 : ∀ (l6 : Int64) (x10 : Int32) (s0 : Int64) (s1 : Int64) (H : Heap) (locs : List Loc) (ls : Array Slot), z_B G ad n0 s h H locs → lv_has ls 15 [(0, .ref (ad o0)), (1, .int x1), (2, .int x2), (3, .long l3), (5, .int x5), (6, .long l6), (10, .int x10)] → ∀ w, fX12_errorOf_b147 o0 x1 x2 l3 x5 l6 x10 s0 s1 h = some w → y_lq (fun q : Int64 × Int64 × Int32 => fX12_errorOf_b27_i o0 x1 x2 l3 x5 h q.1 q.2.1 q.2.2) nn27 vv27 w → W p l e rm_X12_errorOf s m args below meth c H locs 0 0 (MQ below (z_Ql G ad h n0 s.heap.size r0) args s 0 0 (z_A ad n0 s.heap.size)) (F0 m 147 ls [.long s1, .long s0]) := by
            intro l6 x10 s0 s1 H locs ls hB hl w hv kw27
            refine lv_ladd hx hb dX12_errorOf_147 ?_
            obtain ⟨v1, ev1, hv⟩ := y_nm_e hv
            rw [← ev1]
            refine lv_lstore (lv' := [(8, .long v1), (0, .ref (ad o0)), (1, .int x1), (2, .int x2), (3, .long l3), (5, .int x5), (6, .long l6), (10, .int x10)]) hx hb dX12_errorOf_148 hl (by decide) rfl (fun ls hl => ?_)
            obtain ⟨v2, ev2, hv⟩ := y_nm_e hv
            refine lv_iinc (v := v2) (lv' := [(10, .int v2), (8, .long v1), (0, .ref (ad o0)), (1, .int x1), (2, .int x2), (3, .long l3), (5, .int x5), (6, .long l6)]) hx hb dX12_errorOf_150 hl (k := 7) rfl (by rw [ev2]; rfl) (by decide) rfl (fun ls hl => ?_)
            refine lv_goto (tgt := 27) hx hb dX12_errorOf_153 (by decide) ?_
            replace hv := Option.some.inj hv
            subst hv
            exact ih27 l6 v1 v2 _ _ _ hB (lv_sub hl [2, 3, 4, 5, 6, 7, 1, 0] rfl) _ kw27 kv27
          have b131 : ∀ (l8 : Int64) (x10 : Int32) (l11 : Int64) (s0 : Int64) (s1 : Int64) (H : Heap) (locs : List Loc) (ls : Array Slot), z_B G ad n0 s h H locs → lv_has ls 15 [(0, .ref (ad o0)), (1, .int x1), (2, .int x2), (3, .long l3), (5, .int x5), (8, .long l8), (10, .int x10), (11, .long l11)] → ∀ w, fX12_errorOf_b131 o0 x1 x2 l3 x5 l8 x10 l11 s0 s1 h = some w → y_lq (fun q : Int64 × Int64 × Int32 => fX12_errorOf_b27_i o0 x1 x2 l3 x5 h q.1 q.2.1 q.2.2) nn27 vv27 w → W p l e rm_X12_errorOf s m args below meth c H locs 0 0 (MQ below (z_Ql G ad h n0 s.heap.size r0) args s 0 0 (z_A ad n0 s.heap.size)) (F0 m 131 ls [.long s1, .long s0]) := by
            intro l8 x10 l11 s0 s1 H locs ls hB hl w hv kw27
            refine lv_ladd hx hb dX12_errorOf_131 ?_
            obtain ⟨v3, ev3, hv⟩ := y_nm_e hv
            rw [← ev3]
            refine lv_lstore (lv' := [(6, .long v3), (0, .ref (ad o0)), (1, .int x1), (2, .int x2), (3, .long l3), (5, .int x5), (8, .long l8), (10, .int x10), (11, .long l11)]) hx hb dX12_errorOf_132 hl (by decide) rfl (fun ls hl => ?_)
            refine lv_lload hx hb dX12_errorOf_134 (lv_at hl 6 rfl) ?_
            refine lv_iload hx hb dX12_errorOf_136 (lv_at hl 7 rfl) ?_
            refine lv_if_le (tgt := 146) hx hb dX12_errorOf_138 (by decide) (fun c4 => ?_) (fun c4 => ?_)
            · replace hv := y_br_t hv c4
              refine lv_lconst (v := (0 : Int64)) hx hb dX12_errorOf_146 (by decide) ?_
              exact b147 v3 x10 l8 (0 : Int64) _ _ _ hB (lv_sub hl [1, 2, 3, 4, 5, 0, 7] rfl) _ hv kw27
            · replace hv := y_br_f hv c4
              refine lv_lload hx hb dX12_errorOf_141 (lv_at hl 8 rfl) ?_
              refine lv_goto (tgt := 147) hx hb dX12_errorOf_143 (by decide) ?_
              exact b147 v3 x10 l8 l11 _ _ _ hB (lv_sub hl [1, 2, 3, 4, 5, 0, 7] rfl) _ hv kw27
          have L51 : ∀ (l6 : Int64) (l8 : Int64) (x10 : Int32) (nn51 : Nat) (l11 : Int64) (x13 : Int32) (x14 : Int32) (H : Heap) (locs : List Loc) (ls : Array Slot), z_B G ad n0 s h H locs → lv_has ls 15 [(0, .ref (ad o0)), (1, .int x1), (2, .int x2), (3, .long l3), (5, .int x5), (6, .long l6), (8, .long l8), (10, .int x10), (11, .long l11), (13, .int x13), (14, .int x14)] → ∀ vv51, y_lpN (fun q : Int64 × Int32 × Int32 => fX12_errorOf_b51_i o0 x1 x2 l3 x5 l6 l8 x10 h q.1 q.2.1 q.2.2) nn51 (l11, x13, x14) = some vv51 → y_lq (fun q : Int64 × Int64 × Int32 => fX12_errorOf_b27_i o0 x1 x2 l3 x5 h q.1 q.2.1 q.2.2) nn27 vv27 vv51 → W p l e rm_X12_errorOf s m args below meth c H locs 0 0 (MQ below (z_Ql G ad h n0 s.heap.size r0) args s 0 0 (z_A ad n0 s.heap.size)) (F0 m 51 ls []) := by
            intro l6 l8 x10 nn51
            induction nn51 with
            | zero => intro l11 x13 x14 H locs ls hB hl vv51 hv kv51; exact absurd hv (fun q => y_lpN_0 q)
            | succ nn51 ih51 =>
              intro l11 x13 x14 H locs ls hB hl vv51 hv kv51
              obtain ⟨w, hq, kw51⟩ := y_lpN_e hv
              clear hv
              have hv : fX12_errorOf_b51_i o0 x1 x2 l3 x5 l6 l8 x10 h l11 x13 x14 = some w := hq
              clear hq
              have b112 : ∀ (l11 : Int64) (x13 : Int32) (x14 : Int32) (H : Heap) (locs : List Loc) (ls : Array Slot), z_B G ad n0 s h H locs → lv_has ls 15 [(0, .ref (ad o0)), (1, .int x1), (2, .int x2), (3, .long l3), (5, .int x5), (6, .long l6), (8, .long l8), (10, .int x10), (11, .long l11), (13, .int x13), (14, .int x14)] → ∀ w, fX12_errorOf_b112 o0 x1 x2 l3 x5 l6 l8 x10 l11 x13 x14 h = some w → y_lq (fun q : Int64 × Int32 × Int32 => fX12_errorOf_b51_i o0 x1 x2 l3 x5 l6 l8 x10 h q.1 q.2.1 q.2.2) nn51 vv51 w → W p l e rm_X12_errorOf s m args below meth c H locs 0 0 (MQ below (z_Ql G ad h n0 s.heap.size r0) args s 0 0 (z_A ad n0 s.heap.size)) (F0 m 112 ls []) := by
                intro l11 x13 x14 H locs ls hB hl w hv kw51
                obtain ⟨v5, ev5, hv⟩ := y_nm_e hv
                refine lv_iinc (v := v5) (lv' := [(14, .int v5), (0, .ref (ad o0)), (1, .int x1), (2, .int x2), (3, .long l3), (5, .int x5), (6, .long l6), (8, .long l8), (10, .int x10), (11, .long l11), (13, .int x13)]) hx hb dX12_errorOf_112 hl (k := 10) rfl (by rw [ev5]; rfl) (by decide) rfl (fun ls hl => ?_)
                refine lv_goto (tgt := 51) hx hb dX12_errorOf_115 (by decide) ?_
                replace hv := Option.some.inj hv
                subst hv
                exact ih51 l11 x13 v5 _ _ _ hB (lv_sub hl [1, 2, 3, 4, 5, 6, 7, 8, 9, 10, 0] rfl) _ kw51 kv51
              have b106 : ∀ (x13 : Int32) (x14 : Int32) (s0 : Int64) (s1 : Int64) (H : Heap) (locs : List Loc) (ls : Array Slot), z_B G ad n0 s h H locs → lv_has ls 15 [(0, .ref (ad o0)), (1, .int x1), (2, .int x2), (3, .long l3), (5, .int x5), (6, .long l6), (8, .long l8), (10, .int x10), (13, .int x13), (14, .int x14)] → ∀ w, fX12_errorOf_b106 o0 x1 x2 l3 x5 l6 l8 x10 x13 x14 s0 s1 h = some w → y_lq (fun q : Int64 × Int32 × Int32 => fX12_errorOf_b51_i o0 x1 x2 l3 x5 l6 l8 x10 h q.1 q.2.1 q.2.2) nn51 vv51 w → W p l e rm_X12_errorOf s m args below meth c H locs 0 0 (MQ below (z_Ql G ad h n0 s.heap.size r0) args s 0 0 (z_A ad n0 s.heap.size)) (F0 m 106 ls [.long s1, .long s0]) := by
                intro x13 x14 s0 s1 H locs ls hB hl w hv kw51
                refine lv_lmul hx hb dX12_errorOf_106 ?_
                obtain ⟨v6, ev6, hv⟩ := y_nm_e hv
                rw [← ev6]
                refine lv_lstore (lv' := [(11, .long v6), (0, .ref (ad o0)), (1, .int x1), (2, .int x2), (3, .long l3), (5, .int x5), (6, .long l6), (8, .long l8), (10, .int x10), (13, .int x13), (14, .int x14)]) hx hb dX12_errorOf_107 hl (by decide) rfl (fun ls hl => ?_)
                obtain ⟨v7, ev7, hv⟩ := y_nm_e hv
                refine lv_iinc (v := v7) (lv' := [(13, .int v7), (11, .long v6), (0, .ref (ad o0)), (1, .int x1), (2, .int x2), (3, .long l3), (5, .int x5), (6, .long l6), (8, .long l8), (10, .int x10), (14, .int x14)]) hx hb dX12_errorOf_109 hl (k := 9) rfl (by rw [ev7]; rfl) (by decide) rfl (fun ls hl => ?_)
                exact b112 v6 v7 x14 _ _ _ hB (lv_sub hl [2, 3, 4, 5, 6, 7, 8, 9, 1, 0, 10] rfl) _ hv kw51
              refine lv_iload hx hb dX12_errorOf_51 (lv_at hl 10 rfl) ?_
              refine lv_bipush (v := (8 : Int32)) hx hb dX12_errorOf_53 (by decide) ?_
              refine lv_icmp_ge (tgt := 118) hx hb dX12_errorOf_55 (by decide) (fun c8 => ?_) (fun c8 => ?_)
              · replace hv := y_br_t hv c8
                obtain ⟨t9, hq, ew⟩ := y_mp_e hv
                clear hv; subst ew
                replace kw51 : t9 = _ := kw51
                subst kw51
                have hv := hq
                clear hq
                refine lv_lload hx hb dX12_errorOf_118 (lv_at hl 5 rfl) ?_
                refine lv_iload hx hb dX12_errorOf_120 (lv_at hl 7 rfl) ?_
                refine lv_if_ne (tgt := 130) hx hb dX12_errorOf_122 (by decide) (fun c10 => ?_) (fun c10 => ?_)
                · replace hv := y_br_f hv c10
                  refine lv_lconst (v := (0 : Int64)) hx hb dX12_errorOf_130 (by decide) ?_
                  exact b131 l8 x10 l11 l6 (0 : Int64) _ _ _ hB (lv_sub hl [0, 1, 2, 3, 4, 6, 7, 8] rfl) _ hv kv51
                · replace hv := y_br_t hv c10
                  refine lv_lload hx hb dX12_errorOf_125 (lv_at hl 8 rfl) ?_
                  refine lv_goto (tgt := 131) hx hb dX12_errorOf_127 (by decide) ?_
                  exact b131 l8 x10 l11 l6 l11 _ _ _ hB (lv_sub hl [0, 1, 2, 3, 4, 6, 7, 8] rfl) _ hv kv51
              · replace hv := y_br_f hv c8
                refine lv_iload_n hx hb dX12_errorOf_58 rfl (lv_at hl 1 rfl) ?_
                refine lv_iload hx hb dX12_errorOf_59 (lv_at hl 10 rfl) ?_
                obtain ⟨r12, c11, hv⟩ := y_bi_e hv
                refine z_thI hc hB (z_runS hc hB (mm_X12_bitOf hSK l ad x1 x14 h c11) md_X12_bitOf qmX12_210 rfl rfl ⟨Nat.le_of_ble_eq_true rfl, Nat.le_of_ble_eq_true rfl⟩ rfl hl.1 rfl (Nat.le_of_ble_eq_true rfl) dX12_errorOf_61 ⟨Nat.le_of_ble_eq_true rfl, Nat.le_of_ble_eq_true rfl⟩) (fun H locs hB => ?_)
                refine lv_if_ne (tgt := 70) hx hb dX12_errorOf_64 (by decide) (fun c16 => ?_) (fun c16 => ?_)
                · replace hv := y_br_f hv c16
                  refine lv_lload hx hb dX12_errorOf_70 (lv_at hl 8 rfl) ?_
                  refine lv_iload hx hb dX12_errorOf_72 (lv_at hl 4 rfl) ?_
                  refine lv_iload hx hb dX12_errorOf_74 (lv_at hl 9 rfl) ?_
                  obtain ⟨r18, c17, hv⟩ := y_bi_e hv
                  refine z_thI hc hB (z_runS hc hB (mm_X12_bitOf hSK l ad x5 x13 h c17) md_X12_bitOf qmX12_210 rfl rfl ⟨Nat.le_of_ble_eq_true rfl, Nat.le_of_ble_eq_true rfl⟩ rfl hl.1 rfl (Nat.le_of_ble_eq_true rfl) dX12_errorOf_76 ⟨Nat.le_of_ble_eq_true rfl, Nat.le_of_ble_eq_true rfl⟩) (fun H locs hB => ?_)
                  refine lv_if_eq (tgt := 94) hx hb dX12_errorOf_79 (by decide) (fun c22 => ?_) (fun c22 => ?_)
                  · replace hv := y_br_t hv c22
                    refine lv_bipush (v := (9 : Int32)) hx hb dX12_errorOf_94 (by decide) ?_
                    refine lv_aload_n hx hb dX12_errorOf_96 rfl (lv_at hl 0 rfl) ?_
                    refine lv_iload hx hb dX12_errorOf_97 (lv_at hl 7 rfl) ?_
                    refine lv_iload hx hb dX12_errorOf_99 (lv_at hl 10 rfl) ?_
                    obtain ⟨g28, hv⟩ := y_gd_e hv
                    obtain ⟨r24, c23, hv⟩ := y_bi_e hv
                    refine z_thI hc hB (z_runV hc hB 11 (mm_X12_plain hSK l ad o0 x10 x14 h c23) md_X12_plain qmX12_250 g28 (by decide) rfl rfl rfl ⟨Nat.le_of_ble_eq_true rfl, Nat.le_of_ble_eq_true rfl⟩ rfl hl.1 rfl (Nat.le_of_ble_eq_true rfl) dX12_errorOf_101 ⟨Nat.le_of_ble_eq_true rfl, Nat.le_of_ble_eq_true rfl⟩) (fun H locs hB => ?_)
                    refine lv_isub hx hb dX12_errorOf_104 ?_
                    refine lv_i2l hx hb dX12_errorOf_105 rfl ?_
                    exact b106 x13 x14 l11 ((((9 : Int32) - r24)).toInt64) _ _ _ hB (lv_sub hl [0, 1, 2, 3, 4, 5, 6, 7, 9, 10] rfl) _ hv kw51
                  · replace hv := y_br_f hv c22
                    refine lv_aload_n hx hb dX12_errorOf_82 rfl (lv_at hl 0 rfl) ?_
                    refine lv_iload hx hb dX12_errorOf_83 (lv_at hl 7 rfl) ?_
                    refine lv_iload hx hb dX12_errorOf_85 (lv_at hl 10 rfl) ?_
                    obtain ⟨g34, hv⟩ := y_gd_e hv
                    obtain ⟨r30, c29, hv⟩ := y_bi_e hv
                    refine z_thI hc hB (z_runV hc hB 11 (mm_X12_plain hSK l ad o0 x10 x14 h c29) md_X12_plain qmX12_250 g34 (by decide) rfl rfl rfl ⟨Nat.le_of_ble_eq_true rfl, Nat.le_of_ble_eq_true rfl⟩ rfl hl.1 rfl (Nat.le_of_ble_eq_true rfl) dX12_errorOf_87 ⟨Nat.le_of_ble_eq_true rfl, Nat.le_of_ble_eq_true rfl⟩) (fun H locs hB => ?_)
                    refine lv_i2l hx hb dX12_errorOf_90 rfl ?_
                    refine lv_goto (tgt := 106) hx hb dX12_errorOf_91 (by decide) ?_
                    exact b106 x13 x14 l11 ((r30).toInt64) _ _ _ hB (lv_sub hl [0, 1, 2, 3, 4, 5, 6, 7, 9, 10] rfl) _ hv kw51
                · replace hv := y_br_t hv c16
                  refine lv_goto (tgt := 112) hx hb dX12_errorOf_67 (by decide) ?_
                  exact b112 l11 x13 x14 _ _ _ hB (lv_sub hl [0, 1, 2, 3, 4, 5, 6, 7, 8, 9, 10] rfl) _ hv kw51
          refine lv_iload hx hb dX12_errorOf_27 (lv_at hl 7 rfl) ?_
          refine lv_aload_n hx hb dX12_errorOf_29 rfl (lv_at hl 0 rfl) ?_
          obtain ⟨g40, hv⟩ := y_gd_e hv
          obtain ⟨r36, c35, hv⟩ := y_bi_e hv
          refine z_thI hc hB (z_runV hc hB 11 (mm_X12_places hSK l ad o0 h c35) md_X12_places qmX12_253 g40 (by decide) rfl rfl rfl ⟨Nat.le_of_ble_eq_true rfl, Nat.le_of_ble_eq_true rfl⟩ rfl hl.1 rfl (Nat.le_of_ble_eq_true rfl) dX12_errorOf_30 ⟨Nat.le_of_ble_eq_true rfl, Nat.le_of_ble_eq_true rfl⟩) (fun H locs hB => ?_)
          refine lv_icmp_ge (tgt := 156) hx hb dX12_errorOf_33 (by decide) (fun c41 => ?_) (fun c41 => ?_)
          · replace hv := y_br_t hv c41
            obtain ⟨t42, hq, ew⟩ := y_mp_e hv
            clear hv; subst ew
            replace kw27 : t42 = _ := kw27
            subst kw27
            have hv := hq
            clear hq
            refine lv_lload_n hx hb dX12_errorOf_156 rfl (lv_at hl 3 rfl) ?_
            refine lv_lload hx hb dX12_errorOf_157 (lv_at hl 5 rfl) ?_
            refine lv_lload hx hb dX12_errorOf_159 (lv_at hl 6 rfl) ?_
            obtain ⟨r45, c43, hv⟩ := y_bi_e hv
            refine z_thL hc hB (z_runS hc hB (mm_X12_lesser hSK l ad l6 l8 h c43) md_X12_lesser qmX12_295 rfl rfl ⟨Nat.le_of_ble_eq_true rfl, Nat.le_of_ble_eq_true rfl⟩ rfl hl.1 rfl (Nat.le_of_ble_eq_true rfl) dX12_errorOf_161 ⟨Nat.le_of_ble_eq_true rfl, Nat.le_of_ble_eq_true rfl⟩) (fun H locs hB => ?_)
            refine lv_ladd hx hb dX12_errorOf_164 ?_
            obtain ⟨v48, ev48, hv⟩ := y_nm_e hv
            rw [← ev48]
            refine lv_lstore_n (lv' := [(3, .long v48), (0, .ref (ad o0)), (1, .int x1), (2, .int x2), (5, .int x5), (6, .long l6), (8, .long l8), (10, .int x10)]) hx hb dX12_errorOf_165 rfl hl (by decide) rfl (fun ls hl => ?_)
            obtain ⟨v49, ev49, hv⟩ := y_nm_e hv
            refine lv_iinc (v := v49) (lv' := [(5, .int v49), (3, .long v48), (0, .ref (ad o0)), (1, .int x1), (2, .int x2), (6, .long l6), (8, .long l8), (10, .int x10)]) hx hb dX12_errorOf_166 hl (k := 4) rfl (by rw [ev49]; rfl) (by decide) rfl (fun ls hl => ?_)
            refine lv_goto (tgt := 10) hx hb dX12_errorOf_169 (by decide) ?_
            replace hv := Option.some.inj hv
            subst hv
            exact ih10 v48 v49 _ _ _ hB (lv_sub hl [2, 3, 4, 1, 0] rfl) _ kv27 kv10
          · replace hv := y_br_f hv c41
            refine lv_aload_n hx hb dX12_errorOf_36 rfl (lv_at hl 0 rfl) ?_
            refine lv_iload hx hb dX12_errorOf_37 (lv_at hl 7 rfl) ?_
            obtain ⟨r51, c50, hv⟩ := y_bi_e hv
            refine z_thI hc hB (z_runV hc hB 11 (mm_X12_weightOf hSK l ad o0 x10 h c50) md_X12_weightOf qmX12_256 g40 (by decide) rfl rfl rfl ⟨Nat.le_of_ble_eq_true rfl, Nat.le_of_ble_eq_true rfl⟩ rfl hl.1 rfl (Nat.le_of_ble_eq_true rfl) dX12_errorOf_39 ⟨Nat.le_of_ble_eq_true rfl, Nat.le_of_ble_eq_true rfl⟩) (fun H locs hB => ?_)
            refine lv_i2l hx hb dX12_errorOf_42 rfl ?_
            obtain ⟨v55, ev55, hv⟩ := y_nm_e hv
            rw [← ev55]
            refine lv_lstore (lv' := [(11, .long v55), (0, .ref (ad o0)), (1, .int x1), (2, .int x2), (3, .long l3), (5, .int x5), (6, .long l6), (8, .long l8), (10, .int x10)]) hx hb dX12_errorOf_43 hl (by decide) rfl (fun ls hl => ?_)
            refine lv_iconst (v := (0 : Int32)) hx hb dX12_errorOf_45 (by decide) ?_
            refine lv_istore (lv' := [(13, .int (0 : Int32)), (11, .long v55), (0, .ref (ad o0)), (1, .int x1), (2, .int x2), (3, .long l3), (5, .int x5), (6, .long l6), (8, .long l8), (10, .int x10)]) hx hb dX12_errorOf_46 hl (by decide) rfl (fun ls hl => ?_)
            refine lv_iconst (v := (0 : Int32)) hx hb dX12_errorOf_48 (by decide) ?_
            refine lv_istore (lv' := [(14, .int (0 : Int32)), (13, .int (0 : Int32)), (11, .long v55), (0, .ref (ad o0)), (1, .int x1), (2, .int x2), (3, .long l3), (5, .int x5), (6, .long l6), (8, .long l8), (10, .int x10)]) hx hb dX12_errorOf_49 hl (by decide) rfl (fun ls hl => ?_)
            obtain ⟨n, hv⟩ := y_lp_e hv
            exact L51 l6 l8 x10 n v55 (0 : Int32) (0 : Int32) _ _ _ hB (lv_sub hl [3, 4, 5, 6, 7, 8, 9, 10, 2, 1, 0] rfl) _ hv kw27
      refine lv_iload hx hb dX12_errorOf_10 (lv_at hl 4 rfl) ?_
      refine lv_iconst (v := (1 : Int32)) hx hb dX12_errorOf_12 (by decide) ?_
      refine lv_iload_n hx hb dX12_errorOf_13 rfl (lv_at hl 2 rfl) ?_
      refine lv_ishl hx hb dX12_errorOf_14 ?_
      refine lv_icmp_ge (tgt := 172) hx hb dX12_errorOf_15 (by decide) (fun c56 => ?_) (fun c56 => ?_)
      · replace hv := y_br_t hv c56
        obtain ⟨t57, hq, ew⟩ := y_mp_e hv
        clear hv; subst ew
        replace kw10 : t57 = _ := kw10
        subst kw10
        have hv := hq
        clear hq
        refine lv_lload_n hx hb dX12_errorOf_172 rfl (lv_at hl 3 rfl) ?_
        replace hv := Option.some.inj hv
        subst hv
        rw [← kv10]
        exact z_lret hc hB hr dX12_errorOf_173
      · replace hv := y_br_f hv c56
        refine lv_lconst (v := (0 : Int64)) hx hb dX12_errorOf_18 (by decide) ?_
        refine lv_lstore (lv' := [(6, .long (0 : Int64)), (0, .ref (ad o0)), (1, .int x1), (2, .int x2), (3, .long l3), (5, .int x5)]) hx hb dX12_errorOf_19 hl (by decide) rfl (fun ls hl => ?_)
        refine lv_lconst (v := (0 : Int64)) hx hb dX12_errorOf_21 (by decide) ?_
        refine lv_lstore (lv' := [(8, .long (0 : Int64)), (6, .long (0 : Int64)), (0, .ref (ad o0)), (1, .int x1), (2, .int x2), (3, .long l3), (5, .int x5)]) hx hb dX12_errorOf_22 hl (by decide) rfl (fun ls hl => ?_)
        refine lv_iconst (v := (0 : Int32)) hx hb dX12_errorOf_24 (by decide) ?_
        refine lv_istore (lv' := [(10, .int (0 : Int32)), (8, .long (0 : Int64)), (6, .long (0 : Int64)), (0, .ref (ad o0)), (1, .int x1), (2, .int x2), (3, .long l3), (5, .int x5)]) hx hb dX12_errorOf_25 hl (by decide) rfl (fun ls hl => ?_)
        obtain ⟨n, hv⟩ := y_lp_e hv
        exact L27 l3 x5 n (0 : Int64) (0 : Int64) (0 : Int32) _ _ _ hB (lv_sub hl [3, 4, 5, 6, 7, 2, 1, 0] rfl) _ hv kw10
  rw [← kt] at hv
  refine lv_iload_n hx hb dX12_errorOf_0 rfl (lv_at hl 1 rfl) ?_
  obtain ⟨r59, c58, hv⟩ := y_bi_e hv
  refine z_thI hc hB (z_runS hc hB (mm_X12_bits hSK l ad x1 h c58) md_X12_bits qmX12_292 rfl rfl ⟨Nat.le_of_ble_eq_true rfl, Nat.le_of_ble_eq_true rfl⟩ rfl hl.1 rfl (Nat.le_of_ble_eq_true rfl) dX12_errorOf_1 ⟨Nat.le_of_ble_eq_true rfl, Nat.le_of_ble_eq_true rfl⟩) (fun H locs hB => ?_)
  refine lv_istore_n (lv' := [(2, .int r59), (0, .ref (ad o0)), (1, .int x1)]) hx hb dX12_errorOf_4 rfl hl (by decide) rfl (fun ls hl => ?_)
  refine lv_lconst (v := (0 : Int64)) hx hb dX12_errorOf_5 (by decide) ?_
  refine lv_lstore_n (lv' := [(3, .long (0 : Int64)), (2, .int r59), (0, .ref (ad o0)), (1, .int x1)]) hx hb dX12_errorOf_6 rfl hl (by decide) rfl (fun ls hl => ?_)
  refine lv_iconst (v := (0 : Int32)) hx hb dX12_errorOf_7 (by decide) ?_
  refine lv_istore (lv' := [(5, .int (0 : Int32)), (3, .long (0 : Int64)), (2, .int r59), (0, .ref (ad o0)), (1, .int x1)]) hx hb dX12_errorOf_8 hl (by decide) rfl (fun ls hl => ?_)
  obtain ⟨n, hv⟩ := y_lp_e hv
  exact L10 r59 n (0 : Int64) (0 : Int32) _ _ _ hB (lv_sub hl [3, 4, 2, 1, 0] rfl) _ hv kt
theorem dX12_areTests_0 : decode cX12_areTests 0 = .ok (.iload_n 1, 1) := by decide +kernel
theorem dX12_areTests_1 : decode cX12_areTests 1 = .ok (.ifCond .lt 19, 3) := by decide +kernel
theorem dX12_areTests_4 : decode cX12_areTests 4 = .ok (.iload_n 1, 1) := by decide +kernel
theorem dX12_areTests_5 : decode cX12_areTests 5 = .ok (.iconst 1, 1) := by decide +kernel
theorem dX12_areTests_6 : decode cX12_areTests 6 = .ok (.aload_n 0, 1) := by decide +kernel
theorem dX12_areTests_7 : decode cX12_areTests 7 = .ok (.getfield 33, 3) := by decide +kernel
theorem dX12_areTests_10 : decode cX12_areTests 10 = .ok (.iconst 0, 1) := by decide +kernel
theorem dX12_areTests_11 : decode cX12_areTests 11 = .ok (.iaload, 1) := by decide +kernel
theorem dX12_areTests_12 : decode cX12_areTests 12 = .ok (.ishl, 1) := by decide +kernel
theorem dX12_areTests_13 : decode cX12_areTests 13 = .ok (.if_icmp .ge 7, 3) := by decide +kernel
theorem dX12_areTests_16 : decode cX12_areTests 16 = .ok (.iconst 1, 1) := by decide +kernel
theorem dX12_areTests_17 : decode cX12_areTests 17 = .ok (.goto 4, 3) := by decide +kernel
theorem dX12_areTests_20 : decode cX12_areTests 20 = .ok (.iconst 0, 1) := by decide +kernel
theorem dX12_areTests_21 : decode cX12_areTests 21 = .ok (.ireturn, 1) := by decide +kernel
abbrev rm_X12_areTests : Room := { frames := 0, cells := 0, slots := 0, locals := 0 }
noncomputable def fX12_areTests_b20  (h : z_T) : Option (Int32) :=
  some (0 : Int32)
noncomputable def fX12_areTests (o0 : Nat) (x1 : Int32) (h : z_T) : Option (Int32) :=
  y_br (x1 < 0)
    (fX12_areTests_b20 h)
    (y_gd (z_ok h o0 11) <|
    y_bi (z_R h o0 6) fun o3 =>
    y_gd (z_ok h o3 13) <|
    y_gd (z_ix (0 : Int32) (z_N h o3)) <|
    y_br (((1 : Int32) <<< ((z_I h o3 (0 : Int32).toNatClampNeg) &&& 31)) ≤ x1)
      (fX12_areTests_b20 h)
      (some (1 : Int32)))
set_option maxHeartbeats 4000000 in
set_option maxRecDepth 100000 in
theorem mm_X12_areTests {G : z_Gt} {S : State → Prop} (hSK : z_SK S) (l : Launch) (ad : Nat → Nat) (o0 : Nat) (x1 : Int32) (h : z_T) {r0 : Int32} (hv : fX12_areTests o0 x1 h = some r0) : z_Mi G S l yX12_areTests cX12_areTests 2 (.boolean) rm_X12_areTests 0 0 [.ref (ad o0), .int x1] ad h h r0 := by
  refine z_ofW hSK (by decide) (Nat.le_of_ble_eq_true rfl) ?_
  intro p e s m args below meth c ls hc hr hnm hB hl
  have hx := hc.1.1
  have hb := hc.1.2.1
  have hown := hc.1.2.2.2.1
  have hts := hc.1.2.2.2.2
  replace hc : z_C G S ad (z_n h) p m c cX12_areTests 2 s args RX12 meth := hc
  replace hown : s.vm.findClass RX12 = some m.cls := hown
  replace hl : lv_has ls 2 [(0, .ref (ad o0)), (1, .int x1)] := hl
  show W p l e rm_X12_areTests s m args below meth c s.heap [] 0 0 (MQ below (z_Qi G ad h (z_n h) s.heap.size r0) args s 0 0 (z_A ad (z_n h) s.heap.size)) (F0 m 0 ls [])
  obtain ⟨rs, kt⟩ : ∃ rs : Int32, rs = r0 := ⟨_, rfl⟩
  generalize hn0 : z_n h = n0 at hc hB ⊢
  have b20 : ∀ (H : Heap) (locs : List Loc) (ls : Array Slot), z_B G ad n0 s h H locs → lv_has ls 2 [] → ∀ w, fX12_areTests_b20 h = some w → w = r0 → W p l e rm_X12_areTests s m args below meth c H locs 0 0 (MQ below (z_Qi G ad h n0 s.heap.size r0) args s 0 0 (z_A ad n0 s.heap.size)) (F0 m 20 ls []) := by
    intro H locs ls hB hl w hv kb
    refine lv_iconst (v := (0 : Int32)) hx hb dX12_areTests_20 (by decide) ?_
    replace hv := Option.some.inj hv
    subst hv
    rw [← kb]
    exact z_zret hc hB hr rfl dX12_areTests_21
  rw [← kt] at hv
  refine lv_iload_n hx hb dX12_areTests_0 rfl (lv_at hl 1 rfl) ?_
  refine lv_if_lt (tgt := 20) hx hb dX12_areTests_1 (by decide) (fun c1 => ?_) (fun c1 => ?_)
  · replace hv := y_br_t hv c1
    exact b20 _ _ _ hB (lv_sub hl [] rfl) _ hv kt
  · replace hv := y_br_f hv c1
    refine lv_iload_n hx hb dX12_areTests_4 rfl (lv_at hl 1 rfl) ?_
    refine lv_iconst (v := (1 : Int32)) hx hb dX12_areTests_5 (by decide) ?_
    refine lv_aload_n hx hb dX12_areTests_6 rfl (lv_at hl 0 rfl) ?_
    obtain ⟨g2, hv⟩ := y_gd_e hv
    obtain ⟨o3, eo3, hv⟩ := y_bi_e hv
    refine z_getR hc hB 11 6 g2 eo3 (by decide) (by decide) rfl (z_l1 hc qfX12_33) dX12_areTests_7 ?_
    refine lv_iconst (v := (0 : Int32)) hx hb dX12_areTests_10 (by decide) ?_
    obtain ⟨g4, hv⟩ := y_gd_e hv
    obtain ⟨i5, hv⟩ := y_gd_e hv
    refine z_iald hc hB g4 i5 dX12_areTests_11 ?_
    refine lv_ishl hx hb dX12_areTests_12 ?_
    refine lv_icmp_ge (tgt := 20) hx hb dX12_areTests_13 (by decide) (fun c6 => ?_) (fun c6 => ?_)
    · replace hv := y_br_t hv c6
      exact b20 _ _ _ hB (lv_sub hl [] rfl) _ hv kt
    · replace hv := y_br_f hv c6
      refine lv_iconst (v := (1 : Int32)) hx hb dX12_areTests_16 (by decide) ?_
      refine lv_goto (tgt := 21) hx hb dX12_areTests_17 (by decide) ?_
      replace hv := Option.some.inj hv
      subst hv
      rw [← kt]
      exact z_zret hc hB hr rfl dX12_areTests_21
theorem qmX12_301 : Cond.methodLink RX12 301 yX12_errorOf ∈ z_ws := List.mem_filter.mpr ⟨List.mem_append_right _ (List.mem_of_getElem? (i := 1676) (by decide +kernel)), rfl⟩
theorem qc_X12_errorOf : Cond.code yX12_errorOf cX12_errorOf 15 (some .long) ∈ z_ws := List.mem_filter.mpr ⟨List.mem_append_right _ (List.mem_of_getElem? (i := 1679) (by decide +kernel)), rfl⟩
theorem qi_X12_errorOf : Cond.instanceMethod yX12_errorOf ∈ z_ws := List.mem_filter.mpr ⟨List.mem_append_right _ (List.mem_of_getElem? (i := 1678) (by decide +kernel)), rfl⟩
theorem qs_X12_errorOf : Cond.selects RX12 yX12_errorOf yX12_errorOf ∈ z_ws := List.mem_filter.mpr ⟨List.mem_append_left _ (List.mem_of_getElem? (i := 61) (by decide +kernel)), rfl⟩
theorem md_X12_errorOf : z_mdV yX12_errorOf cX12_errorOf 15 (some .long) 1 := ⟨⟨qn_RX12, qc_X12_errorOf, ⟨by decide +kernel, by decide +kernel, by decide +kernel⟩⟩, qi_X12_errorOf, qs_X12_errorOf⟩
theorem qmX12_304 : Cond.methodLink RX12 304 yX12_allWeights ∈ z_ws := List.mem_filter.mpr ⟨List.mem_append_right _ (List.mem_of_getElem? (i := 1683) (by decide +kernel)), rfl⟩
theorem qc_X12_allWeights : Cond.code yX12_allWeights cX12_allWeights 3 (some .int) ∈ z_ws := List.mem_filter.mpr ⟨List.mem_append_right _ (List.mem_of_getElem? (i := 1686) (by decide +kernel)), rfl⟩
theorem qi_X12_allWeights : Cond.instanceMethod yX12_allWeights ∈ z_ws := List.mem_filter.mpr ⟨List.mem_append_right _ (List.mem_of_getElem? (i := 1685) (by decide +kernel)), rfl⟩
theorem qs_X12_allWeights : Cond.selects RX12 yX12_allWeights yX12_allWeights ∈ z_ws := List.mem_filter.mpr ⟨List.mem_append_left _ (List.mem_of_getElem? (i := 62) (by decide +kernel)), rfl⟩
theorem md_X12_allWeights : z_mdV yX12_allWeights cX12_allWeights 3 (some .int) 0 := ⟨⟨qn_RX12, qc_X12_allWeights, ⟨by decide +kernel, by decide +kernel, by decide +kernel⟩⟩, qi_X12_allWeights, qs_X12_allWeights⟩
theorem qmX12_307 : Cond.methodLink RX12 307 yX12_power ∈ z_ws := List.mem_filter.mpr ⟨List.mem_append_right _ (List.mem_of_getElem? (i := 1687) (by decide +kernel)), rfl⟩
theorem qc_X12_power : Cond.code yX12_power cX12_power 6 (some .long) ∈ z_ws := List.mem_filter.mpr ⟨List.mem_append_right _ (List.mem_of_getElem? (i := 1690) (by decide +kernel)), rfl⟩
theorem qi_X12_power : Cond.instanceMethod yX12_power ∈ z_ws := List.mem_filter.mpr ⟨List.mem_append_right _ (List.mem_of_getElem? (i := 1689) (by decide +kernel)), rfl⟩
theorem qs_X12_power : Cond.selects RX12 yX12_power yX12_power ∈ z_ws := List.mem_filter.mpr ⟨List.mem_append_left _ (List.mem_of_getElem? (i := 63) (by decide +kernel)), rfl⟩
theorem md_X12_power : z_mdV yX12_power cX12_power 6 (some .long) 2 := ⟨⟨qn_RX12, qc_X12_power, ⟨by decide +kernel, by decide +kernel, by decide +kernel⟩⟩, qi_X12_power, qs_X12_power⟩
theorem qmX12_298 : Cond.methodLink RX12 298 yX12_areTests ∈ z_ws := List.mem_filter.mpr ⟨List.mem_append_right _ (List.mem_of_getElem? (i := 1672) (by decide +kernel)), rfl⟩
theorem qc_X12_areTests : Cond.code yX12_areTests cX12_areTests 2 (some .boolean) ∈ z_ws := List.mem_filter.mpr ⟨List.mem_append_right _ (List.mem_of_getElem? (i := 1675) (by decide +kernel)), rfl⟩
theorem qi_X12_areTests : Cond.instanceMethod yX12_areTests ∈ z_ws := List.mem_filter.mpr ⟨List.mem_append_right _ (List.mem_of_getElem? (i := 1674) (by decide +kernel)), rfl⟩
theorem qs_X12_areTests : Cond.selects RX12 yX12_areTests yX12_areTests ∈ z_ws := List.mem_filter.mpr ⟨List.mem_append_left _ (List.mem_of_getElem? (i := 60) (by decide +kernel)), rfl⟩
theorem md_X12_areTests : z_mdV yX12_areTests cX12_areTests 2 (some .boolean) 1 := ⟨⟨qn_RX12, qc_X12_areTests, ⟨by decide +kernel, by decide +kernel, by decide +kernel⟩⟩, qi_X12_areTests, qs_X12_areTests⟩
theorem dX12_error_0 : decode cX12_error 0 = .ok (.aload_n 0, 1) := by decide +kernel
theorem dX12_error_1 : decode cX12_error 1 = .ok (.aload_n 0, 1) := by decide +kernel
theorem dX12_error_2 : decode cX12_error 2 = .ok (.iload_n 1, 1) := by decide +kernel
theorem dX12_error_3 : decode cX12_error 3 = .ok (.invokevirtual 298, 3) := by decide +kernel
theorem dX12_error_6 : decode cX12_error 6 = .ok (.ifCond .eq 18, 3) := by decide +kernel
theorem dX12_error_9 : decode cX12_error 9 = .ok (.iload_n 1, 1) := by decide +kernel
theorem dX12_error_10 : decode cX12_error 10 = .ok (.invokestatic 292, 3) := by decide +kernel
theorem dX12_error_13 : decode cX12_error 13 = .ok (.iconst 5, 1) := by decide +kernel
theorem dX12_error_14 : decode cX12_error 14 = .ok (.if_icmp .gt 10, 3) := by decide +kernel
theorem dX12_error_17 : decode cX12_error 17 = .ok (.iload_n 2, 1) := by decide +kernel
theorem dX12_error_18 : decode cX12_error 18 = .ok (.invokestatic 275, 3) := by decide +kernel
theorem dX12_error_21 : decode cX12_error 21 = .ok (.ifCond .ne 7, 3) := by decide +kernel
theorem dX12_error_24 : decode cX12_error 24 = .ok (.iconst 1, 1) := by decide +kernel
theorem dX12_error_25 : decode cX12_error 25 = .ok (.goto 4, 3) := by decide +kernel
theorem dX12_error_28 : decode cX12_error 28 = .ok (.iconst 0, 1) := by decide +kernel
theorem dX12_error_29 : decode cX12_error 29 = .ok (.invokevirtual 278, 3) := by decide +kernel
theorem dX12_error_32 : decode cX12_error 32 = .ok (.ifCond .eq 5, 3) := by decide +kernel
theorem dX12_error_35 : decode cX12_error 35 = .ok (.lconst 0, 1) := by decide +kernel
theorem dX12_error_36 : decode cX12_error 36 = .ok (.lreturn, 1) := by decide +kernel
theorem dX12_error_37 : decode cX12_error 37 = .ok (.aload_n 0, 1) := by decide +kernel
theorem dX12_error_38 : decode cX12_error 38 = .ok (.iload_n 1, 1) := by decide +kernel
theorem dX12_error_39 : decode cX12_error 39 = .ok (.invokevirtual 301, 3) := by decide +kernel
theorem dX12_error_42 : decode cX12_error 42 = .ok (.aload_n 0, 1) := by decide +kernel
theorem dX12_error_43 : decode cX12_error 43 = .ok (.invokevirtual 304, 3) := by decide +kernel
theorem dX12_error_46 : decode cX12_error 46 = .ok (.i2l, 1) := by decide +kernel
theorem dX12_error_47 : decode cX12_error 47 = .ok (.aload_n 0, 1) := by decide +kernel
theorem dX12_error_48 : decode cX12_error 48 = .ok (.bipush 9, 2) := by decide +kernel
theorem dX12_error_50 : decode cX12_error 50 = .ok (.iload_n 1, 1) := by decide +kernel
theorem dX12_error_51 : decode cX12_error 51 = .ok (.invokestatic 292, 3) := by decide +kernel
theorem dX12_error_54 : decode cX12_error 54 = .ok (.invokevirtual 307, 3) := by decide +kernel
theorem dX12_error_57 : decode cX12_error 57 = .ok (.lmul, 1) := by decide +kernel
theorem dX12_error_58 : decode cX12_error 58 = .ok (.iload_n 2, 1) := by decide +kernel
theorem dX12_error_59 : decode cX12_error 59 = .ok (.invokestatic 282, 3) := by decide +kernel
theorem dX12_error_62 : decode cX12_error 62 = .ok (.lreturn, 1) := by decide +kernel
abbrev rm_X12_error : Room := { frames := 3, cells := 0, slots := 0, locals := 77 }
noncomputable def fX12_error_b29 (o0 : Nat) (x1 : Int32) (x2 : Int32) (s0 : Nat) (s1 : Int32) (h : z_T) : Option (Int64 × z_T) :=
  y_gd (z_ok h s0 11) <|
  y_bi (fX12_throwsIf s0 s1 h) fun ⟨r2, h6⟩ =>
  y_br (r2 = 0)
    (y_gd (z_ok h6 o0 11) <|
    y_bi (fX12_errorOf o0 x1 h6) fun r11 =>
    y_bi (fX12_allWeights o0 h6) fun r16 =>
    y_bi (fX12_bits x1) fun r21 =>
    y_bi (fX12_power o0 (9 : Int32) r21) fun r27 =>
    y_bi (fX12_part r11 ((r16).toInt64 * r27) x2) fun r32 =>
    some (r32, h6))
    (some ((0 : Int64), h6))
noncomputable def fX12_error_b24 (o0 : Nat) (x1 : Int32) (x2 : Int32) (s0 : Nat) (h : z_T) : Option (Int64 × z_T) :=
  fX12_error_b29 o0 x1 x2 s0 (1 : Int32) h
noncomputable def fX12_error (o0 : Nat) (x1 : Int32) (x2 : Int32) (h : z_T) : Option (Int64 × z_T) :=
  y_gd (z_ok h o0 11) <|
  y_bi (fX12_areTests o0 x1 h) fun r36 =>
  y_br (r36 = 0)
    (fX12_error_b24 o0 x1 x2 o0 h)
    (y_bi (fX12_bits x1) fun r43 =>
    y_br ((5 : Int32) < r43)
      (fX12_error_b24 o0 x1 x2 o0 h)
      (y_bi (fX12_isPart x2) fun r49 =>
      y_br (r49 = 0)
        (fX12_error_b24 o0 x1 x2 o0 h)
        (fX12_error_b29 o0 x1 x2 o0 (0 : Int32) h)))
set_option maxHeartbeats 4000000 in
set_option maxRecDepth 100000 in
theorem mm_X12_error {G : z_Gt} {S : State → Prop} (hSK : z_SK S) (l : Launch) (ad : Nat → Nat) (o0 : Nat) (x1 : Int32) (x2 : Int32) (h : z_T) {r0 : Int64} {h9 : z_T} (hv : fX12_error o0 x1 x2 h = some (r0, h9)) : z_Ml G S l yX12_error cX12_error 3 (.long) rm_X12_error 0 0 [.ref (ad o0), .int x1, .int x2] ad h h9 r0 := by
  refine z_ofW hSK (by decide) (Nat.le_of_ble_eq_true rfl) ?_
  intro p e s m args below meth c ls hc hr hnm hB hl
  have hx := hc.1.1
  have hb := hc.1.2.1
  have hown := hc.1.2.2.2.1
  have hts := hc.1.2.2.2.2
  replace hc : z_C G S ad (z_n h) p m c cX12_error 3 s args RX12 meth := hc
  replace hown : s.vm.findClass RX12 = some m.cls := hown
  replace hl : lv_has ls 3 [(0, .ref (ad o0)), (1, .int x1), (2, .int x2)] := hl
  show W p l e rm_X12_error s m args below meth c s.heap [] 0 0 (MQ below (z_Ql G ad h9 (z_n h) s.heap.size r0) args s 0 0 (z_A ad (z_n h) s.heap.size)) (F0 m 0 ls [])
  obtain ⟨rs, kt⟩ : ∃ rs : Int64 × z_T, rs = (r0, h9) := ⟨_, rfl⟩
  generalize hn0 : z_n h = n0 at hc hB ⊢
  have b29 : ∀ (s0 : Nat) (s1 : Int32) (h : z_T) (H : Heap) (locs : List Loc) (ls : Array Slot), z_B G ad n0 s h H locs → lv_has ls 3 [(0, .ref (ad o0)), (1, .int x1), (2, .int x2)] → ∀ w, fX12_error_b29 o0 x1 x2 s0 s1 h = some w → w = (r0, h9) → W p l e rm_X12_error s m args below meth c H locs 0 0 (MQ below (z_Ql G ad h9 n0 s.heap.size r0) args s 0 0 (z_A ad n0 s.heap.size)) (F0 m 29 ls [.int s1, .ref (ad s0)]) := by
    intro s0 s1 h H locs ls hB hl w hv kb
    obtain ⟨g7, hv⟩ := y_gd_e hv
    obtain ⟨⟨r2, h6⟩, c1, hv⟩ := y_bi_e hv
    refine z_thI hc hB (z_runV hc hB 11 (mm_X12_throwsIf hSK l ad s0 s1 h c1) md_X12_throwsIf qmX12_278 g7 (by decide) rfl rfl rfl ⟨Nat.le_of_ble_eq_true rfl, Nat.le_of_ble_eq_true rfl⟩ rfl hl.1 rfl (Nat.le_of_ble_eq_true rfl) dX12_error_29 ⟨Nat.le_of_ble_eq_true rfl, Nat.le_of_ble_eq_true rfl⟩) (fun H locs hB => ?_)
    refine lv_if_eq (tgt := 37) hx hb dX12_error_32 (by decide) (fun c8 => ?_) (fun c8 => ?_)
    · replace hv := y_br_t hv c8
      refine lv_aload_n hx hb dX12_error_37 rfl (lv_at hl 0 rfl) ?_
      refine lv_iload_n hx hb dX12_error_38 rfl (lv_at hl 1 rfl) ?_
      obtain ⟨g14, hv⟩ := y_gd_e hv
      obtain ⟨r11, c9, hv⟩ := y_bi_e hv
      refine z_thL hc hB (z_runV hc hB 11 (mm_X12_errorOf hSK l ad o0 x1 h6 c9) md_X12_errorOf qmX12_301 g14 (by decide) rfl rfl rfl ⟨Nat.le_of_ble_eq_true rfl, Nat.le_of_ble_eq_true rfl⟩ rfl hl.1 rfl (Nat.le_of_ble_eq_true rfl) dX12_error_39 ⟨Nat.le_of_ble_eq_true rfl, Nat.le_of_ble_eq_true rfl⟩) (fun H locs hB => ?_)
      refine lv_aload_n hx hb dX12_error_42 rfl (lv_at hl 0 rfl) ?_
      obtain ⟨r16, c15, hv⟩ := y_bi_e hv
      refine z_thI hc hB (z_runV hc hB 11 (mm_X12_allWeights hSK l ad o0 h6 c15) md_X12_allWeights qmX12_304 g14 (by decide) rfl rfl rfl ⟨Nat.le_of_ble_eq_true rfl, Nat.le_of_ble_eq_true rfl⟩ rfl hl.1 rfl (Nat.le_of_ble_eq_true rfl) dX12_error_43 ⟨Nat.le_of_ble_eq_true rfl, Nat.le_of_ble_eq_true rfl⟩) (fun H locs hB => ?_)
      refine lv_i2l hx hb dX12_error_46 rfl ?_
      refine lv_aload_n hx hb dX12_error_47 rfl (lv_at hl 0 rfl) ?_
      refine lv_bipush (v := (9 : Int32)) hx hb dX12_error_48 (by decide) ?_
      refine lv_iload_n hx hb dX12_error_50 rfl (lv_at hl 1 rfl) ?_
      obtain ⟨r21, c20, hv⟩ := y_bi_e hv
      refine z_thI hc hB (z_runS hc hB (mm_X12_bits hSK l ad x1 h6 c20) md_X12_bits qmX12_292 rfl rfl ⟨Nat.le_of_ble_eq_true rfl, Nat.le_of_ble_eq_true rfl⟩ rfl hl.1 rfl (Nat.le_of_ble_eq_true rfl) dX12_error_51 ⟨Nat.le_of_ble_eq_true rfl, Nat.le_of_ble_eq_true rfl⟩) (fun H locs hB => ?_)
      obtain ⟨r27, c25, hv⟩ := y_bi_e hv
      refine z_thL hc hB (z_runV hc hB 11 (mm_X12_power hSK l ad o0 (9 : Int32) r21 h6 c25) md_X12_power qmX12_307 g14 (by decide) rfl rfl rfl ⟨Nat.le_of_ble_eq_true rfl, Nat.le_of_ble_eq_true rfl⟩ rfl hl.1 rfl (Nat.le_of_ble_eq_true rfl) dX12_error_54 ⟨Nat.le_of_ble_eq_true rfl, Nat.le_of_ble_eq_true rfl⟩) (fun H locs hB => ?_)
      refine lv_lmul hx hb dX12_error_57 ?_
      refine lv_iload_n hx hb dX12_error_58 rfl (lv_at hl 2 rfl) ?_
      obtain ⟨r32, c30, hv⟩ := y_bi_e hv
      refine z_thL hc hB (z_runS hc hB (mm_X12_part hSK l ad r11 ((r16).toInt64 * r27) x2 h6 c30) md_X12_part qmX12_282 rfl rfl ⟨Nat.le_of_ble_eq_true rfl, Nat.le_of_ble_eq_true rfl⟩ rfl hl.1 rfl (Nat.le_of_ble_eq_true rfl) dX12_error_59 ⟨Nat.le_of_ble_eq_true rfl, Nat.le_of_ble_eq_true rfl⟩) (fun H locs hB => ?_)
      replace hv := Option.some.inj hv
      subst hv
      obtain ⟨e1, e2⟩ := y_pr kb
      rw [← e1, ← e2]
      exact z_lret hc hB hr dX12_error_62
    · replace hv := y_br_f hv c8
      refine lv_lconst (v := (0 : Int64)) hx hb dX12_error_35 (by decide) ?_
      replace hv := Option.some.inj hv
      subst hv
      obtain ⟨e1, e2⟩ := y_pr kb
      rw [← e1, ← e2]
      exact z_lret hc hB hr dX12_error_36
  have b24 : ∀ (s0 : Nat) (h : z_T) (H : Heap) (locs : List Loc) (ls : Array Slot), z_B G ad n0 s h H locs → lv_has ls 3 [(0, .ref (ad o0)), (1, .int x1), (2, .int x2)] → ∀ w, fX12_error_b24 o0 x1 x2 s0 h = some w → w = (r0, h9) → W p l e rm_X12_error s m args below meth c H locs 0 0 (MQ below (z_Ql G ad h9 n0 s.heap.size r0) args s 0 0 (z_A ad n0 s.heap.size)) (F0 m 24 ls [.ref (ad s0)]) := by
    intro s0 h H locs ls hB hl w hv kb
    refine lv_iconst (v := (1 : Int32)) hx hb dX12_error_24 (by decide) ?_
    refine lv_goto (tgt := 29) hx hb dX12_error_25 (by decide) ?_
    exact b29 s0 (1 : Int32) h _ _ _ hB (lv_sub hl [0, 1, 2] rfl) _ hv kb
  rw [← kt] at hv
  refine lv_aload_n hx hb dX12_error_0 rfl (lv_at hl 0 rfl) ?_
  refine lv_aload_n hx hb dX12_error_1 rfl (lv_at hl 0 rfl) ?_
  refine lv_iload_n hx hb dX12_error_2 rfl (lv_at hl 1 rfl) ?_
  obtain ⟨g40, hv⟩ := y_gd_e hv
  obtain ⟨r36, c35, hv⟩ := y_bi_e hv
  refine z_thI hc hB (z_runV hc hB 11 (mm_X12_areTests hSK l ad o0 x1 h c35) md_X12_areTests qmX12_298 g40 (by decide) rfl rfl rfl ⟨Nat.le_of_ble_eq_true rfl, Nat.le_of_ble_eq_true rfl⟩ rfl hl.1 rfl (Nat.le_of_ble_eq_true rfl) dX12_error_3 ⟨Nat.le_of_ble_eq_true rfl, Nat.le_of_ble_eq_true rfl⟩) (fun H locs hB => ?_)
  refine lv_if_eq (tgt := 24) hx hb dX12_error_6 (by decide) (fun c41 => ?_) (fun c41 => ?_)
  · replace hv := y_br_t hv c41
    exact b24 o0 h _ _ _ hB (lv_sub hl [0, 1, 2] rfl) _ hv kt
  · replace hv := y_br_f hv c41
    refine lv_iload_n hx hb dX12_error_9 rfl (lv_at hl 1 rfl) ?_
    obtain ⟨r43, c42, hv⟩ := y_bi_e hv
    refine z_thI hc hB (z_runS hc hB (mm_X12_bits hSK l ad x1 h c42) md_X12_bits qmX12_292 rfl rfl ⟨Nat.le_of_ble_eq_true rfl, Nat.le_of_ble_eq_true rfl⟩ rfl hl.1 rfl (Nat.le_of_ble_eq_true rfl) dX12_error_10 ⟨Nat.le_of_ble_eq_true rfl, Nat.le_of_ble_eq_true rfl⟩) (fun H locs hB => ?_)
    refine lv_iconst (v := (5 : Int32)) hx hb dX12_error_13 (by decide) ?_
    refine lv_icmp_gt (tgt := 24) hx hb dX12_error_14 (by decide) (fun c47 => ?_) (fun c47 => ?_)
    · replace hv := y_br_t hv c47
      exact b24 o0 h _ _ _ hB (lv_sub hl [0, 1, 2] rfl) _ hv kt
    · replace hv := y_br_f hv c47
      refine lv_iload_n hx hb dX12_error_17 rfl (lv_at hl 2 rfl) ?_
      obtain ⟨r49, c48, hv⟩ := y_bi_e hv
      refine z_thI hc hB (z_runS hc hB (mm_X12_isPart hSK l ad x2 h c48) md_X12_isPart qmX12_275 rfl rfl ⟨Nat.le_of_ble_eq_true rfl, Nat.le_of_ble_eq_true rfl⟩ rfl hl.1 rfl (Nat.le_of_ble_eq_true rfl) dX12_error_18 ⟨Nat.le_of_ble_eq_true rfl, Nat.le_of_ble_eq_true rfl⟩) (fun H locs hB => ?_)
      refine lv_if_ne (tgt := 28) hx hb dX12_error_21 (by decide) (fun c53 => ?_) (fun c53 => ?_)
      · replace hv := y_br_f hv c53
        refine lv_iconst (v := (0 : Int32)) hx hb dX12_error_28 (by decide) ?_
        exact b29 o0 (0 : Int32) h _ _ _ hB (lv_sub hl [0, 1, 2] rfl) _ hv kt
      · replace hv := y_br_t hv c53
        exact b24 o0 h _ _ _ hB (lv_sub hl [0, 1, 2] rfl) _ hv kt
