/-! the methods of the reference: the rows that decode, a function each, the walk (by gen3.py) -/
theorem dX12_pair_0 : decode cX12_pair 0 = .ok (.aload_n 0, 1) := by decide +kernel
theorem dX12_pair_1 : decode cX12_pair 1 = .ok (.iconst 0, 1) := by decide +kernel
theorem dX12_pair_2 : decode cX12_pair 2 = .ok (.putfield 1, 3) := by decide +kernel
theorem dX12_pair_5 : decode cX12_pair 5 = .ok (.iconst (-1), 1) := by decide +kernel
theorem dX12_pair_6 : decode cX12_pair 6 = .ok (.istore_n 1, 1) := by decide +kernel
theorem dX12_pair_7 : decode cX12_pair 7 = .ok (.lconst 0, 1) := by decide +kernel
theorem dX12_pair_8 : decode cX12_pair 8 = .ok (.lstore_n 2, 1) := by decide +kernel
theorem dX12_pair_9 : decode cX12_pair 9 = .ok (.iconst 0, 1) := by decide +kernel
theorem dX12_pair_10 : decode cX12_pair 10 = .ok (.istore 4, 2) := by decide +kernel
theorem dX12_pair_12 : decode cX12_pair 12 = .ok (.iload 4, 2) := by decide +kernel
theorem dX12_pair_14 : decode cX12_pair 14 = .ok (.aload_n 0, 1) := by decide +kernel
theorem dX12_pair_15 : decode cX12_pair 15 = .ok (.getfield 33, 3) := by decide +kernel
theorem dX12_pair_18 : decode cX12_pair 18 = .ok (.iconst 0, 1) := by decide +kernel
theorem dX12_pair_19 : decode cX12_pair 19 = .ok (.iaload, 1) := by decide +kernel
theorem dX12_pair_20 : decode cX12_pair 20 = .ok (.if_icmp .ge 73, 3) := by decide +kernel
theorem dX12_pair_23 : decode cX12_pair 23 = .ok (.iload 4, 2) := by decide +kernel
theorem dX12_pair_25 : decode cX12_pair 25 = .ok (.iconst 1, 1) := by decide +kernel
theorem dX12_pair_26 : decode cX12_pair 26 = .ok (.iadd, 1) := by decide +kernel
theorem dX12_pair_27 : decode cX12_pair 27 = .ok (.istore 5, 2) := by decide +kernel
theorem dX12_pair_29 : decode cX12_pair 29 = .ok (.iload 5, 2) := by decide +kernel
theorem dX12_pair_31 : decode cX12_pair 31 = .ok (.aload_n 0, 1) := by decide +kernel
theorem dX12_pair_32 : decode cX12_pair 32 = .ok (.getfield 33, 3) := by decide +kernel
theorem dX12_pair_35 : decode cX12_pair 35 = .ok (.iconst 0, 1) := by decide +kernel
theorem dX12_pair_36 : decode cX12_pair 36 = .ok (.iaload, 1) := by decide +kernel
theorem dX12_pair_37 : decode cX12_pair 37 = .ok (.if_icmp .ge 50, 3) := by decide +kernel
theorem dX12_pair_40 : decode cX12_pair 40 = .ok (.aload_n 0, 1) := by decide +kernel
theorem dX12_pair_41 : decode cX12_pair 41 = .ok (.iconst 1, 1) := by decide +kernel
theorem dX12_pair_42 : decode cX12_pair 42 = .ok (.iload 4, 2) := by decide +kernel
theorem dX12_pair_44 : decode cX12_pair 44 = .ok (.ishl, 1) := by decide +kernel
theorem dX12_pair_45 : decode cX12_pair 45 = .ok (.iconst 1, 1) := by decide +kernel
theorem dX12_pair_46 : decode cX12_pair 46 = .ok (.iload 5, 2) := by decide +kernel
theorem dX12_pair_48 : decode cX12_pair 48 = .ok (.ishl, 1) := by decide +kernel
theorem dX12_pair_49 : decode cX12_pair 49 = .ok (.ior, 1) := by decide +kernel
theorem dX12_pair_50 : decode cX12_pair 50 = .ok (.invokevirtual 301, 3) := by decide +kernel
theorem dX12_pair_53 : decode cX12_pair 53 = .ok (.lstore 6, 2) := by decide +kernel
theorem dX12_pair_55 : decode cX12_pair 55 = .ok (.iload_n 1, 1) := by decide +kernel
theorem dX12_pair_56 : decode cX12_pair 56 = .ok (.ifCond .lt 13, 3) := by decide +kernel
theorem dX12_pair_59 : decode cX12_pair 59 = .ok (.lload 6, 2) := by decide +kernel
theorem dX12_pair_61 : decode cX12_pair 61 = .ok (.lload_n 2, 1) := by decide +kernel
theorem dX12_pair_62 : decode cX12_pair 62 = .ok (.lcmp, 1) := by decide +kernel
theorem dX12_pair_63 : decode cX12_pair 63 = .ok (.ifCond .lt 6, 3) := by decide +kernel
theorem dX12_pair_66 : decode cX12_pair 66 = .ok (.goto 15, 3) := by decide +kernel
theorem dX12_pair_69 : decode cX12_pair 69 = .ok (.lload 6, 2) := by decide +kernel
theorem dX12_pair_71 : decode cX12_pair 71 = .ok (.lstore_n 2, 1) := by decide +kernel
theorem dX12_pair_72 : decode cX12_pair 72 = .ok (.bipush 10, 2) := by decide +kernel
theorem dX12_pair_74 : decode cX12_pair 74 = .ok (.iload 4, 2) := by decide +kernel
theorem dX12_pair_76 : decode cX12_pair 76 = .ok (.imul, 1) := by decide +kernel
theorem dX12_pair_77 : decode cX12_pair 77 = .ok (.iload 5, 2) := by decide +kernel
theorem dX12_pair_79 : decode cX12_pair 79 = .ok (.iadd, 1) := by decide +kernel
theorem dX12_pair_80 : decode cX12_pair 80 = .ok (.istore_n 1, 1) := by decide +kernel
theorem dX12_pair_81 : decode cX12_pair 81 = .ok (.iinc 5 1, 3) := by decide +kernel
theorem dX12_pair_84 : decode cX12_pair 84 = .ok (.goto (-55), 3) := by decide +kernel
theorem dX12_pair_87 : decode cX12_pair 87 = .ok (.iinc 4 1, 3) := by decide +kernel
theorem dX12_pair_90 : decode cX12_pair 90 = .ok (.goto (-78), 3) := by decide +kernel
theorem dX12_pair_93 : decode cX12_pair 93 = .ok (.iload_n 1, 1) := by decide +kernel
theorem dX12_pair_94 : decode cX12_pair 94 = .ok (.ireturn, 1) := by decide +kernel
abbrev rm_X12_pair : Room := { frames := 3, cells := 0, slots := 0, locals := 77 }
noncomputable def fX12_pair_b81 (o0 : Nat) (x1 : Int32) (l2 : Int64) (x4 : Int32) (x5 : Int32) (h : z_T) : Option ((Int32 × Int64 × Int32) ⊕ ((Int32 × Int64 × Int32) ⊕ (Int32 × z_T))) :=
  y_nm (x5 + 1) fun v1 =>
  some (.inl (x1, l2, v1))
noncomputable def fX12_pair_b69 (o0 : Nat) (x4 : Int32) (x5 : Int32) (l6 : Int64) (h : z_T) : Option ((Int32 × Int64 × Int32) ⊕ ((Int32 × Int64 × Int32) ⊕ (Int32 × z_T))) :=
  y_nm ((((10 : Int32) * x4) + x5)) fun v2 =>
  fX12_pair_b81 o0 v2 l6 x4 x5 h
noncomputable def fX12_pair_b29_i (o0 : Nat) (x4 : Int32) (h : z_T) (x1 : Int32) (l2 : Int64) (x5 : Int32) : Option ((Int32 × Int64 × Int32) ⊕ ((Int32 × Int64 × Int32) ⊕ (Int32 × z_T))) :=
  y_gd (z_ok h o0 11) <|
  y_bi (z_R h o0 6) fun o4 =>
  y_gd (z_ok h o4 13) <|
  y_gd (z_ix (0 : Int32) (z_N h o4)) <|
  y_br ((z_I h o4 (0 : Int32).toNatClampNeg) ≤ x5)
    (y_mp <|
    y_nm (x4 + 1) fun v9 =>
    some (.inl (x1, l2, v9)))
    (y_bi (fX12_errorOf o0 (((1 : Int32) <<< (x4 &&& 31)) ||| ((1 : Int32) <<< (x5 &&& 31))) h) fun r12 =>
    y_br (x1 < 0)
      (fX12_pair_b69 o0 x4 x5 r12 h)
      (y_br ((lg_cmp r12 l2) < 0)
        (fX12_pair_b69 o0 x4 x5 r12 h)
        (fX12_pair_b81 o0 x1 l2 x4 x5 h)))
noncomputable def fX12_pair_b29 (o0 : Nat) (x1 : Int32) (l2 : Int64) (x4 : Int32) (x5 : Int32) (h : z_T) : Option ((Int32 × Int64 × Int32) ⊕ (Int32 × z_T)) := y_lp (fun q : Int32 × Int64 × Int32 => fX12_pair_b29_i o0 x4 h q.1 q.2.1 q.2.2) (x1, l2, x5)
noncomputable def fX12_pair_b12_i (o0 : Nat) (h : z_T) (x1 : Int32) (l2 : Int64) (x4 : Int32) : Option ((Int32 × Int64 × Int32) ⊕ (Int32 × z_T)) :=
  y_gd (z_ok h o0 11) <|
  y_bi (z_R h o0 6) fun o18 =>
  y_gd (z_ok h o18 13) <|
  y_gd (z_ix (0 : Int32) (z_N h o18)) <|
  y_br ((z_I h o18 (0 : Int32).toNatClampNeg) ≤ x4)
    (y_mp <|
    some (x1, h))
    (y_nm ((x4 + (1 : Int32))) fun v23 =>
    fX12_pair_b29 o0 x1 l2 x4 v23 h)
noncomputable def fX12_pair_b12 (o0 : Nat) (x1 : Int32) (l2 : Int64) (x4 : Int32) (h : z_T) : Option (Int32 × z_T) := y_lp (fun q : Int32 × Int64 × Int32 => fX12_pair_b12_i o0 h q.1 q.2.1 q.2.2) (x1, l2, x4)
noncomputable def fX12_pair (o0 : Nat) (h : z_T) : Option (Int32 × z_T) :=
  y_gd (z_ok h o0 11) <|
  y_nm (z_sI h o0 0 (0 : Int32)) fun h25 =>
  fX12_pair_b12 o0 (-1 : Int32) (0 : Int64) (0 : Int32) h25
set_option maxHeartbeats 4000000 in
set_option maxRecDepth 100000 in
theorem mm_X12_pair {G : z_Gt} {S : State → Prop} (hSK : z_SK S) (l : Launch) (ad : Nat → Nat) (o0 : Nat) (h : z_T) {r0 : Int32} {h9 : z_T} (hv : fX12_pair o0 h = some (r0, h9)) : z_Mi G S l yX12_pair cX12_pair 8 (.int) rm_X12_pair 0 0 [.ref (ad o0)] ad h h9 r0 := by
  refine z_ofW hSK (by decide) (Nat.le_of_ble_eq_true rfl) ?_
  intro p e s m args below meth c ls hc hr hnm hB hl
  have hx := hc.1.1
  have hb := hc.1.2.1
  have hown := hc.1.2.2.2.1
  have hts := hc.1.2.2.2.2
  replace hc : z_C G S ad (z_n h) p m c cX12_pair 8 s args RX12 meth := hc
  replace hown : s.vm.findClass RX12 = some m.cls := hown
  replace hl : lv_has ls 8 [(0, .ref (ad o0))] := hl
  show W p l e rm_X12_pair s m args below meth c s.heap [] 0 0 (MQ below (z_Qi G ad h9 (z_n h) s.heap.size r0) args s 0 0 (z_A ad (z_n h) s.heap.size)) (F0 m 0 ls [])
  obtain ⟨rs, kt⟩ : ∃ rs : Int32 × z_T, rs = (r0, h9) := ⟨_, rfl⟩
  generalize hn0 : z_n h = n0 at hc hB ⊢
  have L12 : ∀ (h : z_T) (nn12 : Nat) (x1 : Int32) (l2 : Int64) (x4 : Int32) (H : Heap) (locs : List Loc) (ls : Array Slot), z_B G ad n0 s h H locs → lv_has ls 8 [(0, .ref (ad o0)), (1, .int x1), (2, .long l2), (4, .int x4)] → ∀ vv12, y_lpN (fun q : Int32 × Int64 × Int32 => fX12_pair_b12_i o0 h q.1 q.2.1 q.2.2) nn12 (x1, l2, x4) = some vv12 → vv12 = (r0, h9) → W p l e rm_X12_pair s m args below meth c H locs 0 0 (MQ below (z_Qi G ad h9 n0 s.heap.size r0) args s 0 0 (z_A ad n0 s.heap.size)) (F0 m 12 ls []) := by
    intro h nn12
    induction nn12 with
    | zero => intro x1 l2 x4 H locs ls hB hl vv12 hv kv12; exact absurd hv (fun q => y_lpN_0 q)
    | succ nn12 ih12 =>
      intro x1 l2 x4 H locs ls hB hl vv12 hv kv12
      obtain ⟨w, hq, kw12⟩ := y_lpN_e hv
      clear hv
      have hv : fX12_pair_b12_i o0 h x1 l2 x4 = some w := hq
      clear hq
      have L29 : ∀ (x4 : Int32) (nn29 : Nat) (x1 : Int32) (l2 : Int64) (x5 : Int32) (H : Heap) (locs : List Loc) (ls : Array Slot), z_B G ad n0 s h H locs → lv_has ls 8 [(0, .ref (ad o0)), (1, .int x1), (2, .long l2), (4, .int x4), (5, .int x5)] → ∀ vv29, y_lpN (fun q : Int32 × Int64 × Int32 => fX12_pair_b29_i o0 x4 h q.1 q.2.1 q.2.2) nn29 (x1, l2, x5) = some vv29 → y_lq (fun q : Int32 × Int64 × Int32 => fX12_pair_b12_i o0 h q.1 q.2.1 q.2.2) nn12 vv12 vv29 → W p l e rm_X12_pair s m args below meth c H locs 0 0 (MQ below (z_Qi G ad h9 n0 s.heap.size r0) args s 0 0 (z_A ad n0 s.heap.size)) (F0 m 29 ls []) := by
        intro x4 nn29
        induction nn29 with
        | zero => intro x1 l2 x5 H locs ls hB hl vv29 hv kv29; exact absurd hv (fun q => y_lpN_0 q)
        | succ nn29 ih29 =>
          intro x1 l2 x5 H locs ls hB hl vv29 hv kv29
          obtain ⟨w, hq, kw29⟩ := y_lpN_e hv
          clear hv
          have hv : fX12_pair_b29_i o0 x4 h x1 l2 x5 = some w := hq
          clear hq
          have b81 : ∀ (x1 : Int32) (l2 : Int64) (x5 : Int32) (H : Heap) (locs : List Loc) (ls : Array Slot), z_B G ad n0 s h H locs → lv_has ls 8 [(0, .ref (ad o0)), (1, .int x1), (2, .long l2), (4, .int x4), (5, .int x5)] → ∀ w, fX12_pair_b81 o0 x1 l2 x4 x5 h = some w → y_lq (fun q : Int32 × Int64 × Int32 => fX12_pair_b29_i o0 x4 h q.1 q.2.1 q.2.2) nn29 vv29 w → W p l e rm_X12_pair s m args below meth c H locs 0 0 (MQ below (z_Qi G ad h9 n0 s.heap.size r0) args s 0 0 (z_A ad n0 s.heap.size)) (F0 m 81 ls []) := by
            intro x1 l2 x5 H locs ls hB hl w hv kw29
            obtain ⟨v1, ev1, hv⟩ := y_nm_e hv
            refine lv_iinc (v := v1) (lv' := [(5, .int v1), (0, .ref (ad o0)), (1, .int x1), (2, .long l2), (4, .int x4)]) hx hb dX12_pair_81 hl (k := 4) rfl (by rw [ev1]; rfl) (by decide) rfl (fun ls hl => ?_)
            refine lv_goto (tgt := 29) hx hb dX12_pair_84 (by decide) ?_
            replace hv := Option.some.inj hv
            subst hv
            exact ih29 x1 l2 v1 _ _ _ hB (lv_sub hl [1, 2, 3, 4, 0] rfl) _ kw29 kv29
          have b69 : ∀ (x5 : Int32) (l6 : Int64) (H : Heap) (locs : List Loc) (ls : Array Slot), z_B G ad n0 s h H locs → lv_has ls 8 [(0, .ref (ad o0)), (4, .int x4), (5, .int x5), (6, .long l6)] → ∀ w, fX12_pair_b69 o0 x4 x5 l6 h = some w → y_lq (fun q : Int32 × Int64 × Int32 => fX12_pair_b29_i o0 x4 h q.1 q.2.1 q.2.2) nn29 vv29 w → W p l e rm_X12_pair s m args below meth c H locs 0 0 (MQ below (z_Qi G ad h9 n0 s.heap.size r0) args s 0 0 (z_A ad n0 s.heap.size)) (F0 m 69 ls []) := by
            intro x5 l6 H locs ls hB hl w hv kw29
            refine lv_lload hx hb dX12_pair_69 (lv_at hl 3 rfl) ?_
            refine lv_lstore_n (lv' := [(2, .long l6), (0, .ref (ad o0)), (4, .int x4), (5, .int x5), (6, .long l6)]) hx hb dX12_pair_71 rfl hl (by decide) rfl (fun ls hl => ?_)
            refine lv_bipush (v := (10 : Int32)) hx hb dX12_pair_72 (by decide) ?_
            refine lv_iload hx hb dX12_pair_74 (lv_at hl 2 rfl) ?_
            refine lv_imul hx hb dX12_pair_76 ?_
            refine lv_iload hx hb dX12_pair_77 (lv_at hl 3 rfl) ?_
            refine lv_iadd hx hb dX12_pair_79 ?_
            obtain ⟨v2, ev2, hv⟩ := y_nm_e hv
            rw [← ev2]
            refine lv_istore_n (lv' := [(1, .int v2), (2, .long l6), (0, .ref (ad o0)), (4, .int x4), (5, .int x5), (6, .long l6)]) hx hb dX12_pair_80 rfl hl (by decide) rfl (fun ls hl => ?_)
            exact b81 v2 l6 x5 _ _ _ hB (lv_sub hl [2, 0, 1, 3, 4] rfl) _ hv kw29
          refine lv_iload hx hb dX12_pair_29 (lv_at hl 4 rfl) ?_
          refine lv_aload_n hx hb dX12_pair_31 rfl (lv_at hl 0 rfl) ?_
          obtain ⟨g3, hv⟩ := y_gd_e hv
          obtain ⟨o4, eo4, hv⟩ := y_bi_e hv
          refine z_getR hc hB 11 6 g3 eo4 (by decide) (by decide) rfl (z_l1 hc qfX12_33) dX12_pair_32 ?_
          refine lv_iconst (v := (0 : Int32)) hx hb dX12_pair_35 (by decide) ?_
          obtain ⟨g5, hv⟩ := y_gd_e hv
          obtain ⟨i6, hv⟩ := y_gd_e hv
          refine z_iald hc hB g5 i6 dX12_pair_36 ?_
          refine lv_icmp_ge (tgt := 87) hx hb dX12_pair_37 (by decide) (fun c7 => ?_) (fun c7 => ?_)
          · replace hv := y_br_t hv c7
            obtain ⟨t8, hq, ew⟩ := y_mp_e hv
            clear hv; subst ew
            replace kw29 : t8 = _ := kw29
            subst kw29
            have hv := hq
            clear hq
            obtain ⟨v9, ev9, hv⟩ := y_nm_e hv
            refine lv_iinc (v := v9) (lv' := [(4, .int v9), (0, .ref (ad o0)), (1, .int x1), (2, .long l2), (5, .int x5)]) hx hb dX12_pair_87 hl (k := 3) rfl (by rw [ev9]; rfl) (by decide) rfl (fun ls hl => ?_)
            refine lv_goto (tgt := 12) hx hb dX12_pair_90 (by decide) ?_
            replace hv := Option.some.inj hv
            subst hv
            exact ih12 x1 l2 v9 _ _ _ hB (lv_sub hl [1, 2, 3, 0] rfl) _ kv29 kv12
          · replace hv := y_br_f hv c7
            refine lv_aload_n hx hb dX12_pair_40 rfl (lv_at hl 0 rfl) ?_
            refine lv_iconst (v := (1 : Int32)) hx hb dX12_pair_41 (by decide) ?_
            refine lv_iload hx hb dX12_pair_42 (lv_at hl 3 rfl) ?_
            refine lv_ishl hx hb dX12_pair_44 ?_
            refine lv_iconst (v := (1 : Int32)) hx hb dX12_pair_45 (by decide) ?_
            refine lv_iload hx hb dX12_pair_46 (lv_at hl 4 rfl) ?_
            refine lv_ishl hx hb dX12_pair_48 ?_
            refine lv_ior hx hb dX12_pair_49 ?_
            obtain ⟨r12, c10, hv⟩ := y_bi_e hv
            refine z_thL hc hB (z_runV hc hB 11 (mm_X12_errorOf hSK l ad o0 (((1 : Int32) <<< (x4 &&& 31)) ||| ((1 : Int32) <<< (x5 &&& 31))) h c10) md_X12_errorOf qmX12_301 g3 (by decide) rfl rfl rfl ⟨Nat.le_of_ble_eq_true rfl, Nat.le_of_ble_eq_true rfl⟩ rfl hl.1 rfl (Nat.le_of_ble_eq_true rfl) dX12_pair_50 ⟨Nat.le_of_ble_eq_true rfl, Nat.le_of_ble_eq_true rfl⟩) (fun H locs hB => ?_)
            refine lv_lstore (lv' := [(6, .long r12), (0, .ref (ad o0)), (1, .int x1), (2, .long l2), (4, .int x4), (5, .int x5)]) hx hb dX12_pair_53 hl (by decide) rfl (fun ls hl => ?_)
            refine lv_iload_n hx hb dX12_pair_55 rfl (lv_at hl 2 rfl) ?_
            refine lv_if_lt (tgt := 69) hx hb dX12_pair_56 (by decide) (fun c15 => ?_) (fun c15 => ?_)
            · replace hv := y_br_t hv c15
              exact b69 x5 r12 _ _ _ hB (lv_sub hl [1, 4, 5, 0] rfl) _ hv kw29
            · replace hv := y_br_f hv c15
              refine lv_lload hx hb dX12_pair_59 (lv_at hl 0 rfl) ?_
              refine lv_lload_n hx hb dX12_pair_61 rfl (lv_at hl 3 rfl) ?_
              refine W.lcmp hx hb dX12_pair_62 ?_
              refine lv_if_lt (tgt := 69) hx hb dX12_pair_63 (by decide) (fun c16 => ?_) (fun c16 => ?_)
              · replace hv := y_br_t hv c16
                exact b69 x5 r12 _ _ _ hB (lv_sub hl [1, 4, 5, 0] rfl) _ hv kw29
              · replace hv := y_br_f hv c16
                refine lv_goto (tgt := 81) hx hb dX12_pair_66 (by decide) ?_
                exact b81 x1 l2 x5 _ _ _ hB (lv_sub hl [1, 2, 3, 4, 5] rfl) _ hv kw29
      refine lv_iload hx hb dX12_pair_12 (lv_at hl 3 rfl) ?_
      refine lv_aload_n hx hb dX12_pair_14 rfl (lv_at hl 0 rfl) ?_
      obtain ⟨g17, hv⟩ := y_gd_e hv
      obtain ⟨o18, eo18, hv⟩ := y_bi_e hv
      refine z_getR hc hB 11 6 g17 eo18 (by decide) (by decide) rfl (z_l1 hc qfX12_33) dX12_pair_15 ?_
      refine lv_iconst (v := (0 : Int32)) hx hb dX12_pair_18 (by decide) ?_
      obtain ⟨g19, hv⟩ := y_gd_e hv
      obtain ⟨i20, hv⟩ := y_gd_e hv
      refine z_iald hc hB g19 i20 dX12_pair_19 ?_
      refine lv_icmp_ge (tgt := 93) hx hb dX12_pair_20 (by decide) (fun c21 => ?_) (fun c21 => ?_)
      · replace hv := y_br_t hv c21
        obtain ⟨t22, hq, ew⟩ := y_mp_e hv
        clear hv; subst ew
        replace kw12 : t22 = _ := kw12
        subst kw12
        have hv := hq
        clear hq
        refine lv_iload_n hx hb dX12_pair_93 rfl (lv_at hl 1 rfl) ?_
        replace hv := Option.some.inj hv
        subst hv
        obtain ⟨e1, e2⟩ := y_pr kv12
        rw [← e1, ← e2]
        exact z_iret hc hB hr dX12_pair_94
      · replace hv := y_br_f hv c21
        refine lv_iload hx hb dX12_pair_23 (lv_at hl 3 rfl) ?_
        refine lv_iconst (v := (1 : Int32)) hx hb dX12_pair_25 (by decide) ?_
        refine lv_iadd hx hb dX12_pair_26 ?_
        obtain ⟨v23, ev23, hv⟩ := y_nm_e hv
        rw [← ev23]
        refine lv_istore (lv' := [(5, .int v23), (0, .ref (ad o0)), (1, .int x1), (2, .long l2), (4, .int x4)]) hx hb dX12_pair_27 hl (by decide) rfl (fun ls hl => ?_)
        obtain ⟨n, hv⟩ := y_lp_e hv
        exact L29 x4 n x1 l2 v23 _ _ _ hB (lv_sub hl [1, 2, 3, 4, 0] rfl) _ hv kw12
  rw [← kt] at hv
  refine lv_aload_n hx hb dX12_pair_0 rfl (lv_at hl 0 rfl) ?_
  refine lv_iconst (v := (0 : Int32)) hx hb dX12_pair_1 (by decide) ?_
  obtain ⟨g24, hv⟩ := y_gd_e hv
  obtain ⟨h25, eh25, hv⟩ := y_nm_e hv
  refine y_putI hc hB 11 0 eh25 g24 (z_l1 hc qfX12_1) dX12_pair_2 (by decide) (by decide) rfl rfl rfl rfl (fun H locs hB => ?_)
  refine lv_iconst (v := (-1 : Int32)) hx hb dX12_pair_5 (by decide) ?_
  refine lv_istore_n (lv' := [(1, .int (-1 : Int32)), (0, .ref (ad o0))]) hx hb dX12_pair_6 rfl hl (by decide) rfl (fun ls hl => ?_)
  refine lv_lconst (v := (0 : Int64)) hx hb dX12_pair_7 (by decide) ?_
  refine lv_lstore_n (lv' := [(2, .long (0 : Int64)), (1, .int (-1 : Int32)), (0, .ref (ad o0))]) hx hb dX12_pair_8 rfl hl (by decide) rfl (fun ls hl => ?_)
  refine lv_iconst (v := (0 : Int32)) hx hb dX12_pair_9 (by decide) ?_
  refine lv_istore (lv' := [(4, .int (0 : Int32)), (2, .long (0 : Int64)), (1, .int (-1 : Int32)), (0, .ref (ad o0))]) hx hb dX12_pair_10 hl (by decide) rfl (fun ls hl => ?_)
  obtain ⟨n, hv⟩ := y_lp_e hv
  exact L12 h25 n (-1 : Int32) (0 : Int64) (0 : Int32) _ _ _ hB (lv_sub hl [3, 2, 1, 0] rfl) _ hv kt
theorem dX12_digit_0 : decode cX12_digit 0 = .ok (.iload_n 1, 1) := by decide +kernel
theorem dX12_digit_1 : decode cX12_digit 1 = .ok (.istore_n 3, 1) := by decide +kernel
theorem dX12_digit_2 : decode cX12_digit 2 = .ok (.iconst 0, 1) := by decide +kernel
theorem dX12_digit_3 : decode cX12_digit 3 = .ok (.istore 4, 2) := by decide +kernel
theorem dX12_digit_5 : decode cX12_digit 5 = .ok (.iload 4, 2) := by decide +kernel
theorem dX12_digit_7 : decode cX12_digit 7 = .ok (.iload_n 2, 1) := by decide +kernel
theorem dX12_digit_8 : decode cX12_digit 8 = .ok (.if_icmp .ge 13, 3) := by decide +kernel
theorem dX12_digit_11 : decode cX12_digit 11 = .ok (.iload_n 3, 1) := by decide +kernel
theorem dX12_digit_12 : decode cX12_digit 12 = .ok (.iconst 3, 1) := by decide +kernel
theorem dX12_digit_13 : decode cX12_digit 13 = .ok (.idiv, 1) := by decide +kernel
theorem dX12_digit_14 : decode cX12_digit 14 = .ok (.istore_n 3, 1) := by decide +kernel
theorem dX12_digit_15 : decode cX12_digit 15 = .ok (.iinc 4 1, 3) := by decide +kernel
theorem dX12_digit_18 : decode cX12_digit 18 = .ok (.goto (-13), 3) := by decide +kernel
theorem dX12_digit_21 : decode cX12_digit 21 = .ok (.iload_n 3, 1) := by decide +kernel
theorem dX12_digit_22 : decode cX12_digit 22 = .ok (.iconst 3, 1) := by decide +kernel
theorem dX12_digit_23 : decode cX12_digit 23 = .ok (.irem, 1) := by decide +kernel
theorem dX12_digit_24 : decode cX12_digit 24 = .ok (.ireturn, 1) := by decide +kernel
abbrev rm_X12_digit : Room := { frames := 0, cells := 0, slots := 0, locals := 0 }
noncomputable def fX12_digit_b5_i (x2 : Int32) (x3 : Int32) (x4 : Int32) : Option ((Int32 × Int32) ⊕ (Int32)) :=
  y_br (x2 ≤ x4)
    (y_mp <|
    y_gd (!decide ((3 : Int32) = 0)) <|
    some (x3 - x3 / (3 : Int32) * (3 : Int32)))
    (y_gd (!decide ((3 : Int32) = 0)) <|
    y_nm ((x3 / (3 : Int32))) fun v5 =>
    y_nm (x4 + 1) fun v6 =>
    some (.inl (v5, v6)))
noncomputable def fX12_digit_b5 (x2 : Int32) (x3 : Int32) (x4 : Int32) : Option (Int32) := y_lp (fun q : Int32 × Int32 => fX12_digit_b5_i x2 q.1 q.2) (x3, x4)
noncomputable def fX12_digit (o0 : Nat) (x1 : Int32) (x2 : Int32) : Option (Int32) :=
  fX12_digit_b5 x2 x1 (0 : Int32)
set_option maxHeartbeats 4000000 in
set_option maxRecDepth 100000 in
theorem mm_X12_digit {G : z_Gt} {S : State → Prop} (hSK : z_SK S) (l : Launch) (ad : Nat → Nat) (o0 : Nat) (x1 : Int32) (x2 : Int32) (h : z_T) {r0 : Int32} (hv : fX12_digit o0 x1 x2 = some r0) : z_Mi G S l yX12_digit cX12_digit 5 (.int) rm_X12_digit 0 0 [.ref (ad o0), .int x1, .int x2] ad h h r0 := by
  refine z_ofW hSK (by decide) (Nat.le_of_ble_eq_true rfl) ?_
  intro p e s m args below meth c ls hc hr hnm hB hl
  have hx := hc.1.1
  have hb := hc.1.2.1
  have hown := hc.1.2.2.2.1
  have hts := hc.1.2.2.2.2
  replace hc : z_C G S ad (z_n h) p m c cX12_digit 5 s args RX12 meth := hc
  replace hown : s.vm.findClass RX12 = some m.cls := hown
  replace hl : lv_has ls 5 [(0, .ref (ad o0)), (1, .int x1), (2, .int x2)] := hl
  show W p l e rm_X12_digit s m args below meth c s.heap [] 0 0 (MQ below (z_Qi G ad h (z_n h) s.heap.size r0) args s 0 0 (z_A ad (z_n h) s.heap.size)) (F0 m 0 ls [])
  obtain ⟨rs, kt⟩ : ∃ rs : Int32, rs = r0 := ⟨_, rfl⟩
  generalize hn0 : z_n h = n0 at hc hB ⊢
  have L5 : ∀ (nn5 : Nat) (x3 : Int32) (x4 : Int32) (H : Heap) (locs : List Loc) (ls : Array Slot), z_B G ad n0 s h H locs → lv_has ls 5 [(2, .int x2), (3, .int x3), (4, .int x4)] → ∀ vv5, y_lpN (fun q : Int32 × Int32 => fX12_digit_b5_i x2 q.1 q.2) nn5 (x3, x4) = some vv5 → vv5 = r0 → W p l e rm_X12_digit s m args below meth c H locs 0 0 (MQ below (z_Qi G ad h n0 s.heap.size r0) args s 0 0 (z_A ad n0 s.heap.size)) (F0 m 5 ls []) := by
    intro nn5
    induction nn5 with
    | zero => intro x3 x4 H locs ls hB hl vv5 hv kv5; exact absurd hv (fun q => y_lpN_0 q)
    | succ nn5 ih5 =>
      intro x3 x4 H locs ls hB hl vv5 hv kv5
      obtain ⟨w, hq, kw5⟩ := y_lpN_e hv
      clear hv
      have hv : fX12_digit_b5_i x2 x3 x4 = some w := hq
      clear hq
      refine lv_iload hx hb dX12_digit_5 (lv_at hl 2 rfl) ?_
      refine lv_iload_n hx hb dX12_digit_7 rfl (lv_at hl 0 rfl) ?_
      refine lv_icmp_ge (tgt := 21) hx hb dX12_digit_8 (by decide) (fun c1 => ?_) (fun c1 => ?_)
      · replace hv := y_br_t hv c1
        obtain ⟨t2, hq, ew⟩ := y_mp_e hv
        clear hv; subst ew
        replace kw5 : t2 = _ := kw5
        subst kw5
        have hv := hq
        clear hq
        refine lv_iload_n hx hb dX12_digit_21 rfl (lv_at hl 1 rfl) ?_
        refine lv_iconst (v := (3 : Int32)) hx hb dX12_digit_22 (by decide) ?_
        obtain ⟨z3, hv⟩ := y_gd_e hv
        refine lv_irem hx hb dX12_digit_23 (y_ne z3) ?_
        replace hv := Option.some.inj hv
        subst hv
        rw [← kv5]
        exact z_iret hc hB hr dX12_digit_24
      · replace hv := y_br_f hv c1
        refine lv_iload_n hx hb dX12_digit_11 rfl (lv_at hl 1 rfl) ?_
        refine lv_iconst (v := (3 : Int32)) hx hb dX12_digit_12 (by decide) ?_
        obtain ⟨z4, hv⟩ := y_gd_e hv
        refine lv_idiv hx hb dX12_digit_13 (y_ne z4) ?_
        obtain ⟨v5, ev5, hv⟩ := y_nm_e hv
        rw [← ev5]
        refine lv_istore_n (lv' := [(3, .int v5), (2, .int x2), (4, .int x4)]) hx hb dX12_digit_14 rfl hl (by decide) rfl (fun ls hl => ?_)
        obtain ⟨v6, ev6, hv⟩ := y_nm_e hv
        refine lv_iinc (v := v6) (lv' := [(4, .int v6), (3, .int v5), (2, .int x2)]) hx hb dX12_digit_15 hl (k := 2) rfl (by rw [ev6]; rfl) (by decide) rfl (fun ls hl => ?_)
        refine lv_goto (tgt := 5) hx hb dX12_digit_18 (by decide) ?_
        replace hv := Option.some.inj hv
        subst hv
        exact ih5 v5 v6 _ _ _ hB (lv_sub hl [2, 1, 0] rfl) _ kw5 kv5
  rw [← kt] at hv
  refine lv_iload_n hx hb dX12_digit_0 rfl (lv_at hl 1 rfl) ?_
  refine lv_istore_n (lv' := [(3, .int x1), (0, .ref (ad o0)), (1, .int x1), (2, .int x2)]) hx hb dX12_digit_1 rfl hl (by decide) rfl (fun ls hl => ?_)
  refine lv_iconst (v := (0 : Int32)) hx hb dX12_digit_2 (by decide) ?_
  refine lv_istore (lv' := [(4, .int (0 : Int32)), (3, .int x1), (0, .ref (ad o0)), (1, .int x1), (2, .int x2)]) hx hb dX12_digit_3 hl (by decide) rfl (fun ls hl => ?_)
  obtain ⟨n, hv⟩ := y_lp_e hv
  exact L5 n x1 (0 : Int32) _ _ _ hB (lv_sub hl [4, 1, 0] rfl) _ hv kt
theorem qmX12_311 : Cond.methodLink RX12 311 yX12_digit ∈ z_ws := List.mem_filter.mpr ⟨List.mem_append_right _ (List.mem_of_getElem? (i := 1711) (by decide +kernel)), rfl⟩
theorem qc_X12_digit : Cond.code yX12_digit cX12_digit 5 (some .int) ∈ z_ws := List.mem_filter.mpr ⟨List.mem_append_right _ (List.mem_of_getElem? (i := 1714) (by decide +kernel)), rfl⟩
theorem qi_X12_digit : Cond.instanceMethod yX12_digit ∈ z_ws := List.mem_filter.mpr ⟨List.mem_append_right _ (List.mem_of_getElem? (i := 1713) (by decide +kernel)), rfl⟩
theorem qs_X12_digit : Cond.selects RX12 yX12_digit yX12_digit ∈ z_ws := List.mem_filter.mpr ⟨List.mem_append_left _ (List.mem_of_getElem? (i := 67) (by decide +kernel)), rfl⟩
theorem md_X12_digit : z_mdV yX12_digit cX12_digit 5 (some .int) 2 := ⟨⟨qn_RX12, qc_X12_digit, ⟨by decide +kernel, by decide +kernel, by decide +kernel⟩⟩, qi_X12_digit, qs_X12_digit⟩
theorem dX12_askedIn_0 : decode cX12_askedIn 0 = .ok (.iconst 0, 1) := by decide +kernel
theorem dX12_askedIn_1 : decode cX12_askedIn 1 = .ok (.istore_n 2, 1) := by decide +kernel
theorem dX12_askedIn_2 : decode cX12_askedIn 2 = .ok (.iconst 0, 1) := by decide +kernel
theorem dX12_askedIn_3 : decode cX12_askedIn 3 = .ok (.istore_n 3, 1) := by decide +kernel
theorem dX12_askedIn_4 : decode cX12_askedIn 4 = .ok (.iload_n 3, 1) := by decide +kernel
theorem dX12_askedIn_5 : decode cX12_askedIn 5 = .ok (.bipush 6, 2) := by decide +kernel
theorem dX12_askedIn_7 : decode cX12_askedIn 7 = .ok (.if_icmp .ge 26, 3) := by decide +kernel
theorem dX12_askedIn_10 : decode cX12_askedIn 10 = .ok (.iload_n 2, 1) := by decide +kernel
theorem dX12_askedIn_11 : decode cX12_askedIn 11 = .ok (.aload_n 0, 1) := by decide +kernel
theorem dX12_askedIn_12 : decode cX12_askedIn 12 = .ok (.iload_n 1, 1) := by decide +kernel
theorem dX12_askedIn_13 : decode cX12_askedIn 13 = .ok (.iload_n 3, 1) := by decide +kernel
theorem dX12_askedIn_14 : decode cX12_askedIn 14 = .ok (.invokevirtual 311, 3) := by decide +kernel
theorem dX12_askedIn_17 : decode cX12_askedIn 17 = .ok (.ifCond .le 7, 3) := by decide +kernel
theorem dX12_askedIn_20 : decode cX12_askedIn 20 = .ok (.iconst 1, 1) := by decide +kernel
theorem dX12_askedIn_21 : decode cX12_askedIn 21 = .ok (.goto 4, 3) := by decide +kernel
theorem dX12_askedIn_24 : decode cX12_askedIn 24 = .ok (.iconst 0, 1) := by decide +kernel
theorem dX12_askedIn_25 : decode cX12_askedIn 25 = .ok (.iadd, 1) := by decide +kernel
theorem dX12_askedIn_26 : decode cX12_askedIn 26 = .ok (.istore_n 2, 1) := by decide +kernel
theorem dX12_askedIn_27 : decode cX12_askedIn 27 = .ok (.iinc 3 1, 3) := by decide +kernel
theorem dX12_askedIn_30 : decode cX12_askedIn 30 = .ok (.goto (-26), 3) := by decide +kernel
theorem dX12_askedIn_33 : decode cX12_askedIn 33 = .ok (.iload_n 2, 1) := by decide +kernel
theorem dX12_askedIn_34 : decode cX12_askedIn 34 = .ok (.ireturn, 1) := by decide +kernel
abbrev rm_X12_askedIn : Room := { frames := 1, cells := 0, slots := 0, locals := 24 }
noncomputable def fX12_askedIn_b25 (o0 : Nat) (x1 : Int32) (x3 : Int32) (s0 : Int32) (s1 : Int32) (h : z_T) : Option ((Int32 × Int32) ⊕ (Int32)) :=
  y_nm ((s0 + s1)) fun v1 =>
  y_nm (x3 + 1) fun v2 =>
  some (.inl (v1, v2))
noncomputable def fX12_askedIn_b4_i (o0 : Nat) (x1 : Int32) (h : z_T) (x2 : Int32) (x3 : Int32) : Option ((Int32 × Int32) ⊕ (Int32)) :=
  y_br ((6 : Int32) ≤ x3)
    (y_mp <|
    some x2)
    (y_gd (z_ok h o0 11) <|
    y_bi (fX12_digit o0 x1 x3) fun r6 =>
    y_br (r6 ≤ 0)
      (fX12_askedIn_b25 o0 x1 x3 x2 (0 : Int32) h)
      (fX12_askedIn_b25 o0 x1 x3 x2 (1 : Int32) h))
noncomputable def fX12_askedIn_b4 (o0 : Nat) (x1 : Int32) (x2 : Int32) (x3 : Int32) (h : z_T) : Option (Int32) := y_lp (fun q : Int32 × Int32 => fX12_askedIn_b4_i o0 x1 h q.1 q.2) (x2, x3)
noncomputable def fX12_askedIn (o0 : Nat) (x1 : Int32) (h : z_T) : Option (Int32) :=
  fX12_askedIn_b4 o0 x1 (0 : Int32) (0 : Int32) h
set_option maxHeartbeats 4000000 in
set_option maxRecDepth 100000 in
theorem mm_X12_askedIn {G : z_Gt} {S : State → Prop} (hSK : z_SK S) (l : Launch) (ad : Nat → Nat) (o0 : Nat) (x1 : Int32) (h : z_T) {r0 : Int32} (hv : fX12_askedIn o0 x1 h = some r0) : z_Mi G S l yX12_askedIn cX12_askedIn 4 (.int) rm_X12_askedIn 0 0 [.ref (ad o0), .int x1] ad h h r0 := by
  refine z_ofW hSK (by decide) (Nat.le_of_ble_eq_true rfl) ?_
  intro p e s m args below meth c ls hc hr hnm hB hl
  have hx := hc.1.1
  have hb := hc.1.2.1
  have hown := hc.1.2.2.2.1
  have hts := hc.1.2.2.2.2
  replace hc : z_C G S ad (z_n h) p m c cX12_askedIn 4 s args RX12 meth := hc
  replace hown : s.vm.findClass RX12 = some m.cls := hown
  replace hl : lv_has ls 4 [(0, .ref (ad o0)), (1, .int x1)] := hl
  show W p l e rm_X12_askedIn s m args below meth c s.heap [] 0 0 (MQ below (z_Qi G ad h (z_n h) s.heap.size r0) args s 0 0 (z_A ad (z_n h) s.heap.size)) (F0 m 0 ls [])
  obtain ⟨rs, kt⟩ : ∃ rs : Int32, rs = r0 := ⟨_, rfl⟩
  generalize hn0 : z_n h = n0 at hc hB ⊢
  have L4 : ∀ (nn4 : Nat) (x2 : Int32) (x3 : Int32) (H : Heap) (locs : List Loc) (ls : Array Slot), z_B G ad n0 s h H locs → lv_has ls 4 [(0, .ref (ad o0)), (1, .int x1), (2, .int x2), (3, .int x3)] → ∀ vv4, y_lpN (fun q : Int32 × Int32 => fX12_askedIn_b4_i o0 x1 h q.1 q.2) nn4 (x2, x3) = some vv4 → vv4 = r0 → W p l e rm_X12_askedIn s m args below meth c H locs 0 0 (MQ below (z_Qi G ad h n0 s.heap.size r0) args s 0 0 (z_A ad n0 s.heap.size)) (F0 m 4 ls []) := by
    intro nn4
    induction nn4 with
    | zero => intro x2 x3 H locs ls hB hl vv4 hv kv4; exact absurd hv (fun q => y_lpN_0 q)
    | succ nn4 ih4 =>
      intro x2 x3 H locs ls hB hl vv4 hv kv4
      obtain ⟨w, hq, kw4⟩ := y_lpN_e hv
      clear hv
      have hv : fX12_askedIn_b4_i o0 x1 h x2 x3 = some w := hq
      clear hq
      have b25 : ∀ (x3 : Int32) (s0 : Int32) (s1 : Int32) (H : Heap) (locs : List Loc) (ls : Array Slot), z_B G ad n0 s h H locs → lv_has ls 4 [(0, .ref (ad o0)), (1, .int x1), (3, .int x3)] → ∀ w, fX12_askedIn_b25 o0 x1 x3 s0 s1 h = some w → y_lq (fun q : Int32 × Int32 => fX12_askedIn_b4_i o0 x1 h q.1 q.2) nn4 vv4 w → W p l e rm_X12_askedIn s m args below meth c H locs 0 0 (MQ below (z_Qi G ad h n0 s.heap.size r0) args s 0 0 (z_A ad n0 s.heap.size)) (F0 m 25 ls [.int s1, .int s0]) := by
        intro x3 s0 s1 H locs ls hB hl w hv kw4
        refine lv_iadd hx hb dX12_askedIn_25 ?_
        obtain ⟨v1, ev1, hv⟩ := y_nm_e hv
        rw [← ev1]
        refine lv_istore_n (lv' := [(2, .int v1), (0, .ref (ad o0)), (1, .int x1), (3, .int x3)]) hx hb dX12_askedIn_26 rfl hl (by decide) rfl (fun ls hl => ?_)
        obtain ⟨v2, ev2, hv⟩ := y_nm_e hv
        refine lv_iinc (v := v2) (lv' := [(3, .int v2), (2, .int v1), (0, .ref (ad o0)), (1, .int x1)]) hx hb dX12_askedIn_27 hl (k := 3) rfl (by rw [ev2]; rfl) (by decide) rfl (fun ls hl => ?_)
        refine lv_goto (tgt := 4) hx hb dX12_askedIn_30 (by decide) ?_
        replace hv := Option.some.inj hv
        subst hv
        exact ih4 v1 v2 _ _ _ hB (lv_sub hl [2, 3, 1, 0] rfl) _ kw4 kv4
      refine lv_iload_n hx hb dX12_askedIn_4 rfl (lv_at hl 3 rfl) ?_
      refine lv_bipush (v := (6 : Int32)) hx hb dX12_askedIn_5 (by decide) ?_
      refine lv_icmp_ge (tgt := 33) hx hb dX12_askedIn_7 (by decide) (fun c3 => ?_) (fun c3 => ?_)
      · replace hv := y_br_t hv c3
        obtain ⟨t4, hq, ew⟩ := y_mp_e hv
        clear hv; subst ew
        replace kw4 : t4 = _ := kw4
        subst kw4
        have hv := hq
        clear hq
        refine lv_iload_n hx hb dX12_askedIn_33 rfl (lv_at hl 2 rfl) ?_
        replace hv := Option.some.inj hv
        subst hv
        rw [← kv4]
        exact z_iret hc hB hr dX12_askedIn_34
      · replace hv := y_br_f hv c3
        refine lv_iload_n hx hb dX12_askedIn_10 rfl (lv_at hl 2 rfl) ?_
        refine lv_aload_n hx hb dX12_askedIn_11 rfl (lv_at hl 0 rfl) ?_
        refine lv_iload_n hx hb dX12_askedIn_12 rfl (lv_at hl 1 rfl) ?_
        refine lv_iload_n hx hb dX12_askedIn_13 rfl (lv_at hl 3 rfl) ?_
        obtain ⟨g10, hv⟩ := y_gd_e hv
        obtain ⟨r6, c5, hv⟩ := y_bi_e hv
        refine z_thI hc hB (z_runV hc hB 11 (mm_X12_digit hSK l ad o0 x1 x3 h c5) md_X12_digit qmX12_311 g10 (by decide) rfl rfl rfl ⟨Nat.le_of_ble_eq_true rfl, Nat.le_of_ble_eq_true rfl⟩ rfl hl.1 rfl (Nat.le_of_ble_eq_true rfl) dX12_askedIn_14 ⟨Nat.le_of_ble_eq_true rfl, Nat.le_of_ble_eq_true rfl⟩) (fun H locs hB => ?_)
        refine lv_if_le (tgt := 24) hx hb dX12_askedIn_17 (by decide) (fun c11 => ?_) (fun c11 => ?_)
        · replace hv := y_br_t hv c11
          refine lv_iconst (v := (0 : Int32)) hx hb dX12_askedIn_24 (by decide) ?_
          exact b25 x3 x2 (0 : Int32) _ _ _ hB (lv_sub hl [0, 1, 3] rfl) _ hv kw4
        · replace hv := y_br_f hv c11
          refine lv_iconst (v := (1 : Int32)) hx hb dX12_askedIn_20 (by decide) ?_
          refine lv_goto (tgt := 25) hx hb dX12_askedIn_21 (by decide) ?_
          exact b25 x3 x2 (1 : Int32) _ _ _ hB (lv_sub hl [0, 1, 3] rfl) _ hv kw4
  rw [← kt] at hv
  refine lv_iconst (v := (0 : Int32)) hx hb dX12_askedIn_0 (by decide) ?_
  refine lv_istore_n (lv' := [(2, .int (0 : Int32)), (0, .ref (ad o0)), (1, .int x1)]) hx hb dX12_askedIn_1 rfl hl (by decide) rfl (fun ls hl => ?_)
  refine lv_iconst (v := (0 : Int32)) hx hb dX12_askedIn_2 (by decide) ?_
  refine lv_istore_n (lv' := [(3, .int (0 : Int32)), (2, .int (0 : Int32)), (0, .ref (ad o0)), (1, .int x1)]) hx hb dX12_askedIn_3 rfl hl (by decide) rfl (fun ls hl => ?_)
  obtain ⟨n, hv⟩ := y_lp_e hv
  exact L4 n (0 : Int32) (0 : Int32) _ _ _ hB (lv_sub hl [2, 3, 1, 0] rfl) _ hv kt
theorem qfX12_317 : Cond.fieldLink RX12 317 "DreamTestsModel" "dreams0" "J" ∈ z_ws := List.mem_filter.mpr ⟨List.mem_append_right _ (List.mem_of_getElem? (i := 1328) (by decide +kernel)), rfl⟩
theorem qfX12_314 : Cond.fieldLink RX12 314 "DreamTestsModel" "room0" "J" ∈ z_ws := List.mem_filter.mpr ⟨List.mem_append_right _ (List.mem_of_getElem? (i := 1327) (by decide +kernel)), rfl⟩
theorem dX12_weighs_0 : decode cX12_weighs 0 = .ok (.aload_n 0, 1) := by decide +kernel
theorem dX12_weighs_1 : decode cX12_weighs 1 = .ok (.lconst 0, 1) := by decide +kernel
theorem dX12_weighs_2 : decode cX12_weighs 2 = .ok (.putfield 314, 3) := by decide +kernel
theorem dX12_weighs_5 : decode cX12_weighs 5 = .ok (.aload_n 0, 1) := by decide +kernel
theorem dX12_weighs_6 : decode cX12_weighs 6 = .ok (.lconst 0, 1) := by decide +kernel
theorem dX12_weighs_7 : decode cX12_weighs 7 = .ok (.putfield 317, 3) := by decide +kernel
theorem dX12_weighs_10 : decode cX12_weighs 10 = .ok (.iconst 0, 1) := by decide +kernel
theorem dX12_weighs_11 : decode cX12_weighs 11 = .ok (.istore_n 2, 1) := by decide +kernel
theorem dX12_weighs_12 : decode cX12_weighs 12 = .ok (.iload_n 2, 1) := by decide +kernel
theorem dX12_weighs_13 : decode cX12_weighs 13 = .ok (.aload_n 0, 1) := by decide +kernel
theorem dX12_weighs_14 : decode cX12_weighs 14 = .ok (.invokevirtual 253, 3) := by decide +kernel
theorem dX12_weighs_17 : decode cX12_weighs 17 = .ok (.if_icmp .ge 113, 3) := by decide +kernel
theorem dX12_weighs_20 : decode cX12_weighs 20 = .ok (.aload_n 0, 1) := by decide +kernel
theorem dX12_weighs_21 : decode cX12_weighs 21 = .ok (.iload_n 2, 1) := by decide +kernel
theorem dX12_weighs_22 : decode cX12_weighs 22 = .ok (.invokevirtual 256, 3) := by decide +kernel
theorem dX12_weighs_25 : decode cX12_weighs 25 = .ok (.i2l, 1) := by decide +kernel
theorem dX12_weighs_26 : decode cX12_weighs 26 = .ok (.lstore_n 3, 1) := by decide +kernel
theorem dX12_weighs_27 : decode cX12_weighs 27 = .ok (.iconst 0, 1) := by decide +kernel
theorem dX12_weighs_28 : decode cX12_weighs 28 = .ok (.istore 5, 2) := by decide +kernel
theorem dX12_weighs_30 : decode cX12_weighs 30 = .ok (.iload 5, 2) := by decide +kernel
theorem dX12_weighs_32 : decode cX12_weighs 32 = .ok (.bipush 6, 2) := by decide +kernel
theorem dX12_weighs_34 : decode cX12_weighs 34 = .ok (.if_icmp .ge 54, 3) := by decide +kernel
theorem dX12_weighs_37 : decode cX12_weighs 37 = .ok (.aload_n 0, 1) := by decide +kernel
theorem dX12_weighs_38 : decode cX12_weighs 38 = .ok (.iload_n 1, 1) := by decide +kernel
theorem dX12_weighs_39 : decode cX12_weighs 39 = .ok (.iload 5, 2) := by decide +kernel
theorem dX12_weighs_41 : decode cX12_weighs 41 = .ok (.invokevirtual 311, 3) := by decide +kernel
theorem dX12_weighs_44 : decode cX12_weighs 44 = .ok (.istore 6, 2) := by decide +kernel
theorem dX12_weighs_46 : decode cX12_weighs 46 = .ok (.iload 6, 2) := by decide +kernel
theorem dX12_weighs_48 : decode cX12_weighs 48 = .ok (.ifCond .le 34, 3) := by decide +kernel
theorem dX12_weighs_51 : decode cX12_weighs 51 = .ok (.lload_n 3, 1) := by decide +kernel
theorem dX12_weighs_52 : decode cX12_weighs 52 = .ok (.iload 6, 2) := by decide +kernel
theorem dX12_weighs_54 : decode cX12_weighs 54 = .ok (.iconst 1, 1) := by decide +kernel
theorem dX12_weighs_55 : decode cX12_weighs 55 = .ok (.if_icmp .ne 14, 3) := by decide +kernel
theorem dX12_weighs_58 : decode cX12_weighs 58 = .ok (.aload_n 0, 1) := by decide +kernel
theorem dX12_weighs_59 : decode cX12_weighs 59 = .ok (.iload_n 2, 1) := by decide +kernel
theorem dX12_weighs_60 : decode cX12_weighs 60 = .ok (.iload 5, 2) := by decide +kernel
theorem dX12_weighs_62 : decode cX12_weighs 62 = .ok (.invokevirtual 250, 3) := by decide +kernel
theorem dX12_weighs_65 : decode cX12_weighs 65 = .ok (.i2l, 1) := by decide +kernel
theorem dX12_weighs_66 : decode cX12_weighs 66 = .ok (.goto 14, 3) := by decide +kernel
theorem dX12_weighs_69 : decode cX12_weighs 69 = .ok (.bipush 9, 2) := by decide +kernel
theorem dX12_weighs_71 : decode cX12_weighs 71 = .ok (.aload_n 0, 1) := by decide +kernel
theorem dX12_weighs_72 : decode cX12_weighs 72 = .ok (.iload_n 2, 1) := by decide +kernel
theorem dX12_weighs_73 : decode cX12_weighs 73 = .ok (.iload 5, 2) := by decide +kernel
theorem dX12_weighs_75 : decode cX12_weighs 75 = .ok (.invokevirtual 250, 3) := by decide +kernel
theorem dX12_weighs_78 : decode cX12_weighs 78 = .ok (.isub, 1) := by decide +kernel
theorem dX12_weighs_79 : decode cX12_weighs 79 = .ok (.i2l, 1) := by decide +kernel
theorem dX12_weighs_80 : decode cX12_weighs 80 = .ok (.lmul, 1) := by decide +kernel
theorem dX12_weighs_81 : decode cX12_weighs 81 = .ok (.lstore_n 3, 1) := by decide +kernel
theorem dX12_weighs_82 : decode cX12_weighs 82 = .ok (.iinc 5 1, 3) := by decide +kernel
theorem dX12_weighs_85 : decode cX12_weighs 85 = .ok (.goto (-55), 3) := by decide +kernel
theorem dX12_weighs_88 : decode cX12_weighs 88 = .ok (.aload_n 0, 1) := by decide +kernel
theorem dX12_weighs_89 : decode cX12_weighs 89 = .ok (.dup, 1) := by decide +kernel
theorem dX12_weighs_90 : decode cX12_weighs 90 = .ok (.getfield 314, 3) := by decide +kernel
theorem dX12_weighs_93 : decode cX12_weighs 93 = .ok (.iload_n 2, 1) := by decide +kernel
theorem dX12_weighs_94 : decode cX12_weighs 94 = .ok (.ifCond .ne 7, 3) := by decide +kernel
theorem dX12_weighs_97 : decode cX12_weighs 97 = .ok (.lload_n 3, 1) := by decide +kernel
theorem dX12_weighs_98 : decode cX12_weighs 98 = .ok (.goto 4, 3) := by decide +kernel
theorem dX12_weighs_101 : decode cX12_weighs 101 = .ok (.lconst 0, 1) := by decide +kernel
theorem dX12_weighs_102 : decode cX12_weighs 102 = .ok (.ladd, 1) := by decide +kernel
theorem dX12_weighs_103 : decode cX12_weighs 103 = .ok (.putfield 314, 3) := by decide +kernel
theorem dX12_weighs_106 : decode cX12_weighs 106 = .ok (.aload_n 0, 1) := by decide +kernel
theorem dX12_weighs_107 : decode cX12_weighs 107 = .ok (.dup, 1) := by decide +kernel
theorem dX12_weighs_108 : decode cX12_weighs 108 = .ok (.getfield 317, 3) := by decide +kernel
theorem dX12_weighs_111 : decode cX12_weighs 111 = .ok (.iload_n 2, 1) := by decide +kernel
theorem dX12_weighs_112 : decode cX12_weighs 112 = .ok (.ifCond .le 7, 3) := by decide +kernel
theorem dX12_weighs_115 : decode cX12_weighs 115 = .ok (.lload_n 3, 1) := by decide +kernel
theorem dX12_weighs_116 : decode cX12_weighs 116 = .ok (.goto 4, 3) := by decide +kernel
theorem dX12_weighs_119 : decode cX12_weighs 119 = .ok (.lconst 0, 1) := by decide +kernel
theorem dX12_weighs_120 : decode cX12_weighs 120 = .ok (.ladd, 1) := by decide +kernel
theorem dX12_weighs_121 : decode cX12_weighs 121 = .ok (.putfield 317, 3) := by decide +kernel
theorem dX12_weighs_124 : decode cX12_weighs 124 = .ok (.iinc 2 1, 3) := by decide +kernel
theorem dX12_weighs_127 : decode cX12_weighs 127 = .ok (.goto (-115), 3) := by decide +kernel
theorem dX12_weighs_130 : decode cX12_weighs 130 = .ok (.return_, 1) := by decide +kernel
abbrev rm_X12_weighs : Room := { frames := 2, cells := 0, slots := 0, locals := 43 }
noncomputable def fX12_weighs_b120 (o0 : Nat) (x1 : Int32) (x2 : Int32) (s0 : Nat) (s1 : Int64) (s2 : Int64) (h : z_T) : Option ((Int32 × z_T) ⊕ (z_T)) :=
  y_gd (z_ok h s0 11) <|
  y_nm (z_sL h s0 28 (s1 + s2)) fun h2 =>
  y_nm (x2 + 1) fun v3 =>
  some (.inl (v3, h2))
noncomputable def fX12_weighs_b102 (o0 : Nat) (x1 : Int32) (x2 : Int32) (l3 : Int64) (s0 : Nat) (s1 : Int64) (s2 : Int64) (h : z_T) : Option ((Int32 × z_T) ⊕ (z_T)) :=
  y_gd (z_ok h s0 11) <|
  y_nm (z_sL h s0 27 (s1 + s2)) fun h5 =>
  y_gd (z_ok h5 o0 11) <|
  y_br (x2 ≤ 0)
    (fX12_weighs_b120 o0 x1 x2 o0 (z_L h5 o0 28) (0 : Int64) h5)
    (fX12_weighs_b120 o0 x1 x2 o0 (z_L h5 o0 28) l3 h5)
noncomputable def fX12_weighs_b82 (o0 : Nat) (x1 : Int32) (x2 : Int32) (l3 : Int64) (x5 : Int32) (h : z_T) : Option ((Int64 × Int32) ⊕ ((Int32 × z_T) ⊕ (z_T))) :=
  y_nm (x5 + 1) fun v8 =>
  some (.inl (l3, v8))
noncomputable def fX12_weighs_b80 (o0 : Nat) (x1 : Int32) (x2 : Int32) (x5 : Int32) (s0 : Int64) (s1 : Int64) (h : z_T) : Option ((Int64 × Int32) ⊕ ((Int32 × z_T) ⊕ (z_T))) :=
  y_nm ((s0 * s1)) fun v9 =>
  fX12_weighs_b82 o0 x1 x2 v9 x5 h
noncomputable def fX12_weighs_b30_i (o0 : Nat) (x1 : Int32) (x2 : Int32) (h : z_T) (l3 : Int64) (x5 : Int32) : Option ((Int64 × Int32) ⊕ ((Int32 × z_T) ⊕ (z_T))) :=
  y_br ((6 : Int32) ≤ x5)
    (y_mp <|
    y_gd (z_ok h o0 11) <|
    y_br (x2 = 0)
      (fX12_weighs_b102 o0 x1 x2 l3 o0 (z_L h o0 27) l3 h)
      (fX12_weighs_b102 o0 x1 x2 l3 o0 (z_L h o0 27) (0 : Int64) h))
    (y_gd (z_ok h o0 11) <|
    y_bi (fX12_digit o0 x1 x5) fun r15 =>
    y_br (r15 ≤ 0)
      (fX12_weighs_b82 o0 x1 x2 l3 x5 h)
      (y_br (r15 = (1 : Int32))
        (y_bi (fX12_plain o0 x2 x5 h) fun r28 =>
        fX12_weighs_b80 o0 x1 x2 x5 l3 ((r28).toInt64) h)
        (y_bi (fX12_plain o0 x2 x5 h) fun r23 =>
        fX12_weighs_b80 o0 x1 x2 x5 l3 ((((9 : Int32) - r23)).toInt64) h)))
noncomputable def fX12_weighs_b30 (o0 : Nat) (x1 : Int32) (x2 : Int32) (l3 : Int64) (x5 : Int32) (h : z_T) : Option ((Int32 × z_T) ⊕ (z_T)) := y_lp (fun q : Int64 × Int32 => fX12_weighs_b30_i o0 x1 x2 h q.1 q.2) (l3, x5)
noncomputable def fX12_weighs_b12_i (o0 : Nat) (x1 : Int32) (x2 : Int32) (h : z_T) : Option ((Int32 × z_T) ⊕ (z_T)) :=
  y_gd (z_ok h o0 11) <|
  y_bi (fX12_places o0 h) fun r33 =>
  y_br (r33 ≤ x2)
    (y_mp <|
    some h)
    (y_bi (fX12_weightOf o0 x2 h) fun r41 =>
    y_nm ((r41).toInt64) fun v45 =>
    fX12_weighs_b30 o0 x1 x2 v45 (0 : Int32) h)
noncomputable def fX12_weighs_b12 (o0 : Nat) (x1 : Int32) (x2 : Int32) (h : z_T) : Option (z_T) := y_lp (fun q : Int32 × z_T => fX12_weighs_b12_i o0 x1 q.1 q.2) (x2, h)
noncomputable def fX12_weighs (o0 : Nat) (x1 : Int32) (h : z_T) : Option (z_T) :=
  y_gd (z_ok h o0 11) <|
  y_nm (z_sL h o0 27 (0 : Int64)) fun h47 =>
  y_nm (z_sL h47 o0 28 (0 : Int64)) fun h48 =>
  fX12_weighs_b12 o0 x1 (0 : Int32) h48
set_option maxHeartbeats 4000000 in
set_option maxRecDepth 100000 in
theorem mm_X12_weighs {G : z_Gt} {S : State → Prop} (hSK : z_SK S) (l : Launch) (ad : Nat → Nat) (o0 : Nat) (x1 : Int32) (h : z_T) {h9 : z_T} (hv : fX12_weighs o0 x1 h = some h9) : z_Mv G S l yX12_weighs cX12_weighs 7 rm_X12_weighs 0 0 [.ref (ad o0), .int x1] ad h h9 := by
  refine z_ofW hSK (by decide) (Nat.le_of_ble_eq_true rfl) ?_
  intro p e s m args below meth c ls hc hr hnm hB hl
  have hx := hc.1.1
  have hb := hc.1.2.1
  have hown := hc.1.2.2.2.1
  have hts := hc.1.2.2.2.2
  replace hc : z_C G S ad (z_n h) p m c cX12_weighs 7 s args RX12 meth := hc
  replace hown : s.vm.findClass RX12 = some m.cls := hown
  replace hl : lv_has ls 7 [(0, .ref (ad o0)), (1, .int x1)] := hl
  show W p l e rm_X12_weighs s m args below meth c s.heap [] 0 0 (MQ below (z_Qv G ad h9 (z_n h) s.heap.size) args s 0 0 (z_A ad (z_n h) s.heap.size)) (F0 m 0 ls [])
  obtain ⟨rs, kt⟩ : ∃ rs : z_T, rs = h9 := ⟨_, rfl⟩
  generalize hn0 : z_n h = n0 at hc hB ⊢
  have L12 : ∀ (nn12 : Nat) (x2 : Int32) (h : z_T) (H : Heap) (locs : List Loc) (ls : Array Slot), z_B G ad n0 s h H locs → lv_has ls 7 [(0, .ref (ad o0)), (1, .int x1), (2, .int x2)] → ∀ vv12, y_lpN (fun q : Int32 × z_T => fX12_weighs_b12_i o0 x1 q.1 q.2) nn12 (x2, h) = some vv12 → vv12 = h9 → W p l e rm_X12_weighs s m args below meth c H locs 0 0 (MQ below (z_Qv G ad h9 n0 s.heap.size) args s 0 0 (z_A ad n0 s.heap.size)) (F0 m 12 ls []) := by
    intro nn12
    induction nn12 with
    | zero => intro x2 h H locs ls hB hl vv12 hv kv12; exact absurd hv (fun q => y_lpN_0 q)
    | succ nn12 ih12 =>
      intro x2 h H locs ls hB hl vv12 hv kv12
      obtain ⟨w, hq, kw12⟩ := y_lpN_e hv
      clear hv
      have hv : fX12_weighs_b12_i o0 x1 x2 h = some w := hq
      clear hq
      have b120 : ∀ (x2 : Int32) (s0 : Nat) (s1 : Int64) (s2 : Int64) (h : z_T) (H : Heap) (locs : List Loc) (ls : Array Slot), z_B G ad n0 s h H locs → lv_has ls 7 [(0, .ref (ad o0)), (1, .int x1), (2, .int x2)] → ∀ w, fX12_weighs_b120 o0 x1 x2 s0 s1 s2 h = some w → y_lq (fun q : Int32 × z_T => fX12_weighs_b12_i o0 x1 q.1 q.2) nn12 vv12 w → W p l e rm_X12_weighs s m args below meth c H locs 0 0 (MQ below (z_Qv G ad h9 n0 s.heap.size) args s 0 0 (z_A ad n0 s.heap.size)) (F0 m 120 ls [.long s2, .long s1, .ref (ad s0)]) := by
        intro x2 s0 s1 s2 h H locs ls hB hl w hv kw12
        refine lv_ladd hx hb dX12_weighs_120 ?_
        obtain ⟨g1, hv⟩ := y_gd_e hv
        obtain ⟨h2, eh2, hv⟩ := y_nm_e hv
        refine y_putL hc hB 11 28 eh2 g1 (z_l1 hc qfX12_317) dX12_weighs_121 (by decide) (by decide) rfl rfl rfl rfl (fun H locs hB => ?_)
        obtain ⟨v3, ev3, hv⟩ := y_nm_e hv
        refine lv_iinc (v := v3) (lv' := [(2, .int v3), (0, .ref (ad o0)), (1, .int x1)]) hx hb dX12_weighs_124 hl (k := 2) rfl (by rw [ev3]; rfl) (by decide) rfl (fun ls hl => ?_)
        refine lv_goto (tgt := 12) hx hb dX12_weighs_127 (by decide) ?_
        replace hv := Option.some.inj hv
        subst hv
        exact ih12 v3 h2 _ _ _ hB (lv_sub hl [1, 2, 0] rfl) _ kw12 kv12
      have b102 : ∀ (x2 : Int32) (l3 : Int64) (s0 : Nat) (s1 : Int64) (s2 : Int64) (h : z_T) (H : Heap) (locs : List Loc) (ls : Array Slot), z_B G ad n0 s h H locs → lv_has ls 7 [(0, .ref (ad o0)), (1, .int x1), (2, .int x2), (3, .long l3)] → ∀ w, fX12_weighs_b102 o0 x1 x2 l3 s0 s1 s2 h = some w → y_lq (fun q : Int32 × z_T => fX12_weighs_b12_i o0 x1 q.1 q.2) nn12 vv12 w → W p l e rm_X12_weighs s m args below meth c H locs 0 0 (MQ below (z_Qv G ad h9 n0 s.heap.size) args s 0 0 (z_A ad n0 s.heap.size)) (F0 m 102 ls [.long s2, .long s1, .ref (ad s0)]) := by
        intro x2 l3 s0 s1 s2 h H locs ls hB hl w hv kw12
        refine lv_ladd hx hb dX12_weighs_102 ?_
        obtain ⟨g4, hv⟩ := y_gd_e hv
        obtain ⟨h5, eh5, hv⟩ := y_nm_e hv
        refine y_putL hc hB 11 27 eh5 g4 (z_l1 hc qfX12_314) dX12_weighs_103 (by decide) (by decide) rfl rfl rfl rfl (fun H locs hB => ?_)
        refine lv_aload_n hx hb dX12_weighs_106 rfl (lv_at hl 0 rfl) ?_
        refine lv_dup hx hb dX12_weighs_107 rfl ?_
        obtain ⟨g6, hv⟩ := y_gd_e hv
        refine z_getL hc hB 11 28 g6 (by decide) (by decide) rfl (z_l1 hc qfX12_317) dX12_weighs_108 ?_
        refine lv_iload_n hx hb dX12_weighs_111 rfl (lv_at hl 2 rfl) ?_
        refine lv_if_le (tgt := 119) hx hb dX12_weighs_112 (by decide) (fun c7 => ?_) (fun c7 => ?_)
        · replace hv := y_br_t hv c7
          refine lv_lconst (v := (0 : Int64)) hx hb dX12_weighs_119 (by decide) ?_
          exact b120 x2 o0 (z_L h5 o0 28) (0 : Int64) h5 _ _ _ hB (lv_sub hl [0, 1, 2] rfl) _ hv kw12
        · replace hv := y_br_f hv c7
          refine lv_lload_n hx hb dX12_weighs_115 rfl (lv_at hl 3 rfl) ?_
          refine lv_goto (tgt := 120) hx hb dX12_weighs_116 (by decide) ?_
          exact b120 x2 o0 (z_L h5 o0 28) l3 h5 _ _ _ hB (lv_sub hl [0, 1, 2] rfl) _ hv kw12
      have L30 : ∀ (x2 : Int32) (h : z_T) (nn30 : Nat) (l3 : Int64) (x5 : Int32) (H : Heap) (locs : List Loc) (ls : Array Slot), z_B G ad n0 s h H locs → lv_has ls 7 [(0, .ref (ad o0)), (1, .int x1), (2, .int x2), (3, .long l3), (5, .int x5)] → ∀ vv30, y_lpN (fun q : Int64 × Int32 => fX12_weighs_b30_i o0 x1 x2 h q.1 q.2) nn30 (l3, x5) = some vv30 → y_lq (fun q : Int32 × z_T => fX12_weighs_b12_i o0 x1 q.1 q.2) nn12 vv12 vv30 → W p l e rm_X12_weighs s m args below meth c H locs 0 0 (MQ below (z_Qv G ad h9 n0 s.heap.size) args s 0 0 (z_A ad n0 s.heap.size)) (F0 m 30 ls []) := by
        intro x2 h nn30
        induction nn30 with
        | zero => intro l3 x5 H locs ls hB hl vv30 hv kv30; exact absurd hv (fun q => y_lpN_0 q)
        | succ nn30 ih30 =>
          intro l3 x5 H locs ls hB hl vv30 hv kv30
          obtain ⟨w, hq, kw30⟩ := y_lpN_e hv
          clear hv
          have hv : fX12_weighs_b30_i o0 x1 x2 h l3 x5 = some w := hq
          clear hq
          have b82 : ∀ (l3 : Int64) (x5 : Int32) (H : Heap) (locs : List Loc) (ls : Array Slot), z_B G ad n0 s h H locs → lv_has ls 7 [(0, .ref (ad o0)), (1, .int x1), (2, .int x2), (3, .long l3), (5, .int x5)] → ∀ w, fX12_weighs_b82 o0 x1 x2 l3 x5 h = some w → y_lq (fun q : Int64 × Int32 => fX12_weighs_b30_i o0 x1 x2 h q.1 q.2) nn30 vv30 w → W p l e rm_X12_weighs s m args below meth c H locs 0 0 (MQ below (z_Qv G ad h9 n0 s.heap.size) args s 0 0 (z_A ad n0 s.heap.size)) (F0 m 82 ls []) := by
            intro l3 x5 H locs ls hB hl w hv kw30
            obtain ⟨v8, ev8, hv⟩ := y_nm_e hv
            refine lv_iinc (v := v8) (lv' := [(5, .int v8), (0, .ref (ad o0)), (1, .int x1), (2, .int x2), (3, .long l3)]) hx hb dX12_weighs_82 hl (k := 4) rfl (by rw [ev8]; rfl) (by decide) rfl (fun ls hl => ?_)
            refine lv_goto (tgt := 30) hx hb dX12_weighs_85 (by decide) ?_
            replace hv := Option.some.inj hv
            subst hv
            exact ih30 l3 v8 _ _ _ hB (lv_sub hl [1, 2, 3, 4, 0] rfl) _ kw30 kv30
          have b80 : ∀ (x5 : Int32) (s0 : Int64) (s1 : Int64) (H : Heap) (locs : List Loc) (ls : Array Slot), z_B G ad n0 s h H locs → lv_has ls 7 [(0, .ref (ad o0)), (1, .int x1), (2, .int x2), (5, .int x5)] → ∀ w, fX12_weighs_b80 o0 x1 x2 x5 s0 s1 h = some w → y_lq (fun q : Int64 × Int32 => fX12_weighs_b30_i o0 x1 x2 h q.1 q.2) nn30 vv30 w → W p l e rm_X12_weighs s m args below meth c H locs 0 0 (MQ below (z_Qv G ad h9 n0 s.heap.size) args s 0 0 (z_A ad n0 s.heap.size)) (F0 m 80 ls [.long s1, .long s0]) := by
            intro x5 s0 s1 H locs ls hB hl w hv kw30
            refine lv_lmul hx hb dX12_weighs_80 ?_
            obtain ⟨v9, ev9, hv⟩ := y_nm_e hv
            rw [← ev9]
            refine lv_lstore_n (lv' := [(3, .long v9), (0, .ref (ad o0)), (1, .int x1), (2, .int x2), (5, .int x5)]) hx hb dX12_weighs_81 rfl hl (by decide) rfl (fun ls hl => ?_)
            exact b82 v9 x5 _ _ _ hB (lv_sub hl [1, 2, 3, 0, 4] rfl) _ hv kw30
          refine lv_iload hx hb dX12_weighs_30 (lv_at hl 4 rfl) ?_
          refine lv_bipush (v := (6 : Int32)) hx hb dX12_weighs_32 (by decide) ?_
          refine lv_icmp_ge (tgt := 88) hx hb dX12_weighs_34 (by decide) (fun c10 => ?_) (fun c10 => ?_)
          · replace hv := y_br_t hv c10
            obtain ⟨t11, hq, ew⟩ := y_mp_e hv
            clear hv; subst ew
            replace kw30 : t11 = _ := kw30
            subst kw30
            have hv := hq
            clear hq
            refine lv_aload_n hx hb dX12_weighs_88 rfl (lv_at hl 0 rfl) ?_
            refine lv_dup hx hb dX12_weighs_89 rfl ?_
            obtain ⟨g12, hv⟩ := y_gd_e hv
            refine z_getL hc hB 11 27 g12 (by decide) (by decide) rfl (z_l1 hc qfX12_314) dX12_weighs_90 ?_
            refine lv_iload_n hx hb dX12_weighs_93 rfl (lv_at hl 2 rfl) ?_
            refine lv_if_ne (tgt := 101) hx hb dX12_weighs_94 (by decide) (fun c13 => ?_) (fun c13 => ?_)
            · replace hv := y_br_f hv c13
              refine lv_lconst (v := (0 : Int64)) hx hb dX12_weighs_101 (by decide) ?_
              exact b102 x2 l3 o0 (z_L h o0 27) (0 : Int64) h _ _ _ hB (lv_sub hl [0, 1, 2, 3] rfl) _ hv kv30
            · replace hv := y_br_t hv c13
              refine lv_lload_n hx hb dX12_weighs_97 rfl (lv_at hl 3 rfl) ?_
              refine lv_goto (tgt := 102) hx hb dX12_weighs_98 (by decide) ?_
              exact b102 x2 l3 o0 (z_L h o0 27) l3 h _ _ _ hB (lv_sub hl [0, 1, 2, 3] rfl) _ hv kv30
          · replace hv := y_br_f hv c10
            refine lv_aload_n hx hb dX12_weighs_37 rfl (lv_at hl 0 rfl) ?_
            refine lv_iload_n hx hb dX12_weighs_38 rfl (lv_at hl 1 rfl) ?_
            refine lv_iload hx hb dX12_weighs_39 (lv_at hl 4 rfl) ?_
            obtain ⟨g19, hv⟩ := y_gd_e hv
            obtain ⟨r15, c14, hv⟩ := y_bi_e hv
            refine z_thI hc hB (z_runV hc hB 11 (mm_X12_digit hSK l ad o0 x1 x5 h c14) md_X12_digit qmX12_311 g19 (by decide) rfl rfl rfl ⟨Nat.le_of_ble_eq_true rfl, Nat.le_of_ble_eq_true rfl⟩ rfl hl.1 rfl (Nat.le_of_ble_eq_true rfl) dX12_weighs_41 ⟨Nat.le_of_ble_eq_true rfl, Nat.le_of_ble_eq_true rfl⟩) (fun H locs hB => ?_)
            refine lv_istore (lv' := [(6, .int r15), (0, .ref (ad o0)), (1, .int x1), (2, .int x2), (3, .long l3), (5, .int x5)]) hx hb dX12_weighs_44 hl (by decide) rfl (fun ls hl => ?_)
            refine lv_iload hx hb dX12_weighs_46 (lv_at hl 0 rfl) ?_
            refine lv_if_le (tgt := 82) hx hb dX12_weighs_48 (by decide) (fun c20 => ?_) (fun c20 => ?_)
            · replace hv := y_br_t hv c20
              exact b82 l3 x5 _ _ _ hB (lv_sub hl [1, 2, 3, 4, 5] rfl) _ hv kw30
            · replace hv := y_br_f hv c20
              refine lv_lload_n hx hb dX12_weighs_51 rfl (lv_at hl 4 rfl) ?_
              refine lv_iload hx hb dX12_weighs_52 (lv_at hl 0 rfl) ?_
              refine lv_iconst (v := (1 : Int32)) hx hb dX12_weighs_54 (by decide) ?_
              refine lv_icmp_ne (tgt := 69) hx hb dX12_weighs_55 (by decide) (fun c21 => ?_) (fun c21 => ?_)
              · replace hv := y_br_f hv c21
                refine lv_bipush (v := (9 : Int32)) hx hb dX12_weighs_69 (by decide) ?_
                refine lv_aload_n hx hb dX12_weighs_71 rfl (lv_at hl 1 rfl) ?_
                refine lv_iload_n hx hb dX12_weighs_72 rfl (lv_at hl 3 rfl) ?_
                refine lv_iload hx hb dX12_weighs_73 (lv_at hl 5 rfl) ?_
                obtain ⟨r23, c22, hv⟩ := y_bi_e hv
                refine z_thI hc hB (z_runV hc hB 11 (mm_X12_plain hSK l ad o0 x2 x5 h c22) md_X12_plain qmX12_250 g19 (by decide) rfl rfl rfl ⟨Nat.le_of_ble_eq_true rfl, Nat.le_of_ble_eq_true rfl⟩ rfl hl.1 rfl (Nat.le_of_ble_eq_true rfl) dX12_weighs_75 ⟨Nat.le_of_ble_eq_true rfl, Nat.le_of_ble_eq_true rfl⟩) (fun H locs hB => ?_)
                refine lv_isub hx hb dX12_weighs_78 ?_
                refine lv_i2l hx hb dX12_weighs_79 rfl ?_
                exact b80 x5 l3 ((((9 : Int32) - r23)).toInt64) _ _ _ hB (lv_sub hl [1, 2, 3, 5] rfl) _ hv kw30
              · replace hv := y_br_t hv c21
                refine lv_aload_n hx hb dX12_weighs_58 rfl (lv_at hl 1 rfl) ?_
                refine lv_iload_n hx hb dX12_weighs_59 rfl (lv_at hl 3 rfl) ?_
                refine lv_iload hx hb dX12_weighs_60 (lv_at hl 5 rfl) ?_
                obtain ⟨r28, c27, hv⟩ := y_bi_e hv
                refine z_thI hc hB (z_runV hc hB 11 (mm_X12_plain hSK l ad o0 x2 x5 h c27) md_X12_plain qmX12_250 g19 (by decide) rfl rfl rfl ⟨Nat.le_of_ble_eq_true rfl, Nat.le_of_ble_eq_true rfl⟩ rfl hl.1 rfl (Nat.le_of_ble_eq_true rfl) dX12_weighs_62 ⟨Nat.le_of_ble_eq_true rfl, Nat.le_of_ble_eq_true rfl⟩) (fun H locs hB => ?_)
                refine lv_i2l hx hb dX12_weighs_65 rfl ?_
                refine lv_goto (tgt := 80) hx hb dX12_weighs_66 (by decide) ?_
                exact b80 x5 l3 ((r28).toInt64) _ _ _ hB (lv_sub hl [1, 2, 3, 5] rfl) _ hv kw30
      refine lv_iload_n hx hb dX12_weighs_12 rfl (lv_at hl 2 rfl) ?_
      refine lv_aload_n hx hb dX12_weighs_13 rfl (lv_at hl 0 rfl) ?_
      obtain ⟨g37, hv⟩ := y_gd_e hv
      obtain ⟨r33, c32, hv⟩ := y_bi_e hv
      refine z_thI hc hB (z_runV hc hB 11 (mm_X12_places hSK l ad o0 h c32) md_X12_places qmX12_253 g37 (by decide) rfl rfl rfl ⟨Nat.le_of_ble_eq_true rfl, Nat.le_of_ble_eq_true rfl⟩ rfl hl.1 rfl (Nat.le_of_ble_eq_true rfl) dX12_weighs_14 ⟨Nat.le_of_ble_eq_true rfl, Nat.le_of_ble_eq_true rfl⟩) (fun H locs hB => ?_)
      refine lv_icmp_ge (tgt := 130) hx hb dX12_weighs_17 (by decide) (fun c38 => ?_) (fun c38 => ?_)
      · replace hv := y_br_t hv c38
        obtain ⟨t39, hq, ew⟩ := y_mp_e hv
        clear hv; subst ew
        replace kw12 : t39 = _ := kw12
        subst kw12
        have hv := hq
        clear hq
        replace hv := Option.some.inj hv
        subst hv
        rw [← kv12]
        exact z_vret hc hB hr dX12_weighs_130
      · replace hv := y_br_f hv c38
        refine lv_aload_n hx hb dX12_weighs_20 rfl (lv_at hl 0 rfl) ?_
        refine lv_iload_n hx hb dX12_weighs_21 rfl (lv_at hl 2 rfl) ?_
        obtain ⟨r41, c40, hv⟩ := y_bi_e hv
        refine z_thI hc hB (z_runV hc hB 11 (mm_X12_weightOf hSK l ad o0 x2 h c40) md_X12_weightOf qmX12_256 g37 (by decide) rfl rfl rfl ⟨Nat.le_of_ble_eq_true rfl, Nat.le_of_ble_eq_true rfl⟩ rfl hl.1 rfl (Nat.le_of_ble_eq_true rfl) dX12_weighs_22 ⟨Nat.le_of_ble_eq_true rfl, Nat.le_of_ble_eq_true rfl⟩) (fun H locs hB => ?_)
        refine lv_i2l hx hb dX12_weighs_25 rfl ?_
        obtain ⟨v45, ev45, hv⟩ := y_nm_e hv
        rw [← ev45]
        refine lv_lstore_n (lv' := [(3, .long v45), (0, .ref (ad o0)), (1, .int x1), (2, .int x2)]) hx hb dX12_weighs_26 rfl hl (by decide) rfl (fun ls hl => ?_)
        refine lv_iconst (v := (0 : Int32)) hx hb dX12_weighs_27 (by decide) ?_
        refine lv_istore (lv' := [(5, .int (0 : Int32)), (3, .long v45), (0, .ref (ad o0)), (1, .int x1), (2, .int x2)]) hx hb dX12_weighs_28 hl (by decide) rfl (fun ls hl => ?_)
        obtain ⟨n, hv⟩ := y_lp_e hv
        exact L30 x2 h n v45 (0 : Int32) _ _ _ hB (lv_sub hl [2, 3, 4, 1, 0] rfl) _ hv kw12
  rw [← kt] at hv
  refine lv_aload_n hx hb dX12_weighs_0 rfl (lv_at hl 0 rfl) ?_
  refine lv_lconst (v := (0 : Int64)) hx hb dX12_weighs_1 (by decide) ?_
  obtain ⟨g46, hv⟩ := y_gd_e hv
  obtain ⟨h47, eh47, hv⟩ := y_nm_e hv
  refine y_putL hc hB 11 27 eh47 g46 (z_l1 hc qfX12_314) dX12_weighs_2 (by decide) (by decide) rfl rfl rfl rfl (fun H locs hB => ?_)
  refine lv_aload_n hx hb dX12_weighs_5 rfl (lv_at hl 0 rfl) ?_
  refine lv_lconst (v := (0 : Int64)) hx hb dX12_weighs_6 (by decide) ?_
  obtain ⟨h48, eh48, hv⟩ := y_nm_e hv
  refine y_putL hc hB 11 28 eh48 (by rw [eh47]; exact g46) (z_l1 hc qfX12_317) dX12_weighs_7 (by decide) (by decide) rfl rfl rfl rfl (fun H locs hB => ?_)
  refine lv_iconst (v := (0 : Int32)) hx hb dX12_weighs_10 (by decide) ?_
  refine lv_istore_n (lv' := [(2, .int (0 : Int32)), (0, .ref (ad o0)), (1, .int x1)]) hx hb dX12_weighs_11 rfl hl (by decide) rfl (fun ls hl => ?_)
  obtain ⟨n, hv⟩ := y_lp_e hv
  exact L12 n (0 : Int32) h48 _ _ _ hB (lv_sub hl [1, 2, 0] rfl) _ hv kt
theorem dX12_isUpCheap_0 : decode cX12_isUpCheap 0 = .ok (.aload_n 0, 1) := by decide +kernel
theorem dX12_isUpCheap_1 : decode cX12_isUpCheap 1 = .ok (.getfield 33, 3) := by decide +kernel
theorem dX12_isUpCheap_4 : decode cX12_isUpCheap 4 = .ok (.bipush 6, 2) := by decide +kernel
theorem dX12_isUpCheap_6 : decode cX12_isUpCheap 6 = .ok (.iaload, 1) := by decide +kernel
theorem dX12_isUpCheap_7 : decode cX12_isUpCheap 7 = .ok (.i2l, 1) := by decide +kernel
theorem dX12_isUpCheap_8 : decode cX12_isUpCheap 8 = .ok (.aload_n 0, 1) := by decide +kernel
theorem dX12_isUpCheap_9 : decode cX12_isUpCheap 9 = .ok (.getfield 317, 3) := by decide +kernel
theorem dX12_isUpCheap_12 : decode cX12_isUpCheap 12 = .ok (.lmul, 1) := by decide +kernel
theorem dX12_isUpCheap_13 : decode cX12_isUpCheap 13 = .ok (.aload_n 0, 1) := by decide +kernel
theorem dX12_isUpCheap_14 : decode cX12_isUpCheap 14 = .ok (.getfield 33, 3) := by decide +kernel
theorem dX12_isUpCheap_17 : decode cX12_isUpCheap 17 = .ok (.iconst 5, 1) := by decide +kernel
theorem dX12_isUpCheap_18 : decode cX12_isUpCheap 18 = .ok (.iaload, 1) := by decide +kernel
theorem dX12_isUpCheap_19 : decode cX12_isUpCheap 19 = .ok (.i2l, 1) := by decide +kernel
theorem dX12_isUpCheap_20 : decode cX12_isUpCheap 20 = .ok (.aload_n 0, 1) := by decide +kernel
theorem dX12_isUpCheap_21 : decode cX12_isUpCheap 21 = .ok (.getfield 314, 3) := by decide +kernel
theorem dX12_isUpCheap_24 : decode cX12_isUpCheap 24 = .ok (.lmul, 1) := by decide +kernel
theorem dX12_isUpCheap_25 : decode cX12_isUpCheap 25 = .ok (.lcmp, 1) := by decide +kernel
theorem dX12_isUpCheap_26 : decode cX12_isUpCheap 26 = .ok (.ifCond .gt 7, 3) := by decide +kernel
theorem dX12_isUpCheap_29 : decode cX12_isUpCheap 29 = .ok (.iconst 1, 1) := by decide +kernel
theorem dX12_isUpCheap_30 : decode cX12_isUpCheap 30 = .ok (.goto 4, 3) := by decide +kernel
theorem dX12_isUpCheap_33 : decode cX12_isUpCheap 33 = .ok (.iconst 0, 1) := by decide +kernel
theorem dX12_isUpCheap_34 : decode cX12_isUpCheap 34 = .ok (.ireturn, 1) := by decide +kernel
abbrev rm_X12_isUpCheap : Room := { frames := 0, cells := 0, slots := 0, locals := 0 }
noncomputable def fX12_isUpCheap (o0 : Nat) (h : z_T) : Option (Int32) :=
  y_gd (z_ok h o0 11) <|
  y_bi (z_R h o0 6) fun o2 =>
  y_gd (z_ok h o2 13) <|
  y_gd (z_ix (6 : Int32) (z_N h o2)) <|
  y_gd (z_ix (5 : Int32) (z_N h o2)) <|
  y_br (0 < (lg_cmp (((z_I h o2 (6 : Int32).toNatClampNeg)).toInt64 * (z_L h o0 28)) (((z_I h o2 (5 : Int32).toNatClampNeg)).toInt64 * (z_L h o0 27))))
    (some (0 : Int32))
    (some (1 : Int32))
set_option maxHeartbeats 4000000 in
set_option maxRecDepth 100000 in
theorem mm_X12_isUpCheap {G : z_Gt} {S : State → Prop} (hSK : z_SK S) (l : Launch) (ad : Nat → Nat) (o0 : Nat) (h : z_T) {r0 : Int32} (hv : fX12_isUpCheap o0 h = some r0) : z_Mi G S l yX12_isUpCheap cX12_isUpCheap 1 (.boolean) rm_X12_isUpCheap 0 0 [.ref (ad o0)] ad h h r0 := by
  refine z_ofW hSK (by decide) (Nat.le_of_ble_eq_true rfl) ?_
  intro p e s m args below meth c ls hc hr hnm hB hl
  have hx := hc.1.1
  have hb := hc.1.2.1
  have hown := hc.1.2.2.2.1
  have hts := hc.1.2.2.2.2
  replace hc : z_C G S ad (z_n h) p m c cX12_isUpCheap 1 s args RX12 meth := hc
  replace hown : s.vm.findClass RX12 = some m.cls := hown
  replace hl : lv_has ls 1 [(0, .ref (ad o0))] := hl
  show W p l e rm_X12_isUpCheap s m args below meth c s.heap [] 0 0 (MQ below (z_Qi G ad h (z_n h) s.heap.size r0) args s 0 0 (z_A ad (z_n h) s.heap.size)) (F0 m 0 ls [])
  obtain ⟨rs, kt⟩ : ∃ rs : Int32, rs = r0 := ⟨_, rfl⟩
  generalize hn0 : z_n h = n0 at hc hB ⊢
  rw [← kt] at hv
  refine lv_aload_n hx hb dX12_isUpCheap_0 rfl (lv_at hl 0 rfl) ?_
  obtain ⟨g1, hv⟩ := y_gd_e hv
  obtain ⟨o2, eo2, hv⟩ := y_bi_e hv
  refine z_getR hc hB 11 6 g1 eo2 (by decide) (by decide) rfl (z_l1 hc qfX12_33) dX12_isUpCheap_1 ?_
  refine lv_bipush (v := (6 : Int32)) hx hb dX12_isUpCheap_4 (by decide) ?_
  obtain ⟨g3, hv⟩ := y_gd_e hv
  obtain ⟨i4, hv⟩ := y_gd_e hv
  refine z_iald hc hB g3 i4 dX12_isUpCheap_6 ?_
  refine lv_i2l hx hb dX12_isUpCheap_7 rfl ?_
  refine lv_aload_n hx hb dX12_isUpCheap_8 rfl (lv_at hl 0 rfl) ?_
  refine z_getL hc hB 11 28 g1 (by decide) (by decide) rfl (z_l1 hc qfX12_317) dX12_isUpCheap_9 ?_
  refine lv_lmul hx hb dX12_isUpCheap_12 ?_
  refine lv_aload_n hx hb dX12_isUpCheap_13 rfl (lv_at hl 0 rfl) ?_
  refine z_getR hc hB 11 6 g1 eo2 (by decide) (by decide) rfl (z_l1 hc qfX12_33) dX12_isUpCheap_14 ?_
  refine lv_iconst (v := (5 : Int32)) hx hb dX12_isUpCheap_17 (by decide) ?_
  obtain ⟨i5, hv⟩ := y_gd_e hv
  refine z_iald hc hB g3 i5 dX12_isUpCheap_18 ?_
  refine lv_i2l hx hb dX12_isUpCheap_19 rfl ?_
  refine lv_aload_n hx hb dX12_isUpCheap_20 rfl (lv_at hl 0 rfl) ?_
  refine z_getL hc hB 11 27 g1 (by decide) (by decide) rfl (z_l1 hc qfX12_314) dX12_isUpCheap_21 ?_
  refine lv_lmul hx hb dX12_isUpCheap_24 ?_
  refine W.lcmp hx hb dX12_isUpCheap_25 ?_
  refine lv_if_gt (tgt := 33) hx hb dX12_isUpCheap_26 (by decide) (fun c6 => ?_) (fun c6 => ?_)
  · replace hv := y_br_t hv c6
    refine lv_iconst (v := (0 : Int32)) hx hb dX12_isUpCheap_33 (by decide) ?_
    replace hv := Option.some.inj hv
    subst hv
    rw [← kt]
    exact z_zret hc hB hr rfl dX12_isUpCheap_34
  · replace hv := y_br_f hv c6
    refine lv_iconst (v := (1 : Int32)) hx hb dX12_isUpCheap_29 (by decide) ?_
    refine lv_goto (tgt := 34) hx hb dX12_isUpCheap_30 (by decide) ?_
    replace hv := Option.some.inj hv
    subst hv
    rw [← kt]
    exact z_zret hc hB hr rfl dX12_isUpCheap_34
theorem qfX12_59 : Cond.fieldLink RX12 59 "DreamTestsModel" "costs" "[J" ∈ z_ws := List.mem_filter.mpr ⟨List.mem_append_right _ (List.mem_of_getElem? (i := 1325) (by decide +kernel)), rfl⟩
theorem qfX12_62 : Cond.fieldLink RX12 62 "DreamTestsModel" "chosen" "[I" ∈ z_ws := List.mem_filter.mpr ⟨List.mem_append_right _ (List.mem_of_getElem? (i := 1326) (by decide +kernel)), rfl⟩
theorem qmX12_320 : Cond.methodLink RX12 320 yX12_askedIn ∈ z_ws := List.mem_filter.mpr ⟨List.mem_append_right _ (List.mem_of_getElem? (i := 1707) (by decide +kernel)), rfl⟩
theorem qc_X12_askedIn : Cond.code yX12_askedIn cX12_askedIn 4 (some .int) ∈ z_ws := List.mem_filter.mpr ⟨List.mem_append_right _ (List.mem_of_getElem? (i := 1710) (by decide +kernel)), rfl⟩
theorem qi_X12_askedIn : Cond.instanceMethod yX12_askedIn ∈ z_ws := List.mem_filter.mpr ⟨List.mem_append_right _ (List.mem_of_getElem? (i := 1709) (by decide +kernel)), rfl⟩
theorem qs_X12_askedIn : Cond.selects RX12 yX12_askedIn yX12_askedIn ∈ z_ws := List.mem_filter.mpr ⟨List.mem_append_left _ (List.mem_of_getElem? (i := 66) (by decide +kernel)), rfl⟩
theorem md_X12_askedIn : z_mdV yX12_askedIn cX12_askedIn 4 (some .int) 1 := ⟨⟨qn_RX12, qc_X12_askedIn, ⟨by decide +kernel, by decide +kernel, by decide +kernel⟩⟩, qi_X12_askedIn, qs_X12_askedIn⟩
theorem qmX12_323 : Cond.methodLink RX12 323 yX12_weighs ∈ z_ws := List.mem_filter.mpr ⟨List.mem_append_right _ (List.mem_of_getElem? (i := 1715) (by decide +kernel)), rfl⟩
theorem qc_X12_weighs : Cond.code yX12_weighs cX12_weighs 7 none ∈ z_ws := List.mem_filter.mpr ⟨List.mem_append_right _ (List.mem_of_getElem? (i := 1718) (by decide +kernel)), rfl⟩
theorem qi_X12_weighs : Cond.instanceMethod yX12_weighs ∈ z_ws := List.mem_filter.mpr ⟨List.mem_append_right _ (List.mem_of_getElem? (i := 1717) (by decide +kernel)), rfl⟩
theorem qs_X12_weighs : Cond.selects RX12 yX12_weighs yX12_weighs ∈ z_ws := List.mem_filter.mpr ⟨List.mem_append_left _ (List.mem_of_getElem? (i := 68) (by decide +kernel)), rfl⟩
theorem md_X12_weighs : z_mdV yX12_weighs cX12_weighs 7 none 1 := ⟨⟨qn_RX12, qc_X12_weighs, ⟨by decide +kernel, by decide +kernel, by decide +kernel⟩⟩, qi_X12_weighs, qs_X12_weighs⟩
theorem dX12_costsBy_0 : decode cX12_costsBy 0 = .ok (.iload_n 1, 1) := by decide +kernel
theorem dX12_costsBy_1 : decode cX12_costsBy 1 = .ok (.istore_n 2, 1) := by decide +kernel
theorem dX12_costsBy_2 : decode cX12_costsBy 2 = .ok (.iload_n 2, 1) := by decide +kernel
theorem dX12_costsBy_3 : decode cX12_costsBy 3 = .ok (.ifCond .lt 187, 3) := by decide +kernel
theorem dX12_costsBy_6 : decode cX12_costsBy 6 = .ok (.iconst 0, 1) := by decide +kernel
theorem dX12_costsBy_7 : decode cX12_costsBy 7 = .ok (.istore_n 3, 1) := by decide +kernel
theorem dX12_costsBy_8 : decode cX12_costsBy 8 = .ok (.iload_n 3, 1) := by decide +kernel
theorem dX12_costsBy_9 : decode cX12_costsBy 9 = .ok (.sipush 729, 3) := by decide +kernel
theorem dX12_costsBy_12 : decode cX12_costsBy 12 = .ok (.if_icmp .ge 172, 3) := by decide +kernel
theorem dX12_costsBy_15 : decode cX12_costsBy 15 = .ok (.aload_n 0, 1) := by decide +kernel
theorem dX12_costsBy_16 : decode cX12_costsBy 16 = .ok (.iload_n 3, 1) := by decide +kernel
theorem dX12_costsBy_17 : decode cX12_costsBy 17 = .ok (.invokevirtual 320, 3) := by decide +kernel
theorem dX12_costsBy_20 : decode cX12_costsBy 20 = .ok (.iload_n 2, 1) := by decide +kernel
theorem dX12_costsBy_21 : decode cX12_costsBy 21 = .ok (.if_icmp .eq 6, 3) := by decide +kernel
theorem dX12_costsBy_24 : decode cX12_costsBy 24 = .ok (.goto 154, 3) := by decide +kernel
theorem dX12_costsBy_27 : decode cX12_costsBy 27 = .ok (.aload_n 0, 1) := by decide +kernel
theorem dX12_costsBy_28 : decode cX12_costsBy 28 = .ok (.iload_n 3, 1) := by decide +kernel
theorem dX12_costsBy_29 : decode cX12_costsBy 29 = .ok (.invokevirtual 323, 3) := by decide +kernel
theorem dX12_costsBy_32 : decode cX12_costsBy 32 = .ok (.aload_n 0, 1) := by decide +kernel
theorem dX12_costsBy_33 : decode cX12_costsBy 33 = .ok (.getfield 59, 3) := by decide +kernel
theorem dX12_costsBy_36 : decode cX12_costsBy 36 = .ok (.iload_n 3, 1) := by decide +kernel
theorem dX12_costsBy_37 : decode cX12_costsBy 37 = .ok (.aload_n 0, 1) := by decide +kernel
theorem dX12_costsBy_38 : decode cX12_costsBy 38 = .ok (.getfield 33, 3) := by decide +kernel
theorem dX12_costsBy_41 : decode cX12_costsBy 41 = .ok (.iconst 5, 1) := by decide +kernel
theorem dX12_costsBy_42 : decode cX12_costsBy 42 = .ok (.iaload, 1) := by decide +kernel
theorem dX12_costsBy_43 : decode cX12_costsBy 43 = .ok (.i2l, 1) := by decide +kernel
theorem dX12_costsBy_44 : decode cX12_costsBy 44 = .ok (.aload_n 0, 1) := by decide +kernel
theorem dX12_costsBy_45 : decode cX12_costsBy 45 = .ok (.getfield 314, 3) := by decide +kernel
theorem dX12_costsBy_48 : decode cX12_costsBy 48 = .ok (.lmul, 1) := by decide +kernel
theorem dX12_costsBy_49 : decode cX12_costsBy 49 = .ok (.aload_n 0, 1) := by decide +kernel
theorem dX12_costsBy_50 : decode cX12_costsBy 50 = .ok (.getfield 33, 3) := by decide +kernel
theorem dX12_costsBy_53 : decode cX12_costsBy 53 = .ok (.bipush 6, 2) := by decide +kernel
theorem dX12_costsBy_55 : decode cX12_costsBy 55 = .ok (.iaload, 1) := by decide +kernel
theorem dX12_costsBy_56 : decode cX12_costsBy 56 = .ok (.i2l, 1) := by decide +kernel
theorem dX12_costsBy_57 : decode cX12_costsBy 57 = .ok (.aload_n 0, 1) := by decide +kernel
theorem dX12_costsBy_58 : decode cX12_costsBy 58 = .ok (.getfield 317, 3) := by decide +kernel
theorem dX12_costsBy_61 : decode cX12_costsBy 61 = .ok (.lmul, 1) := by decide +kernel
theorem dX12_costsBy_62 : decode cX12_costsBy 62 = .ok (.invokestatic 295, 3) := by decide +kernel
theorem dX12_costsBy_65 : decode cX12_costsBy 65 = .ok (.aload_n 0, 1) := by decide +kernel
theorem dX12_costsBy_66 : decode cX12_costsBy 66 = .ok (.bipush 9, 2) := by decide +kernel
theorem dX12_costsBy_68 : decode cX12_costsBy 68 = .ok (.iload_n 1, 1) := by decide +kernel
theorem dX12_costsBy_69 : decode cX12_costsBy 69 = .ok (.iload_n 2, 1) := by decide +kernel
theorem dX12_costsBy_70 : decode cX12_costsBy 70 = .ok (.isub, 1) := by decide +kernel
theorem dX12_costsBy_71 : decode cX12_costsBy 71 = .ok (.invokevirtual 307, 3) := by decide +kernel
theorem dX12_costsBy_74 : decode cX12_costsBy 74 = .ok (.lmul, 1) := by decide +kernel
theorem dX12_costsBy_75 : decode cX12_costsBy 75 = .ok (.lastore, 1) := by decide +kernel
theorem dX12_costsBy_76 : decode cX12_costsBy 76 = .ok (.aload_n 0, 1) := by decide +kernel
theorem dX12_costsBy_77 : decode cX12_costsBy 77 = .ok (.getfield 62, 3) := by decide +kernel
theorem dX12_costsBy_80 : decode cX12_costsBy 80 = .ok (.iload_n 3, 1) := by decide +kernel
theorem dX12_costsBy_81 : decode cX12_costsBy 81 = .ok (.iconst (-1), 1) := by decide +kernel
theorem dX12_costsBy_82 : decode cX12_costsBy 82 = .ok (.iastore, 1) := by decide +kernel
theorem dX12_costsBy_83 : decode cX12_costsBy 83 = .ok (.iconst 1, 1) := by decide +kernel
theorem dX12_costsBy_84 : decode cX12_costsBy 84 = .ok (.istore 4, 2) := by decide +kernel
theorem dX12_costsBy_86 : decode cX12_costsBy 86 = .ok (.iconst 0, 1) := by decide +kernel
theorem dX12_costsBy_87 : decode cX12_costsBy 87 = .ok (.istore 5, 2) := by decide +kernel
theorem dX12_costsBy_89 : decode cX12_costsBy 89 = .ok (.iload 5, 2) := by decide +kernel
theorem dX12_costsBy_91 : decode cX12_costsBy 91 = .ok (.aload_n 0, 1) := by decide +kernel
theorem dX12_costsBy_92 : decode cX12_costsBy 92 = .ok (.getfield 33, 3) := by decide +kernel
theorem dX12_costsBy_95 : decode cX12_costsBy 95 = .ok (.iconst 0, 1) := by decide +kernel
theorem dX12_costsBy_96 : decode cX12_costsBy 96 = .ok (.iaload, 1) := by decide +kernel
theorem dX12_costsBy_97 : decode cX12_costsBy 97 = .ok (.if_icmp .ge 81, 3) := by decide +kernel
theorem dX12_costsBy_100 : decode cX12_costsBy 100 = .ok (.iload_n 2, 1) := by decide +kernel
theorem dX12_costsBy_101 : decode cX12_costsBy 101 = .ok (.iload_n 1, 1) := by decide +kernel
theorem dX12_costsBy_102 : decode cX12_costsBy 102 = .ok (.if_icmp .ge 64, 3) := by decide +kernel
theorem dX12_costsBy_105 : decode cX12_costsBy 105 = .ok (.aload_n 0, 1) := by decide +kernel
theorem dX12_costsBy_106 : decode cX12_costsBy 106 = .ok (.iload_n 3, 1) := by decide +kernel
theorem dX12_costsBy_107 : decode cX12_costsBy 107 = .ok (.iload 5, 2) := by decide +kernel
theorem dX12_costsBy_109 : decode cX12_costsBy 109 = .ok (.invokevirtual 311, 3) := by decide +kernel
theorem dX12_costsBy_112 : decode cX12_costsBy 112 = .ok (.ifCond .ne 54, 3) := by decide +kernel
theorem dX12_costsBy_115 : decode cX12_costsBy 115 = .ok (.aload_n 0, 1) := by decide +kernel
theorem dX12_costsBy_116 : decode cX12_costsBy 116 = .ok (.getfield 59, 3) := by decide +kernel
theorem dX12_costsBy_119 : decode cX12_costsBy 119 = .ok (.iload_n 3, 1) := by decide +kernel
theorem dX12_costsBy_120 : decode cX12_costsBy 120 = .ok (.iload 4, 2) := by decide +kernel
theorem dX12_costsBy_122 : decode cX12_costsBy 122 = .ok (.iadd, 1) := by decide +kernel
theorem dX12_costsBy_123 : decode cX12_costsBy 123 = .ok (.laload, 1) := by decide +kernel
theorem dX12_costsBy_124 : decode cX12_costsBy 124 = .ok (.aload_n 0, 1) := by decide +kernel
theorem dX12_costsBy_125 : decode cX12_costsBy 125 = .ok (.getfield 59, 3) := by decide +kernel
theorem dX12_costsBy_128 : decode cX12_costsBy 128 = .ok (.iload_n 3, 1) := by decide +kernel
theorem dX12_costsBy_129 : decode cX12_costsBy 129 = .ok (.iconst 2, 1) := by decide +kernel
theorem dX12_costsBy_130 : decode cX12_costsBy 130 = .ok (.iload 4, 2) := by decide +kernel
theorem dX12_costsBy_132 : decode cX12_costsBy 132 = .ok (.imul, 1) := by decide +kernel
theorem dX12_costsBy_133 : decode cX12_costsBy 133 = .ok (.iadd, 1) := by decide +kernel
theorem dX12_costsBy_134 : decode cX12_costsBy 134 = .ok (.laload, 1) := by decide +kernel
theorem dX12_costsBy_135 : decode cX12_costsBy 135 = .ok (.ladd, 1) := by decide +kernel
theorem dX12_costsBy_136 : decode cX12_costsBy 136 = .ok (.lstore 6, 2) := by decide +kernel
theorem dX12_costsBy_138 : decode cX12_costsBy 138 = .ok (.lload 6, 2) := by decide +kernel
theorem dX12_costsBy_140 : decode cX12_costsBy 140 = .ok (.aload_n 0, 1) := by decide +kernel
theorem dX12_costsBy_141 : decode cX12_costsBy 141 = .ok (.getfield 59, 3) := by decide +kernel
theorem dX12_costsBy_144 : decode cX12_costsBy 144 = .ok (.iload_n 3, 1) := by decide +kernel
theorem dX12_costsBy_145 : decode cX12_costsBy 145 = .ok (.laload, 1) := by decide +kernel
theorem dX12_costsBy_146 : decode cX12_costsBy 146 = .ok (.lcmp, 1) := by decide +kernel
theorem dX12_costsBy_147 : decode cX12_costsBy 147 = .ok (.ifCond .ge 19, 3) := by decide +kernel
theorem dX12_costsBy_150 : decode cX12_costsBy 150 = .ok (.aload_n 0, 1) := by decide +kernel
theorem dX12_costsBy_151 : decode cX12_costsBy 151 = .ok (.getfield 59, 3) := by decide +kernel
theorem dX12_costsBy_154 : decode cX12_costsBy 154 = .ok (.iload_n 3, 1) := by decide +kernel
theorem dX12_costsBy_155 : decode cX12_costsBy 155 = .ok (.lload 6, 2) := by decide +kernel
theorem dX12_costsBy_157 : decode cX12_costsBy 157 = .ok (.lastore, 1) := by decide +kernel
theorem dX12_costsBy_158 : decode cX12_costsBy 158 = .ok (.aload_n 0, 1) := by decide +kernel
theorem dX12_costsBy_159 : decode cX12_costsBy 159 = .ok (.getfield 62, 3) := by decide +kernel
theorem dX12_costsBy_162 : decode cX12_costsBy 162 = .ok (.iload_n 3, 1) := by decide +kernel
theorem dX12_costsBy_163 : decode cX12_costsBy 163 = .ok (.iload 5, 2) := by decide +kernel
theorem dX12_costsBy_165 : decode cX12_costsBy 165 = .ok (.iastore, 1) := by decide +kernel
theorem dX12_costsBy_166 : decode cX12_costsBy 166 = .ok (.iload 4, 2) := by decide +kernel
theorem dX12_costsBy_168 : decode cX12_costsBy 168 = .ok (.iconst 3, 1) := by decide +kernel
theorem dX12_costsBy_169 : decode cX12_costsBy 169 = .ok (.imul, 1) := by decide +kernel
theorem dX12_costsBy_170 : decode cX12_costsBy 170 = .ok (.istore 4, 2) := by decide +kernel
theorem dX12_costsBy_172 : decode cX12_costsBy 172 = .ok (.iinc 5 1, 3) := by decide +kernel
theorem dX12_costsBy_175 : decode cX12_costsBy 175 = .ok (.goto (-86), 3) := by decide +kernel
theorem dX12_costsBy_178 : decode cX12_costsBy 178 = .ok (.iinc 3 1, 3) := by decide +kernel
theorem dX12_costsBy_181 : decode cX12_costsBy 181 = .ok (.goto (-173), 3) := by decide +kernel
theorem dX12_costsBy_184 : decode cX12_costsBy 184 = .ok (.iinc 2 (-1), 3) := by decide +kernel
theorem dX12_costsBy_187 : decode cX12_costsBy 187 = .ok (.goto (-185), 3) := by decide +kernel
theorem dX12_costsBy_190 : decode cX12_costsBy 190 = .ok (.return_, 1) := by decide +kernel
abbrev rm_X12_costsBy : Room := { frames := 3, cells := 0, slots := 0, locals := 69 }
noncomputable def fX12_costsBy_b178 (o0 : Nat) (x1 : Int32) (x2 : Int32) (x3 : Int32) (h : z_T) : Option ((Int32 × z_T) ⊕ ((Int32 × z_T) ⊕ (z_T))) :=
  y_nm (x3 + 1) fun v1 =>
  some (.inl (v1, h))
noncomputable def fX12_costsBy_b166 (o0 : Nat) (x1 : Int32) (x2 : Int32) (x3 : Int32) (x4 : Int32) (x5 : Int32) (h : z_T) : Option ((Int32 × Int32 × z_T) ⊕ ((Int32 × z_T) ⊕ ((Int32 × z_T) ⊕ (z_T)))) :=
  y_nm ((x4 * (3 : Int32))) fun v2 =>
  y_nm (x5 + 1) fun v3 =>
  some (.inl (v2, v3, h))
noncomputable def fX12_costsBy_b89_i (o0 : Nat) (x1 : Int32) (x2 : Int32) (x3 : Int32) (x4 : Int32) (x5 : Int32) (h : z_T) : Option ((Int32 × Int32 × z_T) ⊕ ((Int32 × z_T) ⊕ ((Int32 × z_T) ⊕ (z_T)))) :=
  y_gd (z_ok h o0 11) <|
  y_bi (z_R h o0 6) fun o5 =>
  y_gd (z_ok h o5 13) <|
  y_gd (z_ix (0 : Int32) (z_N h o5)) <|
  y_br ((z_I h o5 (0 : Int32).toNatClampNeg) ≤ x5)
    (y_mp <|
    fX12_costsBy_b178 o0 x1 x2 x3 h)
    (y_br (x1 ≤ x2)
      (fX12_costsBy_b166 o0 x1 x2 x3 x4 x5 h)
      (y_bi (fX12_digit o0 x3 x5) fun r12 =>
      y_br (r12 = 0)
        (y_bi (z_R h o0 25) fun o17 =>
        y_gd (z_ok h o17 14) <|
        y_gd (z_ix (x3 + x4) (z_N h o17)) <|
        y_gd (z_ix (x3 + ((2 : Int32) * x4)) (z_N h o17)) <|
        y_nm (((z_L h o17 (x3 + x4).toNatClampNeg) + (z_L h o17 (x3 + ((2 : Int32) * x4)).toNatClampNeg))) fun v21 =>
        y_gd (z_ix x3 (z_N h o17)) <|
        y_br (0 ≤ (lg_cmp v21 (z_L h o17 x3.toNatClampNeg)))
          (fX12_costsBy_b166 o0 x1 x2 x3 x4 x5 h)
          (y_gd (z_ix x3 (z_N h o17)) <|
          y_nm (z_sL h o17 x3.toNatClampNeg v21) fun h25 =>
          y_bi (z_R h25 o0 26) fun o26 =>
          y_gd (z_ok h25 o26 13) <|
          y_gd (z_ix x3 (z_N h25 o26)) <|
          y_nm (z_sI h25 o26 x3.toNatClampNeg x5) fun h29 =>
          fX12_costsBy_b166 o0 x1 x2 x3 x4 x5 h29))
        (fX12_costsBy_b166 o0 x1 x2 x3 x4 x5 h)))
noncomputable def fX12_costsBy_b89 (o0 : Nat) (x1 : Int32) (x2 : Int32) (x3 : Int32) (x4 : Int32) (x5 : Int32) (h : z_T) : Option ((Int32 × z_T) ⊕ ((Int32 × z_T) ⊕ (z_T))) := y_lp (fun q : Int32 × Int32 × z_T => fX12_costsBy_b89_i o0 x1 x2 x3 q.1 q.2.1 q.2.2) (x4, x5, h)
noncomputable def fX12_costsBy_b8_i (o0 : Nat) (x1 : Int32) (x2 : Int32) (x3 : Int32) (h : z_T) : Option ((Int32 × z_T) ⊕ ((Int32 × z_T) ⊕ (z_T))) :=
  y_br ((729 : Int32) ≤ x3)
    (y_mp <|
    y_nm (x2 + (-1)) fun v32 =>
    some (.inl (v32, h)))
    (y_gd (z_ok h o0 11) <|
    y_bi (fX12_askedIn o0 x3 h) fun r34 =>
    y_br (r34 = x2)
      (y_bi (fX12_weighs o0 x3 h) fun h41 =>
      y_gd (z_ok h41 o0 11) <|
      y_bi (z_R h41 o0 25) fun o43 =>
      y_bi (z_R h41 o0 6) fun o44 =>
      y_gd (z_ok h41 o44 13) <|
      y_gd (z_ix (5 : Int32) (z_N h41 o44)) <|
      y_gd (z_ix (6 : Int32) (z_N h41 o44)) <|
      y_bi (fX12_lesser (((z_I h41 o44 (5 : Int32).toNatClampNeg)).toInt64 * (z_L h41 o0 27)) (((z_I h41 o44 (6 : Int32).toNatClampNeg)).toInt64 * (z_L h41 o0 28))) fun r50 =>
      y_bi (fX12_power o0 (9 : Int32) (x1 - x2)) fun r55 =>
      y_gd (z_ok h41 o43 14) <|
      y_gd (z_ix x3 (z_N h41 o43)) <|
      y_nm (z_sL h41 o43 x3.toNatClampNeg (r50 * r55)) fun h60 =>
      y_bi (z_R h60 o0 26) fun o61 =>
      y_gd (z_ok h60 o61 13) <|
      y_gd (z_ix x3 (z_N h60 o61)) <|
      y_nm (z_sI h60 o61 x3.toNatClampNeg (-1 : Int32)) fun h64 =>
      fX12_costsBy_b89 o0 x1 x2 x3 (1 : Int32) (0 : Int32) h64)
      (fX12_costsBy_b178 o0 x1 x2 x3 h))
noncomputable def fX12_costsBy_b8 (o0 : Nat) (x1 : Int32) (x2 : Int32) (x3 : Int32) (h : z_T) : Option ((Int32 × z_T) ⊕ (z_T)) := y_lp (fun q : Int32 × z_T => fX12_costsBy_b8_i o0 x1 x2 q.1 q.2) (x3, h)
noncomputable def fX12_costsBy_b2_i (o0 : Nat) (x1 : Int32) (x2 : Int32) (h : z_T) : Option ((Int32 × z_T) ⊕ (z_T)) :=
  y_br (x2 < 0)
    (y_mp <|
    some h)
    (fX12_costsBy_b8 o0 x1 x2 (0 : Int32) h)
noncomputable def fX12_costsBy_b2 (o0 : Nat) (x1 : Int32) (x2 : Int32) (h : z_T) : Option (z_T) := y_lp (fun q : Int32 × z_T => fX12_costsBy_b2_i o0 x1 q.1 q.2) (x2, h)
noncomputable def fX12_costsBy (o0 : Nat) (x1 : Int32) (h : z_T) : Option (z_T) :=
  fX12_costsBy_b2 o0 x1 x1 h
set_option maxHeartbeats 4000000 in
set_option maxRecDepth 100000 in
theorem mm_X12_costsBy {G : z_Gt} {S : State → Prop} (hSK : z_SK S) (l : Launch) (ad : Nat → Nat) (o0 : Nat) (x1 : Int32) (h : z_T) {h9 : z_T} (hv : fX12_costsBy o0 x1 h = some h9) : z_Mv G S l yX12_costsBy cX12_costsBy 8 rm_X12_costsBy 0 0 [.ref (ad o0), .int x1] ad h h9 := by
  refine z_ofW hSK (by decide) (Nat.le_of_ble_eq_true rfl) ?_
  intro p e s m args below meth c ls hc hr hnm hB hl
  have hx := hc.1.1
  have hb := hc.1.2.1
  have hown := hc.1.2.2.2.1
  have hts := hc.1.2.2.2.2
  replace hc : z_C G S ad (z_n h) p m c cX12_costsBy 8 s args RX12 meth := hc
  replace hown : s.vm.findClass RX12 = some m.cls := hown
  replace hl : lv_has ls 8 [(0, .ref (ad o0)), (1, .int x1)] := hl
  show W p l e rm_X12_costsBy s m args below meth c s.heap [] 0 0 (MQ below (z_Qv G ad h9 (z_n h) s.heap.size) args s 0 0 (z_A ad (z_n h) s.heap.size)) (F0 m 0 ls [])
  obtain ⟨rs, kt⟩ : ∃ rs : z_T, rs = h9 := ⟨_, rfl⟩
  generalize hn0 : z_n h = n0 at hc hB ⊢
  have L2 : ∀ (nn2 : Nat) (x2 : Int32) (h : z_T) (H : Heap) (locs : List Loc) (ls : Array Slot), z_B G ad n0 s h H locs → lv_has ls 8 [(0, .ref (ad o0)), (1, .int x1), (2, .int x2)] → ∀ vv2, y_lpN (fun q : Int32 × z_T => fX12_costsBy_b2_i o0 x1 q.1 q.2) nn2 (x2, h) = some vv2 → vv2 = h9 → W p l e rm_X12_costsBy s m args below meth c H locs 0 0 (MQ below (z_Qv G ad h9 n0 s.heap.size) args s 0 0 (z_A ad n0 s.heap.size)) (F0 m 2 ls []) := by
    intro nn2
    induction nn2 with
    | zero => intro x2 h H locs ls hB hl vv2 hv kv2; exact absurd hv (fun q => y_lpN_0 q)
    | succ nn2 ih2 =>
      intro x2 h H locs ls hB hl vv2 hv kv2
      obtain ⟨w, hq, kw2⟩ := y_lpN_e hv
      clear hv
      have hv : fX12_costsBy_b2_i o0 x1 x2 h = some w := hq
      clear hq
      have L8 : ∀ (x2 : Int32) (nn8 : Nat) (x3 : Int32) (h : z_T) (H : Heap) (locs : List Loc) (ls : Array Slot), z_B G ad n0 s h H locs → lv_has ls 8 [(0, .ref (ad o0)), (1, .int x1), (2, .int x2), (3, .int x3)] → ∀ vv8, y_lpN (fun q : Int32 × z_T => fX12_costsBy_b8_i o0 x1 x2 q.1 q.2) nn8 (x3, h) = some vv8 → y_lq (fun q : Int32 × z_T => fX12_costsBy_b2_i o0 x1 q.1 q.2) nn2 vv2 vv8 → W p l e rm_X12_costsBy s m args below meth c H locs 0 0 (MQ below (z_Qv G ad h9 n0 s.heap.size) args s 0 0 (z_A ad n0 s.heap.size)) (F0 m 8 ls []) := by
        intro x2 nn8
        induction nn8 with
        | zero => intro x3 h H locs ls hB hl vv8 hv kv8; exact absurd hv (fun q => y_lpN_0 q)
        | succ nn8 ih8 =>
          intro x3 h H locs ls hB hl vv8 hv kv8
          obtain ⟨w, hq, kw8⟩ := y_lpN_e hv
          clear hv
          have hv : fX12_costsBy_b8_i o0 x1 x2 x3 h = some w := hq
          clear hq
          have b178 : ∀ (x3 : Int32) (h : z_T) (H : Heap) (locs : List Loc) (ls : Array Slot), z_B G ad n0 s h H locs → lv_has ls 8 [(0, .ref (ad o0)), (1, .int x1), (2, .int x2), (3, .int x3)] → ∀ w, fX12_costsBy_b178 o0 x1 x2 x3 h = some w → y_lq (fun q : Int32 × z_T => fX12_costsBy_b8_i o0 x1 x2 q.1 q.2) nn8 vv8 w → W p l e rm_X12_costsBy s m args below meth c H locs 0 0 (MQ below (z_Qv G ad h9 n0 s.heap.size) args s 0 0 (z_A ad n0 s.heap.size)) (F0 m 178 ls []) := by
            intro x3 h H locs ls hB hl w hv kw8
            obtain ⟨v1, ev1, hv⟩ := y_nm_e hv
            refine lv_iinc (v := v1) (lv' := [(3, .int v1), (0, .ref (ad o0)), (1, .int x1), (2, .int x2)]) hx hb dX12_costsBy_178 hl (k := 3) rfl (by rw [ev1]; rfl) (by decide) rfl (fun ls hl => ?_)
            refine lv_goto (tgt := 8) hx hb dX12_costsBy_181 (by decide) ?_
            replace hv := Option.some.inj hv
            subst hv
            exact ih8 v1 h _ _ _ hB (lv_sub hl [1, 2, 3, 0] rfl) _ kw8 kv8
          have L89 : ∀ (x3 : Int32) (nn89 : Nat) (x4 : Int32) (x5 : Int32) (h : z_T) (H : Heap) (locs : List Loc) (ls : Array Slot), z_B G ad n0 s h H locs → lv_has ls 8 [(0, .ref (ad o0)), (1, .int x1), (2, .int x2), (3, .int x3), (4, .int x4), (5, .int x5)] → ∀ vv89, y_lpN (fun q : Int32 × Int32 × z_T => fX12_costsBy_b89_i o0 x1 x2 x3 q.1 q.2.1 q.2.2) nn89 (x4, x5, h) = some vv89 → y_lq (fun q : Int32 × z_T => fX12_costsBy_b8_i o0 x1 x2 q.1 q.2) nn8 vv8 vv89 → W p l e rm_X12_costsBy s m args below meth c H locs 0 0 (MQ below (z_Qv G ad h9 n0 s.heap.size) args s 0 0 (z_A ad n0 s.heap.size)) (F0 m 89 ls []) := by
            intro x3 nn89
            induction nn89 with
            | zero => intro x4 x5 h H locs ls hB hl vv89 hv kv89; exact absurd hv (fun q => y_lpN_0 q)
            | succ nn89 ih89 =>
              intro x4 x5 h H locs ls hB hl vv89 hv kv89
              obtain ⟨w, hq, kw89⟩ := y_lpN_e hv
              clear hv
              have hv : fX12_costsBy_b89_i o0 x1 x2 x3 x4 x5 h = some w := hq
              clear hq
              have b166 : ∀ (x4 : Int32) (x5 : Int32) (h : z_T) (H : Heap) (locs : List Loc) (ls : Array Slot), z_B G ad n0 s h H locs → lv_has ls 8 [(0, .ref (ad o0)), (1, .int x1), (2, .int x2), (3, .int x3), (4, .int x4), (5, .int x5)] → ∀ w, fX12_costsBy_b166 o0 x1 x2 x3 x4 x5 h = some w → y_lq (fun q : Int32 × Int32 × z_T => fX12_costsBy_b89_i o0 x1 x2 x3 q.1 q.2.1 q.2.2) nn89 vv89 w → W p l e rm_X12_costsBy s m args below meth c H locs 0 0 (MQ below (z_Qv G ad h9 n0 s.heap.size) args s 0 0 (z_A ad n0 s.heap.size)) (F0 m 166 ls []) := by
                intro x4 x5 h H locs ls hB hl w hv kw89
                refine lv_iload hx hb dX12_costsBy_166 (lv_at hl 4 rfl) ?_
                refine lv_iconst (v := (3 : Int32)) hx hb dX12_costsBy_168 (by decide) ?_
                refine lv_imul hx hb dX12_costsBy_169 ?_
                obtain ⟨v2, ev2, hv⟩ := y_nm_e hv
                rw [← ev2]
                refine lv_istore (lv' := [(4, .int v2), (0, .ref (ad o0)), (1, .int x1), (2, .int x2), (3, .int x3), (5, .int x5)]) hx hb dX12_costsBy_170 hl (by decide) rfl (fun ls hl => ?_)
                obtain ⟨v3, ev3, hv⟩ := y_nm_e hv
                refine lv_iinc (v := v3) (lv' := [(5, .int v3), (4, .int v2), (0, .ref (ad o0)), (1, .int x1), (2, .int x2), (3, .int x3)]) hx hb dX12_costsBy_172 hl (k := 5) rfl (by rw [ev3]; rfl) (by decide) rfl (fun ls hl => ?_)
                refine lv_goto (tgt := 89) hx hb dX12_costsBy_175 (by decide) ?_
                replace hv := Option.some.inj hv
                subst hv
                exact ih89 v2 v3 h _ _ _ hB (lv_sub hl [2, 3, 4, 5, 1, 0] rfl) _ kw89 kv89
              refine lv_iload hx hb dX12_costsBy_89 (lv_at hl 5 rfl) ?_
              refine lv_aload_n hx hb dX12_costsBy_91 rfl (lv_at hl 0 rfl) ?_
              obtain ⟨g4, hv⟩ := y_gd_e hv
              obtain ⟨o5, eo5, hv⟩ := y_bi_e hv
              refine z_getR hc hB 11 6 g4 eo5 (by decide) (by decide) rfl (z_l1 hc qfX12_33) dX12_costsBy_92 ?_
              refine lv_iconst (v := (0 : Int32)) hx hb dX12_costsBy_95 (by decide) ?_
              obtain ⟨g6, hv⟩ := y_gd_e hv
              obtain ⟨i7, hv⟩ := y_gd_e hv
              refine z_iald hc hB g6 i7 dX12_costsBy_96 ?_
              refine lv_icmp_ge (tgt := 178) hx hb dX12_costsBy_97 (by decide) (fun c8 => ?_) (fun c8 => ?_)
              · replace hv := y_br_t hv c8
                obtain ⟨t9, hq, ew⟩ := y_mp_e hv
                clear hv; subst ew
                replace kw89 : t9 = _ := kw89
                subst kw89
                have hv := hq
                clear hq
                exact b178 x3 h _ _ _ hB (lv_sub hl [0, 1, 2, 3] rfl) _ hv kv89
              · replace hv := y_br_f hv c8
                refine lv_iload_n hx hb dX12_costsBy_100 rfl (lv_at hl 2 rfl) ?_
                refine lv_iload_n hx hb dX12_costsBy_101 rfl (lv_at hl 1 rfl) ?_
                refine lv_icmp_ge (tgt := 166) hx hb dX12_costsBy_102 (by decide) (fun c10 => ?_) (fun c10 => ?_)
                · replace hv := y_br_t hv c10
                  exact b166 x4 x5 h _ _ _ hB (lv_sub hl [0, 1, 2, 3, 4, 5] rfl) _ hv kw89
                · replace hv := y_br_f hv c10
                  refine lv_aload_n hx hb dX12_costsBy_105 rfl (lv_at hl 0 rfl) ?_
                  refine lv_iload_n hx hb dX12_costsBy_106 rfl (lv_at hl 3 rfl) ?_
                  refine lv_iload hx hb dX12_costsBy_107 (lv_at hl 5 rfl) ?_
                  obtain ⟨r12, c11, hv⟩ := y_bi_e hv
                  refine z_thI hc hB (z_runV hc hB 11 (mm_X12_digit hSK l ad o0 x3 x5 h c11) md_X12_digit qmX12_311 g4 (by decide) rfl rfl rfl ⟨Nat.le_of_ble_eq_true rfl, Nat.le_of_ble_eq_true rfl⟩ rfl hl.1 rfl (Nat.le_of_ble_eq_true rfl) dX12_costsBy_109 ⟨Nat.le_of_ble_eq_true rfl, Nat.le_of_ble_eq_true rfl⟩) (fun H locs hB => ?_)
                  refine lv_if_ne (tgt := 166) hx hb dX12_costsBy_112 (by decide) (fun c16 => ?_) (fun c16 => ?_)
                  · replace hv := y_br_f hv c16
                    exact b166 x4 x5 h _ _ _ hB (lv_sub hl [0, 1, 2, 3, 4, 5] rfl) _ hv kw89
                  · replace hv := y_br_t hv c16
                    refine lv_aload_n hx hb dX12_costsBy_115 rfl (lv_at hl 0 rfl) ?_
                    obtain ⟨o17, eo17, hv⟩ := y_bi_e hv
                    refine z_getR hc hB 11 25 g4 eo17 (by decide) (by decide) rfl (z_l1 hc qfX12_59) dX12_costsBy_116 ?_
                    refine lv_iload_n hx hb dX12_costsBy_119 rfl (lv_at hl 3 rfl) ?_
                    refine lv_iload hx hb dX12_costsBy_120 (lv_at hl 4 rfl) ?_
                    refine lv_iadd hx hb dX12_costsBy_122 ?_
                    obtain ⟨g18, hv⟩ := y_gd_e hv
                    obtain ⟨i19, hv⟩ := y_gd_e hv
                    refine z_lald hc hB g18 i19 dX12_costsBy_123 ?_
                    refine lv_aload_n hx hb dX12_costsBy_124 rfl (lv_at hl 0 rfl) ?_
                    refine z_getR hc hB 11 25 g4 eo17 (by decide) (by decide) rfl (z_l1 hc qfX12_59) dX12_costsBy_125 ?_
                    refine lv_iload_n hx hb dX12_costsBy_128 rfl (lv_at hl 3 rfl) ?_
                    refine lv_iconst (v := (2 : Int32)) hx hb dX12_costsBy_129 (by decide) ?_
                    refine lv_iload hx hb dX12_costsBy_130 (lv_at hl 4 rfl) ?_
                    refine lv_imul hx hb dX12_costsBy_132 ?_
                    refine lv_iadd hx hb dX12_costsBy_133 ?_
                    obtain ⟨i20, hv⟩ := y_gd_e hv
                    refine z_lald hc hB g18 i20 dX12_costsBy_134 ?_
                    refine lv_ladd hx hb dX12_costsBy_135 ?_
                    obtain ⟨v21, ev21, hv⟩ := y_nm_e hv
                    rw [← ev21]
                    refine lv_lstore (lv' := [(6, .long v21), (0, .ref (ad o0)), (1, .int x1), (2, .int x2), (3, .int x3), (4, .int x4), (5, .int x5)]) hx hb dX12_costsBy_136 hl (by decide) rfl (fun ls hl => ?_)
                    refine lv_lload hx hb dX12_costsBy_138 (lv_at hl 0 rfl) ?_
                    refine lv_aload_n hx hb dX12_costsBy_140 rfl (lv_at hl 1 rfl) ?_
                    refine z_getR hc hB 11 25 g4 eo17 (by decide) (by decide) rfl (z_l1 hc qfX12_59) dX12_costsBy_141 ?_
                    refine lv_iload_n hx hb dX12_costsBy_144 rfl (lv_at hl 4 rfl) ?_
                    obtain ⟨i22, hv⟩ := y_gd_e hv
                    refine z_lald hc hB g18 i22 dX12_costsBy_145 ?_
                    refine W.lcmp hx hb dX12_costsBy_146 ?_
                    refine lv_if_ge (tgt := 166) hx hb dX12_costsBy_147 (by decide) (fun c23 => ?_) (fun c23 => ?_)
                    · replace hv := y_br_t hv c23
                      exact b166 x4 x5 h _ _ _ hB (lv_sub hl [1, 2, 3, 4, 5, 6] rfl) _ hv kw89
                    · replace hv := y_br_f hv c23
                      refine lv_aload_n hx hb dX12_costsBy_150 rfl (lv_at hl 1 rfl) ?_
                      refine z_getR hc hB 11 25 g4 eo17 (by decide) (by decide) rfl (z_l1 hc qfX12_59) dX12_costsBy_151 ?_
                      refine lv_iload_n hx hb dX12_costsBy_154 rfl (lv_at hl 4 rfl) ?_
                      refine lv_lload hx hb dX12_costsBy_155 (lv_at hl 0 rfl) ?_
                      obtain ⟨i24, hv⟩ := y_gd_e hv
                      obtain ⟨h25, eh25, hv⟩ := y_nm_e hv
                      refine y_last hc hB eh25 g18 i24 dX12_costsBy_157 (fun H locs hB => ?_)
                      refine lv_aload_n hx hb dX12_costsBy_158 rfl (lv_at hl 1 rfl) ?_
                      obtain ⟨o26, eo26, hv⟩ := y_bi_e hv
                      refine z_getR hc hB 11 26 (by rw [eh25]; exact g4) eo26 (by decide) (by decide) rfl (z_l1 hc qfX12_62) dX12_costsBy_159 ?_
                      refine lv_iload_n hx hb dX12_costsBy_162 rfl (lv_at hl 4 rfl) ?_
                      refine lv_iload hx hb dX12_costsBy_163 (lv_at hl 6 rfl) ?_
                      obtain ⟨g27, hv⟩ := y_gd_e hv
                      obtain ⟨i28, hv⟩ := y_gd_e hv
                      obtain ⟨h29, eh29, hv⟩ := y_nm_e hv
                      refine y_iast hc hB eh29 g27 i28 dX12_costsBy_165 (fun H locs hB => ?_)
                      exact b166 x4 x5 h29 _ _ _ hB (lv_sub hl [1, 2, 3, 4, 5, 6] rfl) _ hv kw89
          refine lv_iload_n hx hb dX12_costsBy_8 rfl (lv_at hl 3 rfl) ?_
          refine lv_sipush (v := (729 : Int32)) hx hb dX12_costsBy_9 (by decide) ?_
          refine lv_icmp_ge (tgt := 184) hx hb dX12_costsBy_12 (by decide) (fun c30 => ?_) (fun c30 => ?_)
          · replace hv := y_br_t hv c30
            obtain ⟨t31, hq, ew⟩ := y_mp_e hv
            clear hv; subst ew
            replace kw8 : t31 = _ := kw8
            subst kw8
            have hv := hq
            clear hq
            obtain ⟨v32, ev32, hv⟩ := y_nm_e hv
            refine lv_iinc (v := v32) (lv' := [(2, .int v32), (0, .ref (ad o0)), (1, .int x1), (3, .int x3)]) hx hb dX12_costsBy_184 hl (k := 2) rfl (by rw [ev32]; rfl) (by decide) rfl (fun ls hl => ?_)
            refine lv_goto (tgt := 2) hx hb dX12_costsBy_187 (by decide) ?_
            replace hv := Option.some.inj hv
            subst hv
            exact ih2 v32 h _ _ _ hB (lv_sub hl [1, 2, 0] rfl) _ kv8 kv2
          · replace hv := y_br_f hv c30
            refine lv_aload_n hx hb dX12_costsBy_15 rfl (lv_at hl 0 rfl) ?_
            refine lv_iload_n hx hb dX12_costsBy_16 rfl (lv_at hl 3 rfl) ?_
            obtain ⟨g38, hv⟩ := y_gd_e hv
            obtain ⟨r34, c33, hv⟩ := y_bi_e hv
            refine z_thI hc hB (z_runV hc hB 11 (mm_X12_askedIn hSK l ad o0 x3 h c33) md_X12_askedIn qmX12_320 g38 (by decide) rfl rfl rfl ⟨Nat.le_of_ble_eq_true rfl, Nat.le_of_ble_eq_true rfl⟩ rfl hl.1 rfl (Nat.le_of_ble_eq_true rfl) dX12_costsBy_17 ⟨Nat.le_of_ble_eq_true rfl, Nat.le_of_ble_eq_true rfl⟩) (fun H locs hB => ?_)
            refine lv_iload_n hx hb dX12_costsBy_20 rfl (lv_at hl 2 rfl) ?_
            refine lv_icmp_eq (tgt := 27) hx hb dX12_costsBy_21 (by decide) (fun c39 => ?_) (fun c39 => ?_)
            · replace hv := y_br_t hv c39
              refine lv_aload_n hx hb dX12_costsBy_27 rfl (lv_at hl 0 rfl) ?_
              refine lv_iload_n hx hb dX12_costsBy_28 rfl (lv_at hl 3 rfl) ?_
              obtain ⟨h41, c40, hv⟩ := y_bi_e hv
              refine z_thV hc hB (z_runV hc hB 11 (mm_X12_weighs hSK l ad o0 x3 h c40) md_X12_weighs qmX12_323 g38 (by decide) rfl rfl rfl ⟨Nat.le_of_ble_eq_true rfl, Nat.le_of_ble_eq_true rfl⟩ rfl hl.1 rfl (Nat.le_of_ble_eq_true rfl) dX12_costsBy_29 ⟨Nat.le_of_ble_eq_true rfl, Nat.le_of_ble_eq_true rfl⟩) (fun H locs hB => ?_)
              refine lv_aload_n hx hb dX12_costsBy_32 rfl (lv_at hl 0 rfl) ?_
              obtain ⟨g42, hv⟩ := y_gd_e hv
              obtain ⟨o43, eo43, hv⟩ := y_bi_e hv
              refine z_getR hc hB 11 25 g42 eo43 (by decide) (by decide) rfl (z_l1 hc qfX12_59) dX12_costsBy_33 ?_
              refine lv_iload_n hx hb dX12_costsBy_36 rfl (lv_at hl 3 rfl) ?_
              refine lv_aload_n hx hb dX12_costsBy_37 rfl (lv_at hl 0 rfl) ?_
              obtain ⟨o44, eo44, hv⟩ := y_bi_e hv
              refine z_getR hc hB 11 6 g42 eo44 (by decide) (by decide) rfl (z_l1 hc qfX12_33) dX12_costsBy_38 ?_
              refine lv_iconst (v := (5 : Int32)) hx hb dX12_costsBy_41 (by decide) ?_
              obtain ⟨g45, hv⟩ := y_gd_e hv
              obtain ⟨i46, hv⟩ := y_gd_e hv
              refine z_iald hc hB g45 i46 dX12_costsBy_42 ?_
              refine lv_i2l hx hb dX12_costsBy_43 rfl ?_
              refine lv_aload_n hx hb dX12_costsBy_44 rfl (lv_at hl 0 rfl) ?_
              refine z_getL hc hB 11 27 g42 (by decide) (by decide) rfl (z_l1 hc qfX12_314) dX12_costsBy_45 ?_
              refine lv_lmul hx hb dX12_costsBy_48 ?_
              refine lv_aload_n hx hb dX12_costsBy_49 rfl (lv_at hl 0 rfl) ?_
              refine z_getR hc hB 11 6 g42 eo44 (by decide) (by decide) rfl (z_l1 hc qfX12_33) dX12_costsBy_50 ?_
              refine lv_bipush (v := (6 : Int32)) hx hb dX12_costsBy_53 (by decide) ?_
              obtain ⟨i47, hv⟩ := y_gd_e hv
              refine z_iald hc hB g45 i47 dX12_costsBy_55 ?_
              refine lv_i2l hx hb dX12_costsBy_56 rfl ?_
              refine lv_aload_n hx hb dX12_costsBy_57 rfl (lv_at hl 0 rfl) ?_
              refine z_getL hc hB 11 28 g42 (by decide) (by decide) rfl (z_l1 hc qfX12_317) dX12_costsBy_58 ?_
              refine lv_lmul hx hb dX12_costsBy_61 ?_
              obtain ⟨r50, c48, hv⟩ := y_bi_e hv
              refine z_thL hc hB (z_runS hc hB (mm_X12_lesser hSK l ad (((z_I h41 o44 (5 : Int32).toNatClampNeg)).toInt64 * (z_L h41 o0 27)) (((z_I h41 o44 (6 : Int32).toNatClampNeg)).toInt64 * (z_L h41 o0 28)) h41 c48) md_X12_lesser qmX12_295 rfl rfl ⟨Nat.le_of_ble_eq_true rfl, Nat.le_of_ble_eq_true rfl⟩ rfl hl.1 rfl (Nat.le_of_ble_eq_true rfl) dX12_costsBy_62 ⟨Nat.le_of_ble_eq_true rfl, Nat.le_of_ble_eq_true rfl⟩) (fun H locs hB => ?_)
              refine lv_aload_n hx hb dX12_costsBy_65 rfl (lv_at hl 0 rfl) ?_
              refine lv_bipush (v := (9 : Int32)) hx hb dX12_costsBy_66 (by decide) ?_
              refine lv_iload_n hx hb dX12_costsBy_68 rfl (lv_at hl 1 rfl) ?_
              refine lv_iload_n hx hb dX12_costsBy_69 rfl (lv_at hl 2 rfl) ?_
              refine lv_isub hx hb dX12_costsBy_70 ?_
              obtain ⟨r55, c53, hv⟩ := y_bi_e hv
              refine z_thL hc hB (z_runV hc hB 11 (mm_X12_power hSK l ad o0 (9 : Int32) (x1 - x2) h41 c53) md_X12_power qmX12_307 g42 (by decide) rfl rfl rfl ⟨Nat.le_of_ble_eq_true rfl, Nat.le_of_ble_eq_true rfl⟩ rfl hl.1 rfl (Nat.le_of_ble_eq_true rfl) dX12_costsBy_71 ⟨Nat.le_of_ble_eq_true rfl, Nat.le_of_ble_eq_true rfl⟩) (fun H locs hB => ?_)
              refine lv_lmul hx hb dX12_costsBy_74 ?_
              obtain ⟨g58, hv⟩ := y_gd_e hv
              obtain ⟨i59, hv⟩ := y_gd_e hv
              obtain ⟨h60, eh60, hv⟩ := y_nm_e hv
              refine y_last hc hB eh60 g58 i59 dX12_costsBy_75 (fun H locs hB => ?_)
              refine lv_aload_n hx hb dX12_costsBy_76 rfl (lv_at hl 0 rfl) ?_
              obtain ⟨o61, eo61, hv⟩ := y_bi_e hv
              refine z_getR hc hB 11 26 (by rw [eh60]; exact g42) eo61 (by decide) (by decide) rfl (z_l1 hc qfX12_62) dX12_costsBy_77 ?_
              refine lv_iload_n hx hb dX12_costsBy_80 rfl (lv_at hl 3 rfl) ?_
              refine lv_iconst (v := (-1 : Int32)) hx hb dX12_costsBy_81 (by decide) ?_
              obtain ⟨g62, hv⟩ := y_gd_e hv
              obtain ⟨i63, hv⟩ := y_gd_e hv
              obtain ⟨h64, eh64, hv⟩ := y_nm_e hv
              refine y_iast hc hB eh64 g62 i63 dX12_costsBy_82 (fun H locs hB => ?_)
              refine lv_iconst (v := (1 : Int32)) hx hb dX12_costsBy_83 (by decide) ?_
              refine lv_istore (lv' := [(4, .int (1 : Int32)), (0, .ref (ad o0)), (1, .int x1), (2, .int x2), (3, .int x3)]) hx hb dX12_costsBy_84 hl (by decide) rfl (fun ls hl => ?_)
              refine lv_iconst (v := (0 : Int32)) hx hb dX12_costsBy_86 (by decide) ?_
              refine lv_istore (lv' := [(5, .int (0 : Int32)), (4, .int (1 : Int32)), (0, .ref (ad o0)), (1, .int x1), (2, .int x2), (3, .int x3)]) hx hb dX12_costsBy_87 hl (by decide) rfl (fun ls hl => ?_)
              obtain ⟨n, hv⟩ := y_lp_e hv
              exact L89 x3 n (1 : Int32) (0 : Int32) h64 _ _ _ hB (lv_sub hl [2, 3, 4, 5, 1, 0] rfl) _ hv kw8
            · replace hv := y_br_f hv c39
              refine lv_goto (tgt := 178) hx hb dX12_costsBy_24 (by decide) ?_
              exact b178 x3 h _ _ _ hB (lv_sub hl [0, 1, 2, 3] rfl) _ hv kw8
      refine lv_iload_n hx hb dX12_costsBy_2 rfl (lv_at hl 2 rfl) ?_
      refine lv_if_lt (tgt := 190) hx hb dX12_costsBy_3 (by decide) (fun c65 => ?_) (fun c65 => ?_)
      · replace hv := y_br_t hv c65
        obtain ⟨t66, hq, ew⟩ := y_mp_e hv
        clear hv; subst ew
        replace kw2 : t66 = _ := kw2
        subst kw2
        have hv := hq
        clear hq
        replace hv := Option.some.inj hv
        subst hv
        rw [← kv2]
        exact z_vret hc hB hr dX12_costsBy_190
      · replace hv := y_br_f hv c65
        refine lv_iconst (v := (0 : Int32)) hx hb dX12_costsBy_6 (by decide) ?_
        refine lv_istore_n (lv' := [(3, .int (0 : Int32)), (0, .ref (ad o0)), (1, .int x1), (2, .int x2)]) hx hb dX12_costsBy_7 rfl hl (by decide) rfl (fun ls hl => ?_)
        obtain ⟨n, hv⟩ := y_lp_e hv
        exact L8 x2 n (0 : Int32) h _ _ _ hB (lv_sub hl [1, 2, 3, 0] rfl) _ hv kw2
  rw [← kt] at hv
  refine lv_iload_n hx hb dX12_costsBy_0 rfl (lv_at hl 1 rfl) ?_
  refine lv_istore_n (lv' := [(2, .int x1), (0, .ref (ad o0)), (1, .int x1)]) hx hb dX12_costsBy_1 rfl hl (by decide) rfl (fun ls hl => ?_)
  obtain ⟨n, hv⟩ := y_lp_e hv
  exact L2 n x1 h _ _ _ hB (lv_sub hl [1, 2, 0] rfl) _ hv kt
theorem dX12_areCosts_0 : decode cX12_areCosts 0 = .ok (.iload_n 1, 1) := by decide +kernel
theorem dX12_areCosts_1 : decode cX12_areCosts 1 = .ok (.iconst 0, 1) := by decide +kernel
theorem dX12_areCosts_2 : decode cX12_areCosts 2 = .ok (.iconst 4, 1) := by decide +kernel
theorem dX12_areCosts_3 : decode cX12_areCosts 3 = .ok (.invokestatic 188, 3) := by decide +kernel
theorem dX12_areCosts_6 : decode cX12_areCosts 6 = .ok (.ifCond .eq 18, 3) := by decide +kernel
theorem dX12_areCosts_9 : decode cX12_areCosts 9 = .ok (.aload_n 0, 1) := by decide +kernel
theorem dX12_areCosts_10 : decode cX12_areCosts 10 = .ok (.getfield 33, 3) := by decide +kernel
theorem dX12_areCosts_13 : decode cX12_areCosts 13 = .ok (.iconst 0, 1) := by decide +kernel
theorem dX12_areCosts_14 : decode cX12_areCosts 14 = .ok (.iaload, 1) := by decide +kernel
theorem dX12_areCosts_15 : decode cX12_areCosts 15 = .ok (.bipush 7, 2) := by decide +kernel
theorem dX12_areCosts_17 : decode cX12_areCosts 17 = .ok (.if_icmp .ge 7, 3) := by decide +kernel
theorem dX12_areCosts_20 : decode cX12_areCosts 20 = .ok (.iconst 1, 1) := by decide +kernel
theorem dX12_areCosts_21 : decode cX12_areCosts 21 = .ok (.goto 4, 3) := by decide +kernel
theorem dX12_areCosts_24 : decode cX12_areCosts 24 = .ok (.iconst 0, 1) := by decide +kernel
theorem dX12_areCosts_25 : decode cX12_areCosts 25 = .ok (.ireturn, 1) := by decide +kernel
abbrev rm_X12_areCosts : Room := { frames := 1, cells := 0, slots := 0, locals := 22 }
noncomputable def fX12_areCosts_b24  (h : z_T) : Option (Int32) :=
  some (0 : Int32)
noncomputable def fX12_areCosts (o0 : Nat) (x1 : Int32) (h : z_T) : Option (Int32) :=
  y_bi (fX12_isIn x1 (0 : Int32) (4 : Int32)) fun r2 =>
  y_br (r2 = 0)
    (fX12_areCosts_b24 h)
    (y_gd (z_ok h o0 11) <|
    y_bi (z_R h o0 6) fun o8 =>
    y_gd (z_ok h o8 13) <|
    y_gd (z_ix (0 : Int32) (z_N h o8)) <|
    y_br ((7 : Int32) ≤ (z_I h o8 (0 : Int32).toNatClampNeg))
      (fX12_areCosts_b24 h)
      (some (1 : Int32)))
set_option maxHeartbeats 4000000 in
set_option maxRecDepth 100000 in
theorem mm_X12_areCosts {G : z_Gt} {S : State → Prop} (hSK : z_SK S) (l : Launch) (ad : Nat → Nat) (o0 : Nat) (x1 : Int32) (h : z_T) {r0 : Int32} (hv : fX12_areCosts o0 x1 h = some r0) : z_Mi G S l yX12_areCosts cX12_areCosts 2 (.boolean) rm_X12_areCosts 0 0 [.ref (ad o0), .int x1] ad h h r0 := by
  refine z_ofW hSK (by decide) (Nat.le_of_ble_eq_true rfl) ?_
  intro p e s m args below meth c ls hc hr hnm hB hl
  have hx := hc.1.1
  have hb := hc.1.2.1
  have hown := hc.1.2.2.2.1
  have hts := hc.1.2.2.2.2
  replace hc : z_C G S ad (z_n h) p m c cX12_areCosts 2 s args RX12 meth := hc
  replace hown : s.vm.findClass RX12 = some m.cls := hown
  replace hl : lv_has ls 2 [(0, .ref (ad o0)), (1, .int x1)] := hl
  show W p l e rm_X12_areCosts s m args below meth c s.heap [] 0 0 (MQ below (z_Qi G ad h (z_n h) s.heap.size r0) args s 0 0 (z_A ad (z_n h) s.heap.size)) (F0 m 0 ls [])
  obtain ⟨rs, kt⟩ : ∃ rs : Int32, rs = r0 := ⟨_, rfl⟩
  generalize hn0 : z_n h = n0 at hc hB ⊢
  have b24 : ∀ (H : Heap) (locs : List Loc) (ls : Array Slot), z_B G ad n0 s h H locs → lv_has ls 2 [] → ∀ w, fX12_areCosts_b24 h = some w → w = r0 → W p l e rm_X12_areCosts s m args below meth c H locs 0 0 (MQ below (z_Qi G ad h n0 s.heap.size r0) args s 0 0 (z_A ad n0 s.heap.size)) (F0 m 24 ls []) := by
    intro H locs ls hB hl w hv kb
    refine lv_iconst (v := (0 : Int32)) hx hb dX12_areCosts_24 (by decide) ?_
    replace hv := Option.some.inj hv
    subst hv
    rw [← kb]
    exact z_zret hc hB hr rfl dX12_areCosts_25
  rw [← kt] at hv
  refine lv_iload_n hx hb dX12_areCosts_0 rfl (lv_at hl 1 rfl) ?_
  refine lv_iconst (v := (0 : Int32)) hx hb dX12_areCosts_1 (by decide) ?_
  refine lv_iconst (v := (4 : Int32)) hx hb dX12_areCosts_2 (by decide) ?_
  obtain ⟨r2, c1, hv⟩ := y_bi_e hv
  refine z_thI hc hB (z_runS hc hB (mm_X12_isIn hSK l ad x1 (0 : Int32) (4 : Int32) h c1) md_X12_isIn qmX12_188 rfl rfl ⟨Nat.le_of_ble_eq_true rfl, Nat.le_of_ble_eq_true rfl⟩ rfl hl.1 rfl (Nat.le_of_ble_eq_true rfl) dX12_areCosts_3 ⟨Nat.le_of_ble_eq_true rfl, Nat.le_of_ble_eq_true rfl⟩) (fun H locs hB => ?_)
  refine lv_if_eq (tgt := 24) hx hb dX12_areCosts_6 (by decide) (fun c6 => ?_) (fun c6 => ?_)
  · replace hv := y_br_t hv c6
    exact b24 _ _ _ hB (lv_sub hl [] rfl) _ hv kt
  · replace hv := y_br_f hv c6
    refine lv_aload_n hx hb dX12_areCosts_9 rfl (lv_at hl 0 rfl) ?_
    obtain ⟨g7, hv⟩ := y_gd_e hv
    obtain ⟨o8, eo8, hv⟩ := y_bi_e hv
    refine z_getR hc hB 11 6 g7 eo8 (by decide) (by decide) rfl (z_l1 hc qfX12_33) dX12_areCosts_10 ?_
    refine lv_iconst (v := (0 : Int32)) hx hb dX12_areCosts_13 (by decide) ?_
    obtain ⟨g9, hv⟩ := y_gd_e hv
    obtain ⟨i10, hv⟩ := y_gd_e hv
    refine z_iald hc hB g9 i10 dX12_areCosts_14 ?_
    refine lv_bipush (v := (7 : Int32)) hx hb dX12_areCosts_15 (by decide) ?_
    refine lv_icmp_ge (tgt := 24) hx hb dX12_areCosts_17 (by decide) (fun c11 => ?_) (fun c11 => ?_)
    · replace hv := y_br_t hv c11
      exact b24 _ _ _ hB (lv_sub hl [] rfl) _ hv kt
    · replace hv := y_br_f hv c11
      refine lv_iconst (v := (1 : Int32)) hx hb dX12_areCosts_20 (by decide) ?_
      refine lv_goto (tgt := 25) hx hb dX12_areCosts_21 (by decide) ?_
      replace hv := Option.some.inj hv
      subst hv
      rw [← kt]
      exact z_zret hc hB hr rfl dX12_areCosts_25
theorem qmX12_329 : Cond.methodLink RX12 329 yX12_costsBy ∈ z_ws := List.mem_filter.mpr ⟨List.mem_append_right _ (List.mem_of_getElem? (i := 1703) (by decide +kernel)), rfl⟩
theorem qc_X12_costsBy : Cond.code yX12_costsBy cX12_costsBy 8 none ∈ z_ws := List.mem_filter.mpr ⟨List.mem_append_right _ (List.mem_of_getElem? (i := 1706) (by decide +kernel)), rfl⟩
theorem qi_X12_costsBy : Cond.instanceMethod yX12_costsBy ∈ z_ws := List.mem_filter.mpr ⟨List.mem_append_right _ (List.mem_of_getElem? (i := 1705) (by decide +kernel)), rfl⟩
theorem qs_X12_costsBy : Cond.selects RX12 yX12_costsBy yX12_costsBy ∈ z_ws := List.mem_filter.mpr ⟨List.mem_append_left _ (List.mem_of_getElem? (i := 65) (by decide +kernel)), rfl⟩
theorem md_X12_costsBy : z_mdV yX12_costsBy cX12_costsBy 8 none 1 := ⟨⟨qn_RX12, qc_X12_costsBy, ⟨by decide +kernel, by decide +kernel, by decide +kernel⟩⟩, qi_X12_costsBy, qs_X12_costsBy⟩
theorem qmX12_326 : Cond.methodLink RX12 326 yX12_areCosts ∈ z_ws := List.mem_filter.mpr ⟨List.mem_append_right _ (List.mem_of_getElem? (i := 1699) (by decide +kernel)), rfl⟩
theorem qc_X12_areCosts : Cond.code yX12_areCosts cX12_areCosts 2 (some .boolean) ∈ z_ws := List.mem_filter.mpr ⟨List.mem_append_right _ (List.mem_of_getElem? (i := 1702) (by decide +kernel)), rfl⟩
theorem qi_X12_areCosts : Cond.instanceMethod yX12_areCosts ∈ z_ws := List.mem_filter.mpr ⟨List.mem_append_right _ (List.mem_of_getElem? (i := 1701) (by decide +kernel)), rfl⟩
theorem qs_X12_areCosts : Cond.selects RX12 yX12_areCosts yX12_areCosts ∈ z_ws := List.mem_filter.mpr ⟨List.mem_append_left _ (List.mem_of_getElem? (i := 64) (by decide +kernel)), rfl⟩
theorem md_X12_areCosts : z_mdV yX12_areCosts cX12_areCosts 2 (some .boolean) 1 := ⟨⟨qn_RX12, qc_X12_areCosts, ⟨by decide +kernel, by decide +kernel, by decide +kernel⟩⟩, qi_X12_areCosts, qs_X12_areCosts⟩
theorem dX12_cost_0 : decode cX12_cost 0 = .ok (.aload_n 0, 1) := by decide +kernel
theorem dX12_cost_1 : decode cX12_cost 1 = .ok (.aload_n 0, 1) := by decide +kernel
theorem dX12_cost_2 : decode cX12_cost 2 = .ok (.iload_n 1, 1) := by decide +kernel
theorem dX12_cost_3 : decode cX12_cost 3 = .ok (.invokevirtual 326, 3) := by decide +kernel
theorem dX12_cost_6 : decode cX12_cost 6 = .ok (.ifCond .eq 10, 3) := by decide +kernel
theorem dX12_cost_9 : decode cX12_cost 9 = .ok (.iload_n 2, 1) := by decide +kernel
theorem dX12_cost_10 : decode cX12_cost 10 = .ok (.invokestatic 275, 3) := by decide +kernel
theorem dX12_cost_13 : decode cX12_cost 13 = .ok (.ifCond .ne 7, 3) := by decide +kernel
theorem dX12_cost_16 : decode cX12_cost 16 = .ok (.iconst 1, 1) := by decide +kernel
theorem dX12_cost_17 : decode cX12_cost 17 = .ok (.goto 4, 3) := by decide +kernel
theorem dX12_cost_20 : decode cX12_cost 20 = .ok (.iconst 0, 1) := by decide +kernel
theorem dX12_cost_21 : decode cX12_cost 21 = .ok (.invokevirtual 278, 3) := by decide +kernel
theorem dX12_cost_24 : decode cX12_cost 24 = .ok (.ifCond .eq 5, 3) := by decide +kernel
theorem dX12_cost_27 : decode cX12_cost 27 = .ok (.lconst 0, 1) := by decide +kernel
theorem dX12_cost_28 : decode cX12_cost 28 = .ok (.lreturn, 1) := by decide +kernel
theorem dX12_cost_29 : decode cX12_cost 29 = .ok (.aload_n 0, 1) := by decide +kernel
theorem dX12_cost_30 : decode cX12_cost 30 = .ok (.iload_n 1, 1) := by decide +kernel
theorem dX12_cost_31 : decode cX12_cost 31 = .ok (.invokevirtual 329, 3) := by decide +kernel
theorem dX12_cost_34 : decode cX12_cost 34 = .ok (.aload_n 0, 1) := by decide +kernel
theorem dX12_cost_35 : decode cX12_cost 35 = .ok (.getfield 59, 3) := by decide +kernel
theorem dX12_cost_38 : decode cX12_cost 38 = .ok (.iconst 0, 1) := by decide +kernel
theorem dX12_cost_39 : decode cX12_cost 39 = .ok (.laload, 1) := by decide +kernel
theorem dX12_cost_40 : decode cX12_cost 40 = .ok (.aload_n 0, 1) := by decide +kernel
theorem dX12_cost_41 : decode cX12_cost 41 = .ok (.invokevirtual 304, 3) := by decide +kernel
theorem dX12_cost_44 : decode cX12_cost 44 = .ok (.i2l, 1) := by decide +kernel
theorem dX12_cost_45 : decode cX12_cost 45 = .ok (.aload_n 0, 1) := by decide +kernel
theorem dX12_cost_46 : decode cX12_cost 46 = .ok (.bipush 9, 2) := by decide +kernel
theorem dX12_cost_48 : decode cX12_cost 48 = .ok (.iload_n 1, 1) := by decide +kernel
theorem dX12_cost_49 : decode cX12_cost 49 = .ok (.invokevirtual 307, 3) := by decide +kernel
theorem dX12_cost_52 : decode cX12_cost 52 = .ok (.lmul, 1) := by decide +kernel
theorem dX12_cost_53 : decode cX12_cost 53 = .ok (.iload_n 2, 1) := by decide +kernel
theorem dX12_cost_54 : decode cX12_cost 54 = .ok (.invokestatic 282, 3) := by decide +kernel
theorem dX12_cost_57 : decode cX12_cost 57 = .ok (.lreturn, 1) := by decide +kernel
abbrev rm_X12_cost : Room := { frames := 4, cells := 0, slots := 0, locals := 96 }
noncomputable def fX12_cost_b21 (o0 : Nat) (x1 : Int32) (x2 : Int32) (s0 : Nat) (s1 : Int32) (h : z_T) : Option (Int64 × z_T) :=
  y_gd (z_ok h s0 11) <|
  y_bi (fX12_throwsIf s0 s1 h) fun ⟨r2, h6⟩ =>
  y_br (r2 = 0)
    (y_gd (z_ok h6 o0 11) <|
    y_bi (fX12_costsBy o0 x1 h6) fun h10 =>
    y_gd (z_ok h10 o0 11) <|
    y_bi (z_R h10 o0 25) fun o13 =>
    y_gd (z_ok h10 o13 14) <|
    y_gd (z_ix (0 : Int32) (z_N h10 o13)) <|
    y_bi (fX12_allWeights o0 h10) fun r17 =>
    y_bi (fX12_power o0 (9 : Int32) x1) fun r23 =>
    y_bi (fX12_part (z_L h10 o13 (0 : Int32).toNatClampNeg) ((r17).toInt64 * r23) x2) fun r28 =>
    some (r28, h10))
    (some ((0 : Int64), h6))
noncomputable def fX12_cost_b16 (o0 : Nat) (x1 : Int32) (x2 : Int32) (s0 : Nat) (h : z_T) : Option (Int64 × z_T) :=
  fX12_cost_b21 o0 x1 x2 s0 (1 : Int32) h
noncomputable def fX12_cost (o0 : Nat) (x1 : Int32) (x2 : Int32) (h : z_T) : Option (Int64 × z_T) :=
  y_gd (z_ok h o0 11) <|
  y_bi (fX12_areCosts o0 x1 h) fun r32 =>
  y_br (r32 = 0)
    (fX12_cost_b16 o0 x1 x2 o0 h)
    (y_bi (fX12_isPart x2) fun r39 =>
    y_br (r39 = 0)
      (fX12_cost_b16 o0 x1 x2 o0 h)
      (fX12_cost_b21 o0 x1 x2 o0 (0 : Int32) h))
set_option maxHeartbeats 4000000 in
set_option maxRecDepth 100000 in
theorem mm_X12_cost {G : z_Gt} {S : State → Prop} (hSK : z_SK S) (l : Launch) (ad : Nat → Nat) (o0 : Nat) (x1 : Int32) (x2 : Int32) (h : z_T) {r0 : Int64} {h9 : z_T} (hv : fX12_cost o0 x1 x2 h = some (r0, h9)) : z_Ml G S l yX12_cost cX12_cost 3 (.long) rm_X12_cost 0 0 [.ref (ad o0), .int x1, .int x2] ad h h9 r0 := by
  refine z_ofW hSK (by decide) (Nat.le_of_ble_eq_true rfl) ?_
  intro p e s m args below meth c ls hc hr hnm hB hl
  have hx := hc.1.1
  have hb := hc.1.2.1
  have hown := hc.1.2.2.2.1
  have hts := hc.1.2.2.2.2
  replace hc : z_C G S ad (z_n h) p m c cX12_cost 3 s args RX12 meth := hc
  replace hown : s.vm.findClass RX12 = some m.cls := hown
  replace hl : lv_has ls 3 [(0, .ref (ad o0)), (1, .int x1), (2, .int x2)] := hl
  show W p l e rm_X12_cost s m args below meth c s.heap [] 0 0 (MQ below (z_Ql G ad h9 (z_n h) s.heap.size r0) args s 0 0 (z_A ad (z_n h) s.heap.size)) (F0 m 0 ls [])
  obtain ⟨rs, kt⟩ : ∃ rs : Int64 × z_T, rs = (r0, h9) := ⟨_, rfl⟩
  generalize hn0 : z_n h = n0 at hc hB ⊢
  have b21 : ∀ (s0 : Nat) (s1 : Int32) (h : z_T) (H : Heap) (locs : List Loc) (ls : Array Slot), z_B G ad n0 s h H locs → lv_has ls 3 [(0, .ref (ad o0)), (1, .int x1), (2, .int x2)] → ∀ w, fX12_cost_b21 o0 x1 x2 s0 s1 h = some w → w = (r0, h9) → W p l e rm_X12_cost s m args below meth c H locs 0 0 (MQ below (z_Ql G ad h9 n0 s.heap.size r0) args s 0 0 (z_A ad n0 s.heap.size)) (F0 m 21 ls [.int s1, .ref (ad s0)]) := by
    intro s0 s1 h H locs ls hB hl w hv kb
    obtain ⟨g7, hv⟩ := y_gd_e hv
    obtain ⟨⟨r2, h6⟩, c1, hv⟩ := y_bi_e hv
    refine z_thI hc hB (z_runV hc hB 11 (mm_X12_throwsIf hSK l ad s0 s1 h c1) md_X12_throwsIf qmX12_278 g7 (by decide) rfl rfl rfl ⟨Nat.le_of_ble_eq_true rfl, Nat.le_of_ble_eq_true rfl⟩ rfl hl.1 rfl (Nat.le_of_ble_eq_true rfl) dX12_cost_21 ⟨Nat.le_of_ble_eq_true rfl, Nat.le_of_ble_eq_true rfl⟩) (fun H locs hB => ?_)
    refine lv_if_eq (tgt := 29) hx hb dX12_cost_24 (by decide) (fun c8 => ?_) (fun c8 => ?_)
    · replace hv := y_br_t hv c8
      refine lv_aload_n hx hb dX12_cost_29 rfl (lv_at hl 0 rfl) ?_
      refine lv_iload_n hx hb dX12_cost_30 rfl (lv_at hl 1 rfl) ?_
      obtain ⟨g11, hv⟩ := y_gd_e hv
      obtain ⟨h10, c9, hv⟩ := y_bi_e hv
      refine z_thV hc hB (z_runV hc hB 11 (mm_X12_costsBy hSK l ad o0 x1 h6 c9) md_X12_costsBy qmX12_329 g11 (by decide) rfl rfl rfl ⟨Nat.le_of_ble_eq_true rfl, Nat.le_of_ble_eq_true rfl⟩ rfl hl.1 rfl (Nat.le_of_ble_eq_true rfl) dX12_cost_31 ⟨Nat.le_of_ble_eq_true rfl, Nat.le_of_ble_eq_true rfl⟩) (fun H locs hB => ?_)
      refine lv_aload_n hx hb dX12_cost_34 rfl (lv_at hl 0 rfl) ?_
      obtain ⟨g12, hv⟩ := y_gd_e hv
      obtain ⟨o13, eo13, hv⟩ := y_bi_e hv
      refine z_getR hc hB 11 25 g12 eo13 (by decide) (by decide) rfl (z_l1 hc qfX12_59) dX12_cost_35 ?_
      refine lv_iconst (v := (0 : Int32)) hx hb dX12_cost_38 (by decide) ?_
      obtain ⟨g14, hv⟩ := y_gd_e hv
      obtain ⟨i15, hv⟩ := y_gd_e hv
      refine z_lald hc hB g14 i15 dX12_cost_39 ?_
      refine lv_aload_n hx hb dX12_cost_40 rfl (lv_at hl 0 rfl) ?_
      obtain ⟨r17, c16, hv⟩ := y_bi_e hv
      refine z_thI hc hB (z_runV hc hB 11 (mm_X12_allWeights hSK l ad o0 h10 c16) md_X12_allWeights qmX12_304 g12 (by decide) rfl rfl rfl ⟨Nat.le_of_ble_eq_true rfl, Nat.le_of_ble_eq_true rfl⟩ rfl hl.1 rfl (Nat.le_of_ble_eq_true rfl) dX12_cost_41 ⟨Nat.le_of_ble_eq_true rfl, Nat.le_of_ble_eq_true rfl⟩) (fun H locs hB => ?_)
      refine lv_i2l hx hb dX12_cost_44 rfl ?_
      refine lv_aload_n hx hb dX12_cost_45 rfl (lv_at hl 0 rfl) ?_
      refine lv_bipush (v := (9 : Int32)) hx hb dX12_cost_46 (by decide) ?_
      refine lv_iload_n hx hb dX12_cost_48 rfl (lv_at hl 1 rfl) ?_
      obtain ⟨r23, c21, hv⟩ := y_bi_e hv
      refine z_thL hc hB (z_runV hc hB 11 (mm_X12_power hSK l ad o0 (9 : Int32) x1 h10 c21) md_X12_power qmX12_307 g12 (by decide) rfl rfl rfl ⟨Nat.le_of_ble_eq_true rfl, Nat.le_of_ble_eq_true rfl⟩ rfl hl.1 rfl (Nat.le_of_ble_eq_true rfl) dX12_cost_49 ⟨Nat.le_of_ble_eq_true rfl, Nat.le_of_ble_eq_true rfl⟩) (fun H locs hB => ?_)
      refine lv_lmul hx hb dX12_cost_52 ?_
      refine lv_iload_n hx hb dX12_cost_53 rfl (lv_at hl 2 rfl) ?_
      obtain ⟨r28, c26, hv⟩ := y_bi_e hv
      refine z_thL hc hB (z_runS hc hB (mm_X12_part hSK l ad (z_L h10 o13 (0 : Int32).toNatClampNeg) ((r17).toInt64 * r23) x2 h10 c26) md_X12_part qmX12_282 rfl rfl ⟨Nat.le_of_ble_eq_true rfl, Nat.le_of_ble_eq_true rfl⟩ rfl hl.1 rfl (Nat.le_of_ble_eq_true rfl) dX12_cost_54 ⟨Nat.le_of_ble_eq_true rfl, Nat.le_of_ble_eq_true rfl⟩) (fun H locs hB => ?_)
      replace hv := Option.some.inj hv
      subst hv
      obtain ⟨e1, e2⟩ := y_pr kb
      rw [← e1, ← e2]
      exact z_lret hc hB hr dX12_cost_57
    · replace hv := y_br_f hv c8
      refine lv_lconst (v := (0 : Int64)) hx hb dX12_cost_27 (by decide) ?_
      replace hv := Option.some.inj hv
      subst hv
      obtain ⟨e1, e2⟩ := y_pr kb
      rw [← e1, ← e2]
      exact z_lret hc hB hr dX12_cost_28
  have b16 : ∀ (s0 : Nat) (h : z_T) (H : Heap) (locs : List Loc) (ls : Array Slot), z_B G ad n0 s h H locs → lv_has ls 3 [(0, .ref (ad o0)), (1, .int x1), (2, .int x2)] → ∀ w, fX12_cost_b16 o0 x1 x2 s0 h = some w → w = (r0, h9) → W p l e rm_X12_cost s m args below meth c H locs 0 0 (MQ below (z_Ql G ad h9 n0 s.heap.size r0) args s 0 0 (z_A ad n0 s.heap.size)) (F0 m 16 ls [.ref (ad s0)]) := by
    intro s0 h H locs ls hB hl w hv kb
    refine lv_iconst (v := (1 : Int32)) hx hb dX12_cost_16 (by decide) ?_
    refine lv_goto (tgt := 21) hx hb dX12_cost_17 (by decide) ?_
    exact b21 s0 (1 : Int32) h _ _ _ hB (lv_sub hl [0, 1, 2] rfl) _ hv kb
  rw [← kt] at hv
  refine lv_aload_n hx hb dX12_cost_0 rfl (lv_at hl 0 rfl) ?_
  refine lv_aload_n hx hb dX12_cost_1 rfl (lv_at hl 0 rfl) ?_
  refine lv_iload_n hx hb dX12_cost_2 rfl (lv_at hl 1 rfl) ?_
  obtain ⟨g36, hv⟩ := y_gd_e hv
  obtain ⟨r32, c31, hv⟩ := y_bi_e hv
  refine z_thI hc hB (z_runV hc hB 11 (mm_X12_areCosts hSK l ad o0 x1 h c31) md_X12_areCosts qmX12_326 g36 (by decide) rfl rfl rfl ⟨Nat.le_of_ble_eq_true rfl, Nat.le_of_ble_eq_true rfl⟩ rfl hl.1 rfl (Nat.le_of_ble_eq_true rfl) dX12_cost_3 ⟨Nat.le_of_ble_eq_true rfl, Nat.le_of_ble_eq_true rfl⟩) (fun H locs hB => ?_)
  refine lv_if_eq (tgt := 16) hx hb dX12_cost_6 (by decide) (fun c37 => ?_) (fun c37 => ?_)
  · replace hv := y_br_t hv c37
    exact b16 o0 h _ _ _ hB (lv_sub hl [0, 1, 2] rfl) _ hv kt
  · replace hv := y_br_f hv c37
    refine lv_iload_n hx hb dX12_cost_9 rfl (lv_at hl 2 rfl) ?_
    obtain ⟨r39, c38, hv⟩ := y_bi_e hv
    refine z_thI hc hB (z_runS hc hB (mm_X12_isPart hSK l ad x2 h c38) md_X12_isPart qmX12_275 rfl rfl ⟨Nat.le_of_ble_eq_true rfl, Nat.le_of_ble_eq_true rfl⟩ rfl hl.1 rfl (Nat.le_of_ble_eq_true rfl) dX12_cost_10 ⟨Nat.le_of_ble_eq_true rfl, Nat.le_of_ble_eq_true rfl⟩) (fun H locs hB => ?_)
    refine lv_if_ne (tgt := 20) hx hb dX12_cost_13 (by decide) (fun c43 => ?_) (fun c43 => ?_)
    · replace hv := y_br_f hv c43
      refine lv_iconst (v := (0 : Int32)) hx hb dX12_cost_20 (by decide) ?_
      exact b21 o0 (0 : Int32) h _ _ _ hB (lv_sub hl [0, 1, 2] rfl) _ hv kt
    · replace hv := y_br_t hv c43
      exact b16 o0 h _ _ _ hB (lv_sub hl [0, 1, 2] rfl) _ hv kt
theorem dX12_first_0 : decode cX12_first 0 = .ok (.aload_n 0, 1) := by decide +kernel
theorem dX12_first_1 : decode cX12_first 1 = .ok (.iconst 0, 1) := by decide +kernel
theorem dX12_first_2 : decode cX12_first 2 = .ok (.putfield 1, 3) := by decide +kernel
theorem dX12_first_5 : decode cX12_first 5 = .ok (.aload_n 0, 1) := by decide +kernel
theorem dX12_first_6 : decode cX12_first 6 = .ok (.iload_n 1, 1) := by decide +kernel
theorem dX12_first_7 : decode cX12_first 7 = .ok (.invokevirtual 326, 3) := by decide +kernel
theorem dX12_first_10 : decode cX12_first 10 = .ok (.ifCond .ne 5, 3) := by decide +kernel
theorem dX12_first_13 : decode cX12_first 13 = .ok (.iconst (-1), 1) := by decide +kernel
theorem dX12_first_14 : decode cX12_first 14 = .ok (.ireturn, 1) := by decide +kernel
theorem dX12_first_15 : decode cX12_first 15 = .ok (.aload_n 0, 1) := by decide +kernel
theorem dX12_first_16 : decode cX12_first 16 = .ok (.iload_n 1, 1) := by decide +kernel
theorem dX12_first_17 : decode cX12_first 17 = .ok (.invokevirtual 329, 3) := by decide +kernel
theorem dX12_first_20 : decode cX12_first 20 = .ok (.aload_n 0, 1) := by decide +kernel
theorem dX12_first_21 : decode cX12_first 21 = .ok (.getfield 62, 3) := by decide +kernel
theorem dX12_first_24 : decode cX12_first 24 = .ok (.iconst 0, 1) := by decide +kernel
theorem dX12_first_25 : decode cX12_first 25 = .ok (.iaload, 1) := by decide +kernel
theorem dX12_first_26 : decode cX12_first 26 = .ok (.ireturn, 1) := by decide +kernel
abbrev rm_X12_first : Room := { frames := 4, cells := 0, slots := 0, locals := 96 }
noncomputable def fX12_first (o0 : Nat) (x1 : Int32) (h : z_T) : Option (Int32 × z_T) :=
  y_gd (z_ok h o0 11) <|
  y_nm (z_sI h o0 0 (0 : Int32)) fun h2 =>
  y_bi (fX12_areCosts o0 x1 h2) fun r4 =>
  y_br (r4 = 0)
    (some ((-1 : Int32), h2))
    (y_bi (fX12_costsBy o0 x1 h2) fun h10 =>
    y_gd (z_ok h10 o0 11) <|
    y_bi (z_R h10 o0 26) fun o12 =>
    y_gd (z_ok h10 o12 13) <|
    y_gd (z_ix (0 : Int32) (z_N h10 o12)) <|
    some ((z_I h10 o12 (0 : Int32).toNatClampNeg), h10))
set_option maxHeartbeats 4000000 in
set_option maxRecDepth 100000 in
theorem mm_X12_first {G : z_Gt} {S : State → Prop} (hSK : z_SK S) (l : Launch) (ad : Nat → Nat) (o0 : Nat) (x1 : Int32) (h : z_T) {r0 : Int32} {h9 : z_T} (hv : fX12_first o0 x1 h = some (r0, h9)) : z_Mi G S l yX12_first cX12_first 2 (.int) rm_X12_first 0 0 [.ref (ad o0), .int x1] ad h h9 r0 := by
  refine z_ofW hSK (by decide) (Nat.le_of_ble_eq_true rfl) ?_
  intro p e s m args below meth c ls hc hr hnm hB hl
  have hx := hc.1.1
  have hb := hc.1.2.1
  have hown := hc.1.2.2.2.1
  have hts := hc.1.2.2.2.2
  replace hc : z_C G S ad (z_n h) p m c cX12_first 2 s args RX12 meth := hc
  replace hown : s.vm.findClass RX12 = some m.cls := hown
  replace hl : lv_has ls 2 [(0, .ref (ad o0)), (1, .int x1)] := hl
  show W p l e rm_X12_first s m args below meth c s.heap [] 0 0 (MQ below (z_Qi G ad h9 (z_n h) s.heap.size r0) args s 0 0 (z_A ad (z_n h) s.heap.size)) (F0 m 0 ls [])
  obtain ⟨rs, kt⟩ : ∃ rs : Int32 × z_T, rs = (r0, h9) := ⟨_, rfl⟩
  generalize hn0 : z_n h = n0 at hc hB ⊢
  rw [← kt] at hv
  refine lv_aload_n hx hb dX12_first_0 rfl (lv_at hl 0 rfl) ?_
  refine lv_iconst (v := (0 : Int32)) hx hb dX12_first_1 (by decide) ?_
  obtain ⟨g1, hv⟩ := y_gd_e hv
  obtain ⟨h2, eh2, hv⟩ := y_nm_e hv
  refine y_putI hc hB 11 0 eh2 g1 (z_l1 hc qfX12_1) dX12_first_2 (by decide) (by decide) rfl rfl rfl rfl (fun H locs hB => ?_)
  refine lv_aload_n hx hb dX12_first_5 rfl (lv_at hl 0 rfl) ?_
  refine lv_iload_n hx hb dX12_first_6 rfl (lv_at hl 1 rfl) ?_
  obtain ⟨r4, c3, hv⟩ := y_bi_e hv
  refine z_thI hc hB (z_runV hc hB 11 (mm_X12_areCosts hSK l ad o0 x1 h2 c3) md_X12_areCosts qmX12_326 (by rw [eh2]; exact g1) (by decide) rfl rfl rfl ⟨Nat.le_of_ble_eq_true rfl, Nat.le_of_ble_eq_true rfl⟩ rfl hl.1 rfl (Nat.le_of_ble_eq_true rfl) dX12_first_7 ⟨Nat.le_of_ble_eq_true rfl, Nat.le_of_ble_eq_true rfl⟩) (fun H locs hB => ?_)
  refine lv_if_ne (tgt := 15) hx hb dX12_first_10 (by decide) (fun c8 => ?_) (fun c8 => ?_)
  · replace hv := y_br_f hv c8
    refine lv_aload_n hx hb dX12_first_15 rfl (lv_at hl 0 rfl) ?_
    refine lv_iload_n hx hb dX12_first_16 rfl (lv_at hl 1 rfl) ?_
    obtain ⟨h10, c9, hv⟩ := y_bi_e hv
    refine z_thV hc hB (z_runV hc hB 11 (mm_X12_costsBy hSK l ad o0 x1 h2 c9) md_X12_costsBy qmX12_329 (by rw [eh2]; exact g1) (by decide) rfl rfl rfl ⟨Nat.le_of_ble_eq_true rfl, Nat.le_of_ble_eq_true rfl⟩ rfl hl.1 rfl (Nat.le_of_ble_eq_true rfl) dX12_first_17 ⟨Nat.le_of_ble_eq_true rfl, Nat.le_of_ble_eq_true rfl⟩) (fun H locs hB => ?_)
    refine lv_aload_n hx hb dX12_first_20 rfl (lv_at hl 0 rfl) ?_
    obtain ⟨g11, hv⟩ := y_gd_e hv
    obtain ⟨o12, eo12, hv⟩ := y_bi_e hv
    refine z_getR hc hB 11 26 g11 eo12 (by decide) (by decide) rfl (z_l1 hc qfX12_62) dX12_first_21 ?_
    refine lv_iconst (v := (0 : Int32)) hx hb dX12_first_24 (by decide) ?_
    obtain ⟨g13, hv⟩ := y_gd_e hv
    obtain ⟨i14, hv⟩ := y_gd_e hv
    refine z_iald hc hB g13 i14 dX12_first_25 ?_
    replace hv := Option.some.inj hv
    subst hv
    obtain ⟨e1, e2⟩ := y_pr kt
    rw [← e1, ← e2]
    exact z_iret hc hB hr dX12_first_26
  · replace hv := y_br_t hv c8
    refine lv_iconst (v := (-1 : Int32)) hx hb dX12_first_13 (by decide) ?_
    replace hv := Option.some.inj hv
    subst hv
    obtain ⟨e1, e2⟩ := y_pr kt
    rw [← e1, ← e2]
    exact z_iret hc hB hr dX12_first_14
theorem qfX12_65 : Cond.fieldLink RX12 65 "DreamTestsModel" "text" "[B" ∈ z_ws := List.mem_filter.mpr ⟨List.mem_append_right _ (List.mem_of_getElem? (i := 1329) (by decide +kernel)), rfl⟩
theorem qfX12_332 : Cond.fieldLink RX12 332 "DreamTestsModel" "textMany" "I" ∈ z_ws := List.mem_filter.mpr ⟨List.mem_append_right _ (List.mem_of_getElem? (i := 1331) (by decide +kernel)), rfl⟩
theorem dX12_put_0 : decode cX12_put 0 = .ok (.aload_n 0, 1) := by decide +kernel
theorem dX12_put_1 : decode cX12_put 1 = .ok (.getfield 65, 3) := by decide +kernel
theorem dX12_put_4 : decode cX12_put 4 = .ok (.aload_n 0, 1) := by decide +kernel
theorem dX12_put_5 : decode cX12_put 5 = .ok (.getfield 332, 3) := by decide +kernel
theorem dX12_put_8 : decode cX12_put 8 = .ok (.iload_n 1, 1) := by decide +kernel
theorem dX12_put_9 : decode cX12_put 9 = .ok (.i2b, 1) := by decide +kernel
theorem dX12_put_10 : decode cX12_put 10 = .ok (.bastore, 1) := by decide +kernel
theorem dX12_put_11 : decode cX12_put 11 = .ok (.aload_n 0, 1) := by decide +kernel
theorem dX12_put_12 : decode cX12_put 12 = .ok (.dup, 1) := by decide +kernel
theorem dX12_put_13 : decode cX12_put 13 = .ok (.getfield 332, 3) := by decide +kernel
theorem dX12_put_16 : decode cX12_put 16 = .ok (.iconst 1, 1) := by decide +kernel
theorem dX12_put_17 : decode cX12_put 17 = .ok (.iadd, 1) := by decide +kernel
theorem dX12_put_18 : decode cX12_put 18 = .ok (.putfield 332, 3) := by decide +kernel
theorem dX12_put_21 : decode cX12_put 21 = .ok (.return_, 1) := by decide +kernel
abbrev rm_X12_put : Room := { frames := 0, cells := 0, slots := 0, locals := 0 }
noncomputable def fX12_put (o0 : Nat) (x1 : Int32) (h : z_T) : Option (z_T) :=
  y_gd (z_ok h o0 11) <|
  y_bi (z_R h o0 29) fun o2 =>
  y_gd (z_ok h o2 12) <|
  y_gd (z_ix (z_I h o0 31) (z_N h o2)) <|
  y_nm (z_sI h o2 (z_I h o0 31).toNatClampNeg ((x1).toInt8.toInt32).toInt8.toInt32) fun h5 =>
  y_nm (z_sI h5 o0 31 ((z_I h5 o0 31) + (1 : Int32))) fun h6 =>
  some h6
set_option maxHeartbeats 4000000 in
set_option maxRecDepth 100000 in
theorem mm_X12_put {G : z_Gt} {S : State → Prop} (hSK : z_SK S) (l : Launch) (ad : Nat → Nat) (o0 : Nat) (x1 : Int32) (h : z_T) {h9 : z_T} (hv : fX12_put o0 x1 h = some h9) : z_Mv G S l yX12_put cX12_put 2 rm_X12_put 0 0 [.ref (ad o0), .int x1] ad h h9 := by
  refine z_ofW hSK (by decide) (Nat.le_of_ble_eq_true rfl) ?_
  intro p e s m args below meth c ls hc hr hnm hB hl
  have hx := hc.1.1
  have hb := hc.1.2.1
  have hown := hc.1.2.2.2.1
  have hts := hc.1.2.2.2.2
  replace hc : z_C G S ad (z_n h) p m c cX12_put 2 s args RX12 meth := hc
  replace hown : s.vm.findClass RX12 = some m.cls := hown
  replace hl : lv_has ls 2 [(0, .ref (ad o0)), (1, .int x1)] := hl
  show W p l e rm_X12_put s m args below meth c s.heap [] 0 0 (MQ below (z_Qv G ad h9 (z_n h) s.heap.size) args s 0 0 (z_A ad (z_n h) s.heap.size)) (F0 m 0 ls [])
  obtain ⟨rs, kt⟩ : ∃ rs : z_T, rs = h9 := ⟨_, rfl⟩
  generalize hn0 : z_n h = n0 at hc hB ⊢
  rw [← kt] at hv
  refine lv_aload_n hx hb dX12_put_0 rfl (lv_at hl 0 rfl) ?_
  obtain ⟨g1, hv⟩ := y_gd_e hv
  obtain ⟨o2, eo2, hv⟩ := y_bi_e hv
  refine z_getR hc hB 11 29 g1 eo2 (by decide) (by decide) rfl (z_l1 hc qfX12_65) dX12_put_1 ?_
  refine lv_aload_n hx hb dX12_put_4 rfl (lv_at hl 0 rfl) ?_
  refine z_getI hc hB 11 31 g1 (by decide) (by decide) rfl (z_l1 hc qfX12_332) dX12_put_5 ?_
  refine lv_iload_n hx hb dX12_put_8 rfl (lv_at hl 1 rfl) ?_
  refine lv_i2b hx hb dX12_put_9 rfl ?_
  obtain ⟨g3, hv⟩ := y_gd_e hv
  obtain ⟨i4, hv⟩ := y_gd_e hv
  obtain ⟨h5, eh5, hv⟩ := y_nm_e hv
  refine y_bast hc hB eh5 g3 i4 dX12_put_10 (fun H locs hB => ?_)
  refine lv_aload_n hx hb dX12_put_11 rfl (lv_at hl 0 rfl) ?_
  refine lv_dup hx hb dX12_put_12 rfl ?_
  refine z_getI hc hB 11 31 (by rw [eh5]; exact g1) (by decide) (by decide) rfl (z_l1 hc qfX12_332) dX12_put_13 ?_
  refine lv_iconst (v := (1 : Int32)) hx hb dX12_put_16 (by decide) ?_
  refine lv_iadd hx hb dX12_put_17 ?_
  obtain ⟨h6, eh6, hv⟩ := y_nm_e hv
  refine y_putI hc hB 11 31 eh6 (by rw [eh5]; exact g1) (z_l1 hc qfX12_332) dX12_put_18 (by decide) (by decide) rfl rfl rfl rfl (fun H locs hB => ?_)
  replace hv := Option.some.inj hv
  subst hv
  rw [← kt]
  exact z_vret hc hB hr dX12_put_21
theorem qkX12_338 : Cond.constantLong RX12 338 (255 : Int64) ∈ z_ws := List.mem_filter.mpr ⟨List.mem_append_right _ (List.mem_of_getElem? (i := 1735) (by decide +kernel)), rfl⟩
theorem qmX12_335 : Cond.methodLink RX12 335 yX12_put ∈ z_ws := List.mem_filter.mpr ⟨List.mem_append_right _ (List.mem_of_getElem? (i := 1731) (by decide +kernel)), rfl⟩
theorem qc_X12_put : Cond.code yX12_put cX12_put 2 none ∈ z_ws := List.mem_filter.mpr ⟨List.mem_append_right _ (List.mem_of_getElem? (i := 1734) (by decide +kernel)), rfl⟩
theorem qi_X12_put : Cond.instanceMethod yX12_put ∈ z_ws := List.mem_filter.mpr ⟨List.mem_append_right _ (List.mem_of_getElem? (i := 1733) (by decide +kernel)), rfl⟩
theorem qs_X12_put : Cond.selects RX12 yX12_put yX12_put ∈ z_ws := List.mem_filter.mpr ⟨List.mem_append_left _ (List.mem_of_getElem? (i := 70) (by decide +kernel)), rfl⟩
theorem md_X12_put : z_mdV yX12_put cX12_put 2 none 1 := ⟨⟨qn_RX12, qc_X12_put, ⟨by decide +kernel, by decide +kernel, by decide +kernel⟩⟩, qi_X12_put, qs_X12_put⟩
theorem dX12_putWord_0 : decode cX12_putWord 0 = .ok (.aload_n 0, 1) := by decide +kernel
theorem dX12_putWord_1 : decode cX12_putWord 1 = .ok (.getfield 332, 3) := by decide +kernel
theorem dX12_putWord_4 : decode cX12_putWord 4 = .ok (.ifCond .le 9, 3) := by decide +kernel
theorem dX12_putWord_7 : decode cX12_putWord 7 = .ok (.aload_n 0, 1) := by decide +kernel
theorem dX12_putWord_8 : decode cX12_putWord 8 = .ok (.bipush 32, 2) := by decide +kernel
theorem dX12_putWord_10 : decode cX12_putWord 10 = .ok (.invokevirtual 335, 3) := by decide +kernel
theorem dX12_putWord_13 : decode cX12_putWord 13 = .ok (.bipush 48, 2) := by decide +kernel
theorem dX12_putWord_15 : decode cX12_putWord 15 = .ok (.istore_n 3, 1) := by decide +kernel
theorem dX12_putWord_16 : decode cX12_putWord 16 = .ok (.iload_n 3, 1) := by decide +kernel
theorem dX12_putWord_17 : decode cX12_putWord 17 = .ok (.ifCond .lt 33, 3) := by decide +kernel
theorem dX12_putWord_20 : decode cX12_putWord 20 = .ok (.lload_n 1, 1) := by decide +kernel
theorem dX12_putWord_21 : decode cX12_putWord 21 = .ok (.iload_n 3, 1) := by decide +kernel
theorem dX12_putWord_22 : decode cX12_putWord 22 = .ok (.lshr, 1) := by decide +kernel
theorem dX12_putWord_23 : decode cX12_putWord 23 = .ok (.ldc2_w 338, 3) := by decide +kernel
theorem dX12_putWord_26 : decode cX12_putWord 26 = .ok (.land, 1) := by decide +kernel
theorem dX12_putWord_27 : decode cX12_putWord 27 = .ok (.lconst 0, 1) := by decide +kernel
theorem dX12_putWord_28 : decode cX12_putWord 28 = .ok (.lcmp, 1) := by decide +kernel
theorem dX12_putWord_29 : decode cX12_putWord 29 = .ok (.ifCond .eq 15, 3) := by decide +kernel
theorem dX12_putWord_32 : decode cX12_putWord 32 = .ok (.aload_n 0, 1) := by decide +kernel
theorem dX12_putWord_33 : decode cX12_putWord 33 = .ok (.lload_n 1, 1) := by decide +kernel
theorem dX12_putWord_34 : decode cX12_putWord 34 = .ok (.iload_n 3, 1) := by decide +kernel
theorem dX12_putWord_35 : decode cX12_putWord 35 = .ok (.lshr, 1) := by decide +kernel
theorem dX12_putWord_36 : decode cX12_putWord 36 = .ok (.ldc2_w 338, 3) := by decide +kernel
theorem dX12_putWord_39 : decode cX12_putWord 39 = .ok (.land, 1) := by decide +kernel
theorem dX12_putWord_40 : decode cX12_putWord 40 = .ok (.l2i, 1) := by decide +kernel
theorem dX12_putWord_41 : decode cX12_putWord 41 = .ok (.invokevirtual 335, 3) := by decide +kernel
theorem dX12_putWord_44 : decode cX12_putWord 44 = .ok (.iinc 3 (-8), 3) := by decide +kernel
theorem dX12_putWord_47 : decode cX12_putWord 47 = .ok (.goto (-31), 3) := by decide +kernel
theorem dX12_putWord_50 : decode cX12_putWord 50 = .ok (.return_, 1) := by decide +kernel
abbrev rm_X12_putWord : Room := { frames := 1, cells := 0, slots := 0, locals := 21 }
noncomputable def fX12_putWord_b44 (o0 : Nat) (l1 : Int64) (x3 : Int32) (h : z_T) : Option ((Int32 × z_T) ⊕ (z_T)) :=
  y_nm (x3 + (-8)) fun v1 =>
  some (.inl (v1, h))
noncomputable def fX12_putWord_b16_i (o0 : Nat) (l1 : Int64) (x3 : Int32) (h : z_T) : Option ((Int32 × z_T) ⊕ (z_T)) :=
  y_br (x3 < 0)
    (y_mp <|
    some h)
    (y_br ((lg_cmp ((l1 >>> ((x3).toInt64 &&& 63)) &&& (255 : Int64)) (0 : Int64)) = 0)
      (fX12_putWord_b44 o0 l1 x3 h)
      (y_gd (z_ok h o0 11) <|
      y_bi (fX12_put o0 ((((l1 >>> ((x3).toInt64 &&& 63)) &&& (255 : Int64))).toInt32) h) fun h6 =>
      fX12_putWord_b44 o0 l1 x3 h6))
noncomputable def fX12_putWord_b16 (o0 : Nat) (l1 : Int64) (x3 : Int32) (h : z_T) : Option (z_T) := y_lp (fun q : Int32 × z_T => fX12_putWord_b16_i o0 l1 q.1 q.2) (x3, h)
noncomputable def fX12_putWord_b13 (o0 : Nat) (l1 : Int64) (h : z_T) : Option (z_T) :=
  fX12_putWord_b16 o0 l1 (48 : Int32) h
noncomputable def fX12_putWord (o0 : Nat) (l1 : Int64) (h : z_T) : Option (z_T) :=
  y_gd (z_ok h o0 11) <|
  y_br ((z_I h o0 31) ≤ 0)
    (fX12_putWord_b13 o0 l1 h)
    (y_bi (fX12_put o0 (32 : Int32) h) fun h11 =>
    fX12_putWord_b13 o0 l1 h11)
set_option maxHeartbeats 4000000 in
set_option maxRecDepth 100000 in
theorem mm_X12_putWord {G : z_Gt} {S : State → Prop} (hSK : z_SK S) (l : Launch) (ad : Nat → Nat) (o0 : Nat) (l1 : Int64) (h : z_T) {h9 : z_T} (hv : fX12_putWord o0 l1 h = some h9) : z_Mv G S l yX12_putWord cX12_putWord 4 rm_X12_putWord 0 0 [.ref (ad o0), .long l1] ad h h9 := by
  refine z_ofW hSK (by decide) (Nat.le_of_ble_eq_true rfl) ?_
  intro p e s m args below meth c ls hc hr hnm hB hl
  have hx := hc.1.1
  have hb := hc.1.2.1
  have hown := hc.1.2.2.2.1
  have hts := hc.1.2.2.2.2
  replace hc : z_C G S ad (z_n h) p m c cX12_putWord 4 s args RX12 meth := hc
  replace hown : s.vm.findClass RX12 = some m.cls := hown
  replace hl : lv_has ls 4 [(0, .ref (ad o0)), (1, .long l1)] := hl
  show W p l e rm_X12_putWord s m args below meth c s.heap [] 0 0 (MQ below (z_Qv G ad h9 (z_n h) s.heap.size) args s 0 0 (z_A ad (z_n h) s.heap.size)) (F0 m 0 ls [])
  obtain ⟨rs, kt⟩ : ∃ rs : z_T, rs = h9 := ⟨_, rfl⟩
  generalize hn0 : z_n h = n0 at hc hB ⊢
  have L16 : ∀ (nn16 : Nat) (x3 : Int32) (h : z_T) (H : Heap) (locs : List Loc) (ls : Array Slot), z_B G ad n0 s h H locs → lv_has ls 4 [(0, .ref (ad o0)), (1, .long l1), (3, .int x3)] → ∀ vv16, y_lpN (fun q : Int32 × z_T => fX12_putWord_b16_i o0 l1 q.1 q.2) nn16 (x3, h) = some vv16 → vv16 = h9 → W p l e rm_X12_putWord s m args below meth c H locs 0 0 (MQ below (z_Qv G ad h9 n0 s.heap.size) args s 0 0 (z_A ad n0 s.heap.size)) (F0 m 16 ls []) := by
    intro nn16
    induction nn16 with
    | zero => intro x3 h H locs ls hB hl vv16 hv kv16; exact absurd hv (fun q => y_lpN_0 q)
    | succ nn16 ih16 =>
      intro x3 h H locs ls hB hl vv16 hv kv16
      obtain ⟨w, hq, kw16⟩ := y_lpN_e hv
      clear hv
      have hv : fX12_putWord_b16_i o0 l1 x3 h = some w := hq
      clear hq
      have b44 : ∀ (x3 : Int32) (h : z_T) (H : Heap) (locs : List Loc) (ls : Array Slot), z_B G ad n0 s h H locs → lv_has ls 4 [(0, .ref (ad o0)), (1, .long l1), (3, .int x3)] → ∀ w, fX12_putWord_b44 o0 l1 x3 h = some w → y_lq (fun q : Int32 × z_T => fX12_putWord_b16_i o0 l1 q.1 q.2) nn16 vv16 w → W p l e rm_X12_putWord s m args below meth c H locs 0 0 (MQ below (z_Qv G ad h9 n0 s.heap.size) args s 0 0 (z_A ad n0 s.heap.size)) (F0 m 44 ls []) := by
        intro x3 h H locs ls hB hl w hv kw16
        obtain ⟨v1, ev1, hv⟩ := y_nm_e hv
        refine lv_iinc (v := v1) (lv' := [(3, .int v1), (0, .ref (ad o0)), (1, .long l1)]) hx hb dX12_putWord_44 hl (k := 2) rfl (by rw [ev1]; rfl) (by decide) rfl (fun ls hl => ?_)
        refine lv_goto (tgt := 16) hx hb dX12_putWord_47 (by decide) ?_
        replace hv := Option.some.inj hv
        subst hv
        exact ih16 v1 h _ _ _ hB (lv_sub hl [1, 2, 0] rfl) _ kw16 kv16
      refine lv_iload_n hx hb dX12_putWord_16 rfl (lv_at hl 2 rfl) ?_
      refine lv_if_lt (tgt := 50) hx hb dX12_putWord_17 (by decide) (fun c2 => ?_) (fun c2 => ?_)
      · replace hv := y_br_t hv c2
        obtain ⟨t3, hq, ew⟩ := y_mp_e hv
        clear hv; subst ew
        replace kw16 : t3 = _ := kw16
        subst kw16
        have hv := hq
        clear hq
        replace hv := Option.some.inj hv
        subst hv
        rw [← kv16]
        exact z_vret hc hB hr dX12_putWord_50
      · replace hv := y_br_f hv c2
        refine lv_lload_n hx hb dX12_putWord_20 rfl (lv_at hl 1 rfl) ?_
        refine lv_iload_n hx hb dX12_putWord_21 rfl (lv_at hl 2 rfl) ?_
        refine lv_lshr hx hb dX12_putWord_22 rfl ?_
        refine lv_ldc2 (v := (255 : Int64)) hx hb hown (hts _ qkX12_338) dX12_putWord_23 ?_
        refine lv_land hx hb dX12_putWord_26 ?_
        refine lv_lconst (v := (0 : Int64)) hx hb dX12_putWord_27 (by decide) ?_
        refine W.lcmp hx hb dX12_putWord_28 ?_
        refine lv_if_eq (tgt := 44) hx hb dX12_putWord_29 (by decide) (fun c4 => ?_) (fun c4 => ?_)
        · replace hv := y_br_t hv c4
          exact b44 x3 h _ _ _ hB (lv_sub hl [0, 1, 2] rfl) _ hv kw16
        · replace hv := y_br_f hv c4
          refine lv_aload_n hx hb dX12_putWord_32 rfl (lv_at hl 0 rfl) ?_
          refine lv_lload_n hx hb dX12_putWord_33 rfl (lv_at hl 1 rfl) ?_
          refine lv_iload_n hx hb dX12_putWord_34 rfl (lv_at hl 2 rfl) ?_
          refine lv_lshr hx hb dX12_putWord_35 rfl ?_
          refine lv_ldc2 (v := (255 : Int64)) hx hb hown (hts _ qkX12_338) dX12_putWord_36 ?_
          refine lv_land hx hb dX12_putWord_39 ?_
          refine lv_l2i hx hb dX12_putWord_40 rfl ?_
          obtain ⟨g7, hv⟩ := y_gd_e hv
          obtain ⟨h6, c5, hv⟩ := y_bi_e hv
          refine z_thV hc hB (z_runV hc hB 11 (mm_X12_put hSK l ad o0 ((((l1 >>> ((x3).toInt64 &&& 63)) &&& (255 : Int64))).toInt32) h c5) md_X12_put qmX12_335 g7 (by decide) rfl rfl rfl ⟨Nat.le_of_ble_eq_true rfl, Nat.le_of_ble_eq_true rfl⟩ rfl hl.1 rfl (Nat.le_of_ble_eq_true rfl) dX12_putWord_41 ⟨Nat.le_of_ble_eq_true rfl, Nat.le_of_ble_eq_true rfl⟩) (fun H locs hB => ?_)
          exact b44 x3 h6 _ _ _ hB (lv_sub hl [0, 1, 2] rfl) _ hv kw16
  have b13 : ∀ (h : z_T) (H : Heap) (locs : List Loc) (ls : Array Slot), z_B G ad n0 s h H locs → lv_has ls 4 [(0, .ref (ad o0)), (1, .long l1)] → ∀ w, fX12_putWord_b13 o0 l1 h = some w → w = h9 → W p l e rm_X12_putWord s m args below meth c H locs 0 0 (MQ below (z_Qv G ad h9 n0 s.heap.size) args s 0 0 (z_A ad n0 s.heap.size)) (F0 m 13 ls []) := by
    intro h H locs ls hB hl w hv kb
    refine lv_bipush (v := (48 : Int32)) hx hb dX12_putWord_13 (by decide) ?_
    refine lv_istore_n (lv' := [(3, .int (48 : Int32)), (0, .ref (ad o0)), (1, .long l1)]) hx hb dX12_putWord_15 rfl hl (by decide) rfl (fun ls hl => ?_)
    obtain ⟨n, hv⟩ := y_lp_e hv
    exact L16 n (48 : Int32) h _ _ _ hB (lv_sub hl [1, 2, 0] rfl) _ hv kb
  rw [← kt] at hv
  refine lv_aload_n hx hb dX12_putWord_0 rfl (lv_at hl 0 rfl) ?_
  obtain ⟨g8, hv⟩ := y_gd_e hv
  refine z_getI hc hB 11 31 g8 (by decide) (by decide) rfl (z_l1 hc qfX12_332) dX12_putWord_1 ?_
  refine lv_if_le (tgt := 13) hx hb dX12_putWord_4 (by decide) (fun c9 => ?_) (fun c9 => ?_)
  · replace hv := y_br_t hv c9
    exact b13 h _ _ _ hB (lv_sub hl [0, 1] rfl) _ hv kt
  · replace hv := y_br_f hv c9
    refine lv_aload_n hx hb dX12_putWord_7 rfl (lv_at hl 0 rfl) ?_
    refine lv_bipush (v := (32 : Int32)) hx hb dX12_putWord_8 (by decide) ?_
    obtain ⟨h11, c10, hv⟩ := y_bi_e hv
    refine z_thV hc hB (z_runV hc hB 11 (mm_X12_put hSK l ad o0 (32 : Int32) h c10) md_X12_put qmX12_335 g8 (by decide) rfl rfl rfl ⟨Nat.le_of_ble_eq_true rfl, Nat.le_of_ble_eq_true rfl⟩ rfl hl.1 rfl (Nat.le_of_ble_eq_true rfl) dX12_putWord_10 ⟨Nat.le_of_ble_eq_true rfl, Nat.le_of_ble_eq_true rfl⟩) (fun H locs hB => ?_)
    exact b13 h11 _ _ _ hB (lv_sub hl [0, 1] rfl) _ hv kt
theorem qmX12_340 : Cond.methodLink RX12 340 yX12_putWord ∈ z_ws := List.mem_filter.mpr ⟨List.mem_append_right _ (List.mem_of_getElem? (i := 1727) (by decide +kernel)), rfl⟩
theorem qc_X12_putWord : Cond.code yX12_putWord cX12_putWord 4 none ∈ z_ws := List.mem_filter.mpr ⟨List.mem_append_right _ (List.mem_of_getElem? (i := 1730) (by decide +kernel)), rfl⟩
theorem qi_X12_putWord : Cond.instanceMethod yX12_putWord ∈ z_ws := List.mem_filter.mpr ⟨List.mem_append_right _ (List.mem_of_getElem? (i := 1729) (by decide +kernel)), rfl⟩
theorem qs_X12_putWord : Cond.selects RX12 yX12_putWord yX12_putWord ∈ z_ws := List.mem_filter.mpr ⟨List.mem_append_left _ (List.mem_of_getElem? (i := 69) (by decide +kernel)), rfl⟩
theorem md_X12_putWord : z_mdV yX12_putWord cX12_putWord 4 none 1 := ⟨⟨qn_RX12, qc_X12_putWord, ⟨by decide +kernel, by decide +kernel, by decide +kernel⟩⟩, qi_X12_putWord, qs_X12_putWord⟩
theorem qfX12_68 : Cond.fieldLink RX12 68 "DreamTestsModel" "due" "[I" ∈ z_ws := List.mem_filter.mpr ⟨List.mem_append_right _ (List.mem_of_getElem? (i := 1330) (by decide +kernel)), rfl⟩
theorem qmX12_344 : Cond.methodLink RX12 344 yX12_isUpCheap ∈ z_ws := List.mem_filter.mpr ⟨List.mem_append_right _ (List.mem_of_getElem? (i := 1736) (by decide +kernel)), rfl⟩
theorem qc_X12_isUpCheap : Cond.code yX12_isUpCheap cX12_isUpCheap 1 (some .boolean) ∈ z_ws := List.mem_filter.mpr ⟨List.mem_append_right _ (List.mem_of_getElem? (i := 1739) (by decide +kernel)), rfl⟩
theorem qi_X12_isUpCheap : Cond.instanceMethod yX12_isUpCheap ∈ z_ws := List.mem_filter.mpr ⟨List.mem_append_right _ (List.mem_of_getElem? (i := 1738) (by decide +kernel)), rfl⟩
theorem qs_X12_isUpCheap : Cond.selects RX12 yX12_isUpCheap yX12_isUpCheap ∈ z_ws := List.mem_filter.mpr ⟨List.mem_append_left _ (List.mem_of_getElem? (i := 71) (by decide +kernel)), rfl⟩
theorem md_X12_isUpCheap : z_mdV yX12_isUpCheap cX12_isUpCheap 1 (some .boolean) 0 := ⟨⟨qn_RX12, qc_X12_isUpCheap, ⟨by decide +kernel, by decide +kernel, by decide +kernel⟩⟩, qi_X12_isUpCheap, qs_X12_isUpCheap⟩
theorem qkX12_123 : Cond.constantLong RX12 123 (6448484 : Int64) ∈ z_ws := List.mem_filter.mpr ⟨List.mem_append_right _ (List.mem_of_getElem? (i := 1286) (by decide +kernel)), rfl⟩
theorem qkX12_121 : Cond.constantLong RX12 121 (30064 : Int64) ∈ z_ws := List.mem_filter.mpr ⟨List.mem_append_right _ (List.mem_of_getElem? (i := 1285) (by decide +kernel)), rfl⟩
theorem dX12_write_0 : decode cX12_write 0 = .ok (.aload_n 0, 1) := by decide +kernel
theorem dX12_write_1 : decode cX12_write 1 = .ok (.iconst 0, 1) := by decide +kernel
theorem dX12_write_2 : decode cX12_write 2 = .ok (.putfield 1, 3) := by decide +kernel
theorem dX12_write_5 : decode cX12_write 5 = .ok (.aload_n 0, 1) := by decide +kernel
theorem dX12_write_6 : decode cX12_write 6 = .ok (.iload_n 1, 1) := by decide +kernel
theorem dX12_write_7 : decode cX12_write 7 = .ok (.invokevirtual 326, 3) := by decide +kernel
theorem dX12_write_10 : decode cX12_write 10 = .ok (.ifCond .ne 5, 3) := by decide +kernel
theorem dX12_write_13 : decode cX12_write 13 = .ok (.iconst (-1), 1) := by decide +kernel
theorem dX12_write_14 : decode cX12_write 14 = .ok (.ireturn, 1) := by decide +kernel
theorem dX12_write_15 : decode cX12_write 15 = .ok (.aload_n 0, 1) := by decide +kernel
theorem dX12_write_16 : decode cX12_write 16 = .ok (.iload_n 1, 1) := by decide +kernel
theorem dX12_write_17 : decode cX12_write 17 = .ok (.invokevirtual 329, 3) := by decide +kernel
theorem dX12_write_20 : decode cX12_write 20 = .ok (.aload_n 0, 1) := by decide +kernel
theorem dX12_write_21 : decode cX12_write 21 = .ok (.iconst 0, 1) := by decide +kernel
theorem dX12_write_22 : decode cX12_write 22 = .ok (.putfield 332, 3) := by decide +kernel
theorem dX12_write_25 : decode cX12_write 25 = .ok (.aload_n 0, 1) := by decide +kernel
theorem dX12_write_26 : decode cX12_write 26 = .ok (.getfield 68, 3) := by decide +kernel
theorem dX12_write_29 : decode cX12_write 29 = .ok (.iconst 0, 1) := by decide +kernel
theorem dX12_write_30 : decode cX12_write 30 = .ok (.iconst 0, 1) := by decide +kernel
theorem dX12_write_31 : decode cX12_write 31 = .ok (.iastore, 1) := by decide +kernel
theorem dX12_write_32 : decode cX12_write 32 = .ok (.iconst 1, 1) := by decide +kernel
theorem dX12_write_33 : decode cX12_write 33 = .ok (.istore_n 2, 1) := by decide +kernel
theorem dX12_write_34 : decode cX12_write 34 = .ok (.iload_n 2, 1) := by decide +kernel
theorem dX12_write_35 : decode cX12_write 35 = .ok (.ifCond .le 150, 3) := by decide +kernel
theorem dX12_write_38 : decode cX12_write 38 = .ok (.iinc 2 (-1), 3) := by decide +kernel
theorem dX12_write_41 : decode cX12_write 41 = .ok (.aload_n 0, 1) := by decide +kernel
theorem dX12_write_42 : decode cX12_write 42 = .ok (.getfield 68, 3) := by decide +kernel
theorem dX12_write_45 : decode cX12_write 45 = .ok (.iload_n 2, 1) := by decide +kernel
theorem dX12_write_46 : decode cX12_write 46 = .ok (.iaload, 1) := by decide +kernel
theorem dX12_write_47 : decode cX12_write 47 = .ok (.istore_n 3, 1) := by decide +kernel
theorem dX12_write_48 : decode cX12_write 48 = .ok (.iload_n 3, 1) := by decide +kernel
theorem dX12_write_49 : decode cX12_write 49 = .ok (.ifCond .ge 13, 3) := by decide +kernel
theorem dX12_write_52 : decode cX12_write 52 = .ok (.aload_n 0, 1) := by decide +kernel
theorem dX12_write_53 : decode cX12_write 53 = .ok (.iload_n 3, 1) := by decide +kernel
theorem dX12_write_54 : decode cX12_write 54 = .ok (.ineg, 1) := by decide +kernel
theorem dX12_write_55 : decode cX12_write 55 = .ok (.i2l, 1) := by decide +kernel
theorem dX12_write_56 : decode cX12_write 56 = .ok (.invokevirtual 340, 3) := by decide +kernel
theorem dX12_write_59 : decode cX12_write 59 = .ok (.goto (-25), 3) := by decide +kernel
theorem dX12_write_62 : decode cX12_write 62 = .ok (.aload_n 0, 1) := by decide +kernel
theorem dX12_write_63 : decode cX12_write 63 = .ok (.getfield 62, 3) := by decide +kernel
theorem dX12_write_66 : decode cX12_write 66 = .ok (.iload_n 3, 1) := by decide +kernel
theorem dX12_write_67 : decode cX12_write 67 = .ok (.iaload, 1) := by decide +kernel
theorem dX12_write_68 : decode cX12_write 68 = .ok (.istore 4, 2) := by decide +kernel
theorem dX12_write_70 : decode cX12_write 70 = .ok (.iload 4, 2) := by decide +kernel
theorem dX12_write_72 : decode cX12_write 72 = .ok (.iconst (-1), 1) := by decide +kernel
theorem dX12_write_73 : decode cX12_write 73 = .ok (.if_icmp .ne 31, 3) := by decide +kernel
theorem dX12_write_76 : decode cX12_write 76 = .ok (.aload_n 0, 1) := by decide +kernel
theorem dX12_write_77 : decode cX12_write 77 = .ok (.iload_n 3, 1) := by decide +kernel
theorem dX12_write_78 : decode cX12_write 78 = .ok (.invokevirtual 323, 3) := by decide +kernel
theorem dX12_write_81 : decode cX12_write 81 = .ok (.aload_n 0, 1) := by decide +kernel
theorem dX12_write_82 : decode cX12_write 82 = .ok (.aload_n 0, 1) := by decide +kernel
theorem dX12_write_83 : decode cX12_write 83 = .ok (.invokevirtual 344, 3) := by decide +kernel
theorem dX12_write_86 : decode cX12_write 86 = .ok (.ifCond .eq 9, 3) := by decide +kernel
theorem dX12_write_89 : decode cX12_write 89 = .ok (.ldc2_w 121, 3) := by decide +kernel
theorem dX12_write_92 : decode cX12_write 92 = .ok (.goto 6, 3) := by decide +kernel
theorem dX12_write_95 : decode cX12_write 95 = .ok (.ldc2_w 123, 3) := by decide +kernel
theorem dX12_write_98 : decode cX12_write 98 = .ok (.invokevirtual 340, 3) := by decide +kernel
theorem dX12_write_101 : decode cX12_write 101 = .ok (.goto (-67), 3) := by decide +kernel
theorem dX12_write_104 : decode cX12_write 104 = .ok (.aload_n 0, 1) := by decide +kernel
theorem dX12_write_105 : decode cX12_write 105 = .ok (.iconst 3, 1) := by decide +kernel
theorem dX12_write_106 : decode cX12_write 106 = .ok (.iload 4, 2) := by decide +kernel
theorem dX12_write_108 : decode cX12_write 108 = .ok (.invokevirtual 307, 3) := by decide +kernel
theorem dX12_write_111 : decode cX12_write 111 = .ok (.l2i, 1) := by decide +kernel
theorem dX12_write_112 : decode cX12_write 112 = .ok (.istore 5, 2) := by decide +kernel
theorem dX12_write_114 : decode cX12_write 114 = .ok (.aload_n 0, 1) := by decide +kernel
theorem dX12_write_115 : decode cX12_write 115 = .ok (.aload_n 0, 1) := by decide +kernel
theorem dX12_write_116 : decode cX12_write 116 = .ok (.getfield 43, 3) := by decide +kernel
theorem dX12_write_119 : decode cX12_write 119 = .ok (.iload 4, 2) := by decide +kernel
theorem dX12_write_121 : decode cX12_write 121 = .ok (.laload, 1) := by decide +kernel
theorem dX12_write_122 : decode cX12_write 122 = .ok (.invokevirtual 340, 3) := by decide +kernel
theorem dX12_write_125 : decode cX12_write 125 = .ok (.aload_n 0, 1) := by decide +kernel
theorem dX12_write_126 : decode cX12_write 126 = .ok (.getfield 68, 3) := by decide +kernel
theorem dX12_write_129 : decode cX12_write 129 = .ok (.iload_n 2, 1) := by decide +kernel
theorem dX12_write_130 : decode cX12_write 130 = .ok (.bipush (-41), 2) := by decide +kernel
theorem dX12_write_132 : decode cX12_write 132 = .ok (.iastore, 1) := by decide +kernel
theorem dX12_write_133 : decode cX12_write 133 = .ok (.aload_n 0, 1) := by decide +kernel
theorem dX12_write_134 : decode cX12_write 134 = .ok (.getfield 68, 3) := by decide +kernel
theorem dX12_write_137 : decode cX12_write 137 = .ok (.iload_n 2, 1) := by decide +kernel
theorem dX12_write_138 : decode cX12_write 138 = .ok (.iconst 1, 1) := by decide +kernel
theorem dX12_write_139 : decode cX12_write 139 = .ok (.iadd, 1) := by decide +kernel
theorem dX12_write_140 : decode cX12_write 140 = .ok (.iload_n 3, 1) := by decide +kernel
theorem dX12_write_141 : decode cX12_write 141 = .ok (.iconst 2, 1) := by decide +kernel
theorem dX12_write_142 : decode cX12_write 142 = .ok (.iload 5, 2) := by decide +kernel
theorem dX12_write_144 : decode cX12_write 144 = .ok (.imul, 1) := by decide +kernel
theorem dX12_write_145 : decode cX12_write 145 = .ok (.iadd, 1) := by decide +kernel
theorem dX12_write_146 : decode cX12_write 146 = .ok (.iastore, 1) := by decide +kernel
theorem dX12_write_147 : decode cX12_write 147 = .ok (.aload_n 0, 1) := by decide +kernel
theorem dX12_write_148 : decode cX12_write 148 = .ok (.getfield 68, 3) := by decide +kernel
theorem dX12_write_151 : decode cX12_write 151 = .ok (.iload_n 2, 1) := by decide +kernel
theorem dX12_write_152 : decode cX12_write 152 = .ok (.iconst 2, 1) := by decide +kernel
theorem dX12_write_153 : decode cX12_write 153 = .ok (.iadd, 1) := by decide +kernel
theorem dX12_write_154 : decode cX12_write 154 = .ok (.bipush (-59), 2) := by decide +kernel
theorem dX12_write_156 : decode cX12_write 156 = .ok (.iastore, 1) := by decide +kernel
theorem dX12_write_157 : decode cX12_write 157 = .ok (.aload_n 0, 1) := by decide +kernel
theorem dX12_write_158 : decode cX12_write 158 = .ok (.getfield 68, 3) := by decide +kernel
theorem dX12_write_161 : decode cX12_write 161 = .ok (.iload_n 2, 1) := by decide +kernel
theorem dX12_write_162 : decode cX12_write 162 = .ok (.iconst 3, 1) := by decide +kernel
theorem dX12_write_163 : decode cX12_write 163 = .ok (.iadd, 1) := by decide +kernel
theorem dX12_write_164 : decode cX12_write 164 = .ok (.iload_n 3, 1) := by decide +kernel
theorem dX12_write_165 : decode cX12_write 165 = .ok (.iload 5, 2) := by decide +kernel
theorem dX12_write_167 : decode cX12_write 167 = .ok (.iadd, 1) := by decide +kernel
theorem dX12_write_168 : decode cX12_write 168 = .ok (.iastore, 1) := by decide +kernel
theorem dX12_write_169 : decode cX12_write 169 = .ok (.aload_n 0, 1) := by decide +kernel
theorem dX12_write_170 : decode cX12_write 170 = .ok (.getfield 68, 3) := by decide +kernel
theorem dX12_write_173 : decode cX12_write 173 = .ok (.iload_n 2, 1) := by decide +kernel
theorem dX12_write_174 : decode cX12_write 174 = .ok (.iconst 4, 1) := by decide +kernel
theorem dX12_write_175 : decode cX12_write 175 = .ok (.iadd, 1) := by decide +kernel
theorem dX12_write_176 : decode cX12_write 176 = .ok (.bipush (-40), 2) := by decide +kernel
theorem dX12_write_178 : decode cX12_write 178 = .ok (.iastore, 1) := by decide +kernel
theorem dX12_write_179 : decode cX12_write 179 = .ok (.iinc 2 5, 3) := by decide +kernel
theorem dX12_write_182 : decode cX12_write 182 = .ok (.goto (-148), 3) := by decide +kernel
theorem dX12_write_185 : decode cX12_write 185 = .ok (.aload_n 0, 1) := by decide +kernel
theorem dX12_write_186 : decode cX12_write 186 = .ok (.getfield 332, 3) := by decide +kernel
theorem dX12_write_189 : decode cX12_write 189 = .ok (.ireturn, 1) := by decide +kernel
abbrev rm_X12_write : Room := { frames := 4, cells := 0, slots := 0, locals := 96 }
noncomputable def fX12_write_b98 (o0 : Nat) (x2 : Int32) (s0 : Nat) (s1 : Int64) (h : z_T) : Option ((Int32 × z_T) ⊕ (Int32 × z_T)) :=
  y_gd (z_ok h s0 11) <|
  y_bi (fX12_putWord s0 s1 h) fun h2 =>
  some (.inl (x2, h2))
noncomputable def fX12_write_b34_i (o0 : Nat) (x2 : Int32) (h : z_T) : Option ((Int32 × z_T) ⊕ (Int32 × z_T)) :=
  y_br (x2 ≤ 0)
    (y_mp <|
    y_gd (z_ok h o0 11) <|
    some ((z_I h o0 31), h))
    (y_nm (x2 + (-1)) fun v7 =>
    y_gd (z_ok h o0 11) <|
    y_bi (z_R h o0 30) fun o9 =>
    y_gd (z_ok h o9 13) <|
    y_gd (z_ix v7 (z_N h o9)) <|
    y_nm ((z_I h o9 v7.toNatClampNeg)) fun v12 =>
    y_br (0 ≤ v12)
      (y_bi (z_R h o0 26) fun o14 =>
      y_gd (z_ok h o14 13) <|
      y_gd (z_ix v12 (z_N h o14)) <|
      y_nm ((z_I h o14 v12.toNatClampNeg)) fun v17 =>
      y_br (v17 = (-1 : Int32))
        (y_bi (fX12_weighs o0 v12 h) fun h45 =>
        y_gd (z_ok h45 o0 11) <|
        y_bi (fX12_isUpCheap o0 h45) fun r47 =>
        y_br (r47 = 0)
          (fX12_write_b98 o0 v7 o0 (6448484 : Int64) h45)
          (fX12_write_b98 o0 v7 o0 (30064 : Int64) h45))
        (y_bi (fX12_power o0 (3 : Int32) v17) fun r21 =>
        y_nm ((r21).toInt32) fun v24 =>
        y_bi (z_R h o0 9) fun o25 =>
        y_gd (z_ok h o25 14) <|
        y_gd (z_ix v17 (z_N h o25)) <|
        y_bi (fX12_putWord o0 (z_L h o25 v17.toNatClampNeg) h) fun h29 =>
        y_gd (z_ok h29 o0 11) <|
        y_bi (z_R h29 o0 30) fun o31 =>
        y_gd (z_ok h29 o31 13) <|
        y_gd (z_ix v7 (z_N h29 o31)) <|
        y_nm (z_sI h29 o31 v7.toNatClampNeg (-41 : Int32)) fun h34 =>
        y_gd (z_ix (v7 + (1 : Int32)) (z_N h34 o31)) <|
        y_nm (z_sI h34 o31 (v7 + (1 : Int32)).toNatClampNeg (v12 + ((2 : Int32) * v24))) fun h36 =>
        y_gd (z_ix (v7 + (2 : Int32)) (z_N h36 o31)) <|
        y_nm (z_sI h36 o31 (v7 + (2 : Int32)).toNatClampNeg (-59 : Int32)) fun h38 =>
        y_gd (z_ix (v7 + (3 : Int32)) (z_N h38 o31)) <|
        y_nm (z_sI h38 o31 (v7 + (3 : Int32)).toNatClampNeg (v12 + v24)) fun h40 =>
        y_gd (z_ix (v7 + (4 : Int32)) (z_N h40 o31)) <|
        y_nm (z_sI h40 o31 (v7 + (4 : Int32)).toNatClampNeg (-40 : Int32)) fun h42 =>
        y_nm (v7 + 5) fun v43 =>
        some (.inl (v43, h42))))
      (y_bi (fX12_putWord o0 (((-v12)).toInt64) h) fun h54 =>
      some (.inl (v7, h54))))
noncomputable def fX12_write_b34 (o0 : Nat) (x2 : Int32) (h : z_T) : Option (Int32 × z_T) := y_lp (fun q : Int32 × z_T => fX12_write_b34_i o0 q.1 q.2) (x2, h)
noncomputable def fX12_write (o0 : Nat) (x1 : Int32) (h : z_T) : Option (Int32 × z_T) :=
  y_gd (z_ok h o0 11) <|
  y_nm (z_sI h o0 0 (0 : Int32)) fun h56 =>
  y_bi (fX12_areCosts o0 x1 h56) fun r58 =>
  y_br (r58 = 0)
    (some ((-1 : Int32), h56))
    (y_bi (fX12_costsBy o0 x1 h56) fun h64 =>
    y_gd (z_ok h64 o0 11) <|
    y_nm (z_sI h64 o0 31 (0 : Int32)) fun h66 =>
    y_bi (z_R h66 o0 30) fun o67 =>
    y_gd (z_ok h66 o67 13) <|
    y_gd (z_ix (0 : Int32) (z_N h66 o67)) <|
    y_nm (z_sI h66 o67 (0 : Int32).toNatClampNeg (0 : Int32)) fun h70 =>
    fX12_write_b34 o0 (1 : Int32) h70)
set_option maxHeartbeats 4000000 in
set_option maxRecDepth 100000 in
theorem mm_X12_write {G : z_Gt} {S : State → Prop} (hSK : z_SK S) (l : Launch) (ad : Nat → Nat) (o0 : Nat) (x1 : Int32) (h : z_T) {r0 : Int32} {h9 : z_T} (hv : fX12_write o0 x1 h = some (r0, h9)) : z_Mi G S l yX12_write cX12_write 6 (.int) rm_X12_write 0 0 [.ref (ad o0), .int x1] ad h h9 r0 := by
  refine z_ofW hSK (by decide) (Nat.le_of_ble_eq_true rfl) ?_
  intro p e s m args below meth c ls hc hr hnm hB hl
  have hx := hc.1.1
  have hb := hc.1.2.1
  have hown := hc.1.2.2.2.1
  have hts := hc.1.2.2.2.2
  replace hc : z_C G S ad (z_n h) p m c cX12_write 6 s args RX12 meth := hc
  replace hown : s.vm.findClass RX12 = some m.cls := hown
  replace hl : lv_has ls 6 [(0, .ref (ad o0)), (1, .int x1)] := hl
  show W p l e rm_X12_write s m args below meth c s.heap [] 0 0 (MQ below (z_Qi G ad h9 (z_n h) s.heap.size r0) args s 0 0 (z_A ad (z_n h) s.heap.size)) (F0 m 0 ls [])
  obtain ⟨rs, kt⟩ : ∃ rs : Int32 × z_T, rs = (r0, h9) := ⟨_, rfl⟩
  generalize hn0 : z_n h = n0 at hc hB ⊢
  have L34 : ∀ (nn34 : Nat) (x2 : Int32) (h : z_T) (H : Heap) (locs : List Loc) (ls : Array Slot), z_B G ad n0 s h H locs → lv_has ls 6 [(0, .ref (ad o0)), (2, .int x2)] → ∀ vv34, y_lpN (fun q : Int32 × z_T => fX12_write_b34_i o0 q.1 q.2) nn34 (x2, h) = some vv34 → vv34 = (r0, h9) → W p l e rm_X12_write s m args below meth c H locs 0 0 (MQ below (z_Qi G ad h9 n0 s.heap.size r0) args s 0 0 (z_A ad n0 s.heap.size)) (F0 m 34 ls []) := by
    intro nn34
    induction nn34 with
    | zero => intro x2 h H locs ls hB hl vv34 hv kv34; exact absurd hv (fun q => y_lpN_0 q)
    | succ nn34 ih34 =>
      intro x2 h H locs ls hB hl vv34 hv kv34
      obtain ⟨w, hq, kw34⟩ := y_lpN_e hv
      clear hv
      have hv : fX12_write_b34_i o0 x2 h = some w := hq
      clear hq
      have b98 : ∀ (x2 : Int32) (s0 : Nat) (s1 : Int64) (h : z_T) (H : Heap) (locs : List Loc) (ls : Array Slot), z_B G ad n0 s h H locs → lv_has ls 6 [(0, .ref (ad o0)), (2, .int x2)] → ∀ w, fX12_write_b98 o0 x2 s0 s1 h = some w → y_lq (fun q : Int32 × z_T => fX12_write_b34_i o0 q.1 q.2) nn34 vv34 w → W p l e rm_X12_write s m args below meth c H locs 0 0 (MQ below (z_Qi G ad h9 n0 s.heap.size r0) args s 0 0 (z_A ad n0 s.heap.size)) (F0 m 98 ls [.long s1, .ref (ad s0)]) := by
        intro x2 s0 s1 h H locs ls hB hl w hv kw34
        obtain ⟨g3, hv⟩ := y_gd_e hv
        obtain ⟨h2, c1, hv⟩ := y_bi_e hv
        refine z_thV hc hB (z_runV hc hB 11 (mm_X12_putWord hSK l ad s0 s1 h c1) md_X12_putWord qmX12_340 g3 (by decide) rfl rfl rfl ⟨Nat.le_of_ble_eq_true rfl, Nat.le_of_ble_eq_true rfl⟩ rfl hl.1 rfl (Nat.le_of_ble_eq_true rfl) dX12_write_98 ⟨Nat.le_of_ble_eq_true rfl, Nat.le_of_ble_eq_true rfl⟩) (fun H locs hB => ?_)
        refine lv_goto (tgt := 34) hx hb dX12_write_101 (by decide) ?_
        replace hv := Option.some.inj hv
        subst hv
        exact ih34 x2 h2 _ _ _ hB (lv_sub hl [0, 1] rfl) _ kw34 kv34
      refine lv_iload_n hx hb dX12_write_34 rfl (lv_at hl 1 rfl) ?_
      refine lv_if_le (tgt := 185) hx hb dX12_write_35 (by decide) (fun c4 => ?_) (fun c4 => ?_)
      · replace hv := y_br_t hv c4
        obtain ⟨t5, hq, ew⟩ := y_mp_e hv
        clear hv; subst ew
        replace kw34 : t5 = _ := kw34
        subst kw34
        have hv := hq
        clear hq
        refine lv_aload_n hx hb dX12_write_185 rfl (lv_at hl 0 rfl) ?_
        obtain ⟨g6, hv⟩ := y_gd_e hv
        refine z_getI hc hB 11 31 g6 (by decide) (by decide) rfl (z_l1 hc qfX12_332) dX12_write_186 ?_
        replace hv := Option.some.inj hv
        subst hv
        obtain ⟨e1, e2⟩ := y_pr kv34
        rw [← e1, ← e2]
        exact z_iret hc hB hr dX12_write_189
      · replace hv := y_br_f hv c4
        obtain ⟨v7, ev7, hv⟩ := y_nm_e hv
        refine lv_iinc (v := v7) (lv' := [(2, .int v7), (0, .ref (ad o0))]) hx hb dX12_write_38 hl (k := 1) rfl (by rw [ev7]; rfl) (by decide) rfl (fun ls hl => ?_)
        refine lv_aload_n hx hb dX12_write_41 rfl (lv_at hl 1 rfl) ?_
        obtain ⟨g8, hv⟩ := y_gd_e hv
        obtain ⟨o9, eo9, hv⟩ := y_bi_e hv
        refine z_getR hc hB 11 30 g8 eo9 (by decide) (by decide) rfl (z_l1 hc qfX12_68) dX12_write_42 ?_
        refine lv_iload_n hx hb dX12_write_45 rfl (lv_at hl 0 rfl) ?_
        obtain ⟨g10, hv⟩ := y_gd_e hv
        obtain ⟨i11, hv⟩ := y_gd_e hv
        refine z_iald hc hB g10 i11 dX12_write_46 ?_
        obtain ⟨v12, ev12, hv⟩ := y_nm_e hv
        rw [← ev12]
        refine lv_istore_n (lv' := [(3, .int v12), (2, .int v7), (0, .ref (ad o0))]) hx hb dX12_write_47 rfl hl (by decide) rfl (fun ls hl => ?_)
        refine lv_iload_n hx hb dX12_write_48 rfl (lv_at hl 0 rfl) ?_
        refine lv_if_ge (tgt := 62) hx hb dX12_write_49 (by decide) (fun c13 => ?_) (fun c13 => ?_)
        · replace hv := y_br_t hv c13
          refine lv_aload_n hx hb dX12_write_62 rfl (lv_at hl 2 rfl) ?_
          obtain ⟨o14, eo14, hv⟩ := y_bi_e hv
          refine z_getR hc hB 11 26 g8 eo14 (by decide) (by decide) rfl (z_l1 hc qfX12_62) dX12_write_63 ?_
          refine lv_iload_n hx hb dX12_write_66 rfl (lv_at hl 0 rfl) ?_
          obtain ⟨g15, hv⟩ := y_gd_e hv
          obtain ⟨i16, hv⟩ := y_gd_e hv
          refine z_iald hc hB g15 i16 dX12_write_67 ?_
          obtain ⟨v17, ev17, hv⟩ := y_nm_e hv
          rw [← ev17]
          refine lv_istore (lv' := [(4, .int v17), (3, .int v12), (2, .int v7), (0, .ref (ad o0))]) hx hb dX12_write_68 hl (by decide) rfl (fun ls hl => ?_)
          refine lv_iload hx hb dX12_write_70 (lv_at hl 0 rfl) ?_
          refine lv_iconst (v := (-1 : Int32)) hx hb dX12_write_72 (by decide) ?_
          refine lv_icmp_ne (tgt := 104) hx hb dX12_write_73 (by decide) (fun c18 => ?_) (fun c18 => ?_)
          · replace hv := y_br_f hv c18
            refine lv_aload_n hx hb dX12_write_104 rfl (lv_at hl 3 rfl) ?_
            refine lv_iconst (v := (3 : Int32)) hx hb dX12_write_105 (by decide) ?_
            refine lv_iload hx hb dX12_write_106 (lv_at hl 0 rfl) ?_
            obtain ⟨r21, c19, hv⟩ := y_bi_e hv
            refine z_thL hc hB (z_runV hc hB 11 (mm_X12_power hSK l ad o0 (3 : Int32) v17 h c19) md_X12_power qmX12_307 g8 (by decide) rfl rfl rfl ⟨Nat.le_of_ble_eq_true rfl, Nat.le_of_ble_eq_true rfl⟩ rfl hl.1 rfl (Nat.le_of_ble_eq_true rfl) dX12_write_108 ⟨Nat.le_of_ble_eq_true rfl, Nat.le_of_ble_eq_true rfl⟩) (fun H locs hB => ?_)
            refine lv_l2i hx hb dX12_write_111 rfl ?_
            obtain ⟨v24, ev24, hv⟩ := y_nm_e hv
            rw [← ev24]
            refine lv_istore (lv' := [(5, .int v24), (4, .int v17), (3, .int v12), (2, .int v7), (0, .ref (ad o0))]) hx hb dX12_write_112 hl (by decide) rfl (fun ls hl => ?_)
            refine lv_aload_n hx hb dX12_write_114 rfl (lv_at hl 4 rfl) ?_
            refine lv_aload_n hx hb dX12_write_115 rfl (lv_at hl 4 rfl) ?_
            obtain ⟨o25, eo25, hv⟩ := y_bi_e hv
            refine z_getR hc hB 11 9 g8 eo25 (by decide) (by decide) rfl (z_l1 hc qfX12_43) dX12_write_116 ?_
            refine lv_iload hx hb dX12_write_119 (lv_at hl 1 rfl) ?_
            obtain ⟨g26, hv⟩ := y_gd_e hv
            obtain ⟨i27, hv⟩ := y_gd_e hv
            refine z_lald hc hB g26 i27 dX12_write_121 ?_
            obtain ⟨h29, c28, hv⟩ := y_bi_e hv
            refine z_thV hc hB (z_runV hc hB 11 (mm_X12_putWord hSK l ad o0 (z_L h o25 v17.toNatClampNeg) h c28) md_X12_putWord qmX12_340 g8 (by decide) rfl rfl rfl ⟨Nat.le_of_ble_eq_true rfl, Nat.le_of_ble_eq_true rfl⟩ rfl hl.1 rfl (Nat.le_of_ble_eq_true rfl) dX12_write_122 ⟨Nat.le_of_ble_eq_true rfl, Nat.le_of_ble_eq_true rfl⟩) (fun H locs hB => ?_)
            refine lv_aload_n hx hb dX12_write_125 rfl (lv_at hl 4 rfl) ?_
            obtain ⟨g30, hv⟩ := y_gd_e hv
            obtain ⟨o31, eo31, hv⟩ := y_bi_e hv
            refine z_getR hc hB 11 30 g30 eo31 (by decide) (by decide) rfl (z_l1 hc qfX12_68) dX12_write_126 ?_
            refine lv_iload_n hx hb dX12_write_129 rfl (lv_at hl 3 rfl) ?_
            refine lv_bipush (v := (-41 : Int32)) hx hb dX12_write_130 (by decide) ?_
            obtain ⟨g32, hv⟩ := y_gd_e hv
            obtain ⟨i33, hv⟩ := y_gd_e hv
            obtain ⟨h34, eh34, hv⟩ := y_nm_e hv
            refine y_iast hc hB eh34 g32 i33 dX12_write_132 (fun H locs hB => ?_)
            refine lv_aload_n hx hb dX12_write_133 rfl (lv_at hl 4 rfl) ?_
            refine z_getR hc hB 11 30 (by rw [eh34]; exact g30) (by rw [eh34]; exact eo31) (by decide) (by decide) rfl (z_l1 hc qfX12_68) dX12_write_134 ?_
            refine lv_iload_n hx hb dX12_write_137 rfl (lv_at hl 3 rfl) ?_
            refine lv_iconst (v := (1 : Int32)) hx hb dX12_write_138 (by decide) ?_
            refine lv_iadd hx hb dX12_write_139 ?_
            refine lv_iload_n hx hb dX12_write_140 rfl (lv_at hl 2 rfl) ?_
            refine lv_iconst (v := (2 : Int32)) hx hb dX12_write_141 (by decide) ?_
            refine lv_iload hx hb dX12_write_142 (lv_at hl 0 rfl) ?_
            refine lv_imul hx hb dX12_write_144 ?_
            refine lv_iadd hx hb dX12_write_145 ?_
            obtain ⟨i35, hv⟩ := y_gd_e hv
            obtain ⟨h36, eh36, hv⟩ := y_nm_e hv
            refine y_iast hc hB eh36 (by rw [eh34]; exact g32) i35 dX12_write_146 (fun H locs hB => ?_)
            refine lv_aload_n hx hb dX12_write_147 rfl (lv_at hl 4 rfl) ?_
            refine z_getR hc hB 11 30 (by rw [eh36, eh34]; exact g30) (by rw [eh36, eh34]; exact eo31) (by decide) (by decide) rfl (z_l1 hc qfX12_68) dX12_write_148 ?_
            refine lv_iload_n hx hb dX12_write_151 rfl (lv_at hl 3 rfl) ?_
            refine lv_iconst (v := (2 : Int32)) hx hb dX12_write_152 (by decide) ?_
            refine lv_iadd hx hb dX12_write_153 ?_
            refine lv_bipush (v := (-59 : Int32)) hx hb dX12_write_154 (by decide) ?_
            obtain ⟨i37, hv⟩ := y_gd_e hv
            obtain ⟨h38, eh38, hv⟩ := y_nm_e hv
            refine y_iast hc hB eh38 (by rw [eh36, eh34]; exact g32) i37 dX12_write_156 (fun H locs hB => ?_)
            refine lv_aload_n hx hb dX12_write_157 rfl (lv_at hl 4 rfl) ?_
            refine z_getR hc hB 11 30 (by rw [eh38, eh36, eh34]; exact g30) (by rw [eh38, eh36, eh34]; exact eo31) (by decide) (by decide) rfl (z_l1 hc qfX12_68) dX12_write_158 ?_
            refine lv_iload_n hx hb dX12_write_161 rfl (lv_at hl 3 rfl) ?_
            refine lv_iconst (v := (3 : Int32)) hx hb dX12_write_162 (by decide) ?_
            refine lv_iadd hx hb dX12_write_163 ?_
            refine lv_iload_n hx hb dX12_write_164 rfl (lv_at hl 2 rfl) ?_
            refine lv_iload hx hb dX12_write_165 (lv_at hl 0 rfl) ?_
            refine lv_iadd hx hb dX12_write_167 ?_
            obtain ⟨i39, hv⟩ := y_gd_e hv
            obtain ⟨h40, eh40, hv⟩ := y_nm_e hv
            refine y_iast hc hB eh40 (by rw [eh38, eh36, eh34]; exact g32) i39 dX12_write_168 (fun H locs hB => ?_)
            refine lv_aload_n hx hb dX12_write_169 rfl (lv_at hl 4 rfl) ?_
            refine z_getR hc hB 11 30 (by rw [eh40, eh38, eh36, eh34]; exact g30) (by rw [eh40, eh38, eh36, eh34]; exact eo31) (by decide) (by decide) rfl (z_l1 hc qfX12_68) dX12_write_170 ?_
            refine lv_iload_n hx hb dX12_write_173 rfl (lv_at hl 3 rfl) ?_
            refine lv_iconst (v := (4 : Int32)) hx hb dX12_write_174 (by decide) ?_
            refine lv_iadd hx hb dX12_write_175 ?_
            refine lv_bipush (v := (-40 : Int32)) hx hb dX12_write_176 (by decide) ?_
            obtain ⟨i41, hv⟩ := y_gd_e hv
            obtain ⟨h42, eh42, hv⟩ := y_nm_e hv
            refine y_iast hc hB eh42 (by rw [eh40, eh38, eh36, eh34]; exact g32) i41 dX12_write_178 (fun H locs hB => ?_)
            obtain ⟨v43, ev43, hv⟩ := y_nm_e hv
            refine lv_iinc (v := v43) (lv' := [(2, .int v43), (5, .int v24), (4, .int v17), (3, .int v12), (0, .ref (ad o0))]) hx hb dX12_write_179 hl (k := 3) rfl (by rw [ev43]; rfl) (by decide) rfl (fun ls hl => ?_)
            refine lv_goto (tgt := 34) hx hb dX12_write_182 (by decide) ?_
            replace hv := Option.some.inj hv
            subst hv
            exact ih34 v43 h42 _ _ _ hB (lv_sub hl [4, 0] rfl) _ kw34 kv34
          · replace hv := y_br_t hv c18
            refine lv_aload_n hx hb dX12_write_76 rfl (lv_at hl 3 rfl) ?_
            refine lv_iload_n hx hb dX12_write_77 rfl (lv_at hl 1 rfl) ?_
            obtain ⟨h45, c44, hv⟩ := y_bi_e hv
            refine z_thV hc hB (z_runV hc hB 11 (mm_X12_weighs hSK l ad o0 v12 h c44) md_X12_weighs qmX12_323 g8 (by decide) rfl rfl rfl ⟨Nat.le_of_ble_eq_true rfl, Nat.le_of_ble_eq_true rfl⟩ rfl hl.1 rfl (Nat.le_of_ble_eq_true rfl) dX12_write_78 ⟨Nat.le_of_ble_eq_true rfl, Nat.le_of_ble_eq_true rfl⟩) (fun H locs hB => ?_)
            refine lv_aload_n hx hb dX12_write_81 rfl (lv_at hl 3 rfl) ?_
            refine lv_aload_n hx hb dX12_write_82 rfl (lv_at hl 3 rfl) ?_
            obtain ⟨g51, hv⟩ := y_gd_e hv
            obtain ⟨r47, c46, hv⟩ := y_bi_e hv
            refine z_thI hc hB (z_runV hc hB 11 (mm_X12_isUpCheap hSK l ad o0 h45 c46) md_X12_isUpCheap qmX12_344 g51 (by decide) rfl rfl rfl ⟨Nat.le_of_ble_eq_true rfl, Nat.le_of_ble_eq_true rfl⟩ rfl hl.1 rfl (Nat.le_of_ble_eq_true rfl) dX12_write_83 ⟨Nat.le_of_ble_eq_true rfl, Nat.le_of_ble_eq_true rfl⟩) (fun H locs hB => ?_)
            refine lv_if_eq (tgt := 95) hx hb dX12_write_86 (by decide) (fun c52 => ?_) (fun c52 => ?_)
            · replace hv := y_br_t hv c52
              refine lv_ldc2 (v := (6448484 : Int64)) hx hb hown (hts _ qkX12_123) dX12_write_95 ?_
              exact b98 v7 o0 (6448484 : Int64) h45 _ _ _ hB (lv_sub hl [3, 2] rfl) _ hv kw34
            · replace hv := y_br_f hv c52
              refine lv_ldc2 (v := (30064 : Int64)) hx hb hown (hts _ qkX12_121) dX12_write_89 ?_
              refine lv_goto (tgt := 98) hx hb dX12_write_92 (by decide) ?_
              exact b98 v7 o0 (30064 : Int64) h45 _ _ _ hB (lv_sub hl [3, 2] rfl) _ hv kw34
        · replace hv := y_br_f hv c13
          refine lv_aload_n hx hb dX12_write_52 rfl (lv_at hl 2 rfl) ?_
          refine lv_iload_n hx hb dX12_write_53 rfl (lv_at hl 0 rfl) ?_
          refine lv_ineg hx hb dX12_write_54 ?_
          refine lv_i2l hx hb dX12_write_55 rfl ?_
          obtain ⟨h54, c53, hv⟩ := y_bi_e hv
          refine z_thV hc hB (z_runV hc hB 11 (mm_X12_putWord hSK l ad o0 (((-v12)).toInt64) h c53) md_X12_putWord qmX12_340 g8 (by decide) rfl rfl rfl ⟨Nat.le_of_ble_eq_true rfl, Nat.le_of_ble_eq_true rfl⟩ rfl hl.1 rfl (Nat.le_of_ble_eq_true rfl) dX12_write_56 ⟨Nat.le_of_ble_eq_true rfl, Nat.le_of_ble_eq_true rfl⟩) (fun H locs hB => ?_)
          refine lv_goto (tgt := 34) hx hb dX12_write_59 (by decide) ?_
          replace hv := Option.some.inj hv
          subst hv
          exact ih34 v7 h54 _ _ _ hB (lv_sub hl [2, 1] rfl) _ kw34 kv34
  rw [← kt] at hv
  refine lv_aload_n hx hb dX12_write_0 rfl (lv_at hl 0 rfl) ?_
  refine lv_iconst (v := (0 : Int32)) hx hb dX12_write_1 (by decide) ?_
  obtain ⟨g55, hv⟩ := y_gd_e hv
  obtain ⟨h56, eh56, hv⟩ := y_nm_e hv
  refine y_putI hc hB 11 0 eh56 g55 (z_l1 hc qfX12_1) dX12_write_2 (by decide) (by decide) rfl rfl rfl rfl (fun H locs hB => ?_)
  refine lv_aload_n hx hb dX12_write_5 rfl (lv_at hl 0 rfl) ?_
  refine lv_iload_n hx hb dX12_write_6 rfl (lv_at hl 1 rfl) ?_
  obtain ⟨r58, c57, hv⟩ := y_bi_e hv
  refine z_thI hc hB (z_runV hc hB 11 (mm_X12_areCosts hSK l ad o0 x1 h56 c57) md_X12_areCosts qmX12_326 (by rw [eh56]; exact g55) (by decide) rfl rfl rfl ⟨Nat.le_of_ble_eq_true rfl, Nat.le_of_ble_eq_true rfl⟩ rfl hl.1 rfl (Nat.le_of_ble_eq_true rfl) dX12_write_7 ⟨Nat.le_of_ble_eq_true rfl, Nat.le_of_ble_eq_true rfl⟩) (fun H locs hB => ?_)
  refine lv_if_ne (tgt := 15) hx hb dX12_write_10 (by decide) (fun c62 => ?_) (fun c62 => ?_)
  · replace hv := y_br_f hv c62
    refine lv_aload_n hx hb dX12_write_15 rfl (lv_at hl 0 rfl) ?_
    refine lv_iload_n hx hb dX12_write_16 rfl (lv_at hl 1 rfl) ?_
    obtain ⟨h64, c63, hv⟩ := y_bi_e hv
    refine z_thV hc hB (z_runV hc hB 11 (mm_X12_costsBy hSK l ad o0 x1 h56 c63) md_X12_costsBy qmX12_329 (by rw [eh56]; exact g55) (by decide) rfl rfl rfl ⟨Nat.le_of_ble_eq_true rfl, Nat.le_of_ble_eq_true rfl⟩ rfl hl.1 rfl (Nat.le_of_ble_eq_true rfl) dX12_write_17 ⟨Nat.le_of_ble_eq_true rfl, Nat.le_of_ble_eq_true rfl⟩) (fun H locs hB => ?_)
    refine lv_aload_n hx hb dX12_write_20 rfl (lv_at hl 0 rfl) ?_
    refine lv_iconst (v := (0 : Int32)) hx hb dX12_write_21 (by decide) ?_
    obtain ⟨g65, hv⟩ := y_gd_e hv
    obtain ⟨h66, eh66, hv⟩ := y_nm_e hv
    refine y_putI hc hB 11 31 eh66 g65 (z_l1 hc qfX12_332) dX12_write_22 (by decide) (by decide) rfl rfl rfl rfl (fun H locs hB => ?_)
    refine lv_aload_n hx hb dX12_write_25 rfl (lv_at hl 0 rfl) ?_
    obtain ⟨o67, eo67, hv⟩ := y_bi_e hv
    refine z_getR hc hB 11 30 (by rw [eh66]; exact g65) eo67 (by decide) (by decide) rfl (z_l1 hc qfX12_68) dX12_write_26 ?_
    refine lv_iconst (v := (0 : Int32)) hx hb dX12_write_29 (by decide) ?_
    refine lv_iconst (v := (0 : Int32)) hx hb dX12_write_30 (by decide) ?_
    obtain ⟨g68, hv⟩ := y_gd_e hv
    obtain ⟨i69, hv⟩ := y_gd_e hv
    obtain ⟨h70, eh70, hv⟩ := y_nm_e hv
    refine y_iast hc hB eh70 g68 i69 dX12_write_31 (fun H locs hB => ?_)
    refine lv_iconst (v := (1 : Int32)) hx hb dX12_write_32 (by decide) ?_
    refine lv_istore_n (lv' := [(2, .int (1 : Int32)), (0, .ref (ad o0)), (1, .int x1)]) hx hb dX12_write_33 rfl hl (by decide) rfl (fun ls hl => ?_)
    obtain ⟨n, hv⟩ := y_lp_e hv
    exact L34 n (1 : Int32) h70 _ _ _ hB (lv_sub hl [1, 0] rfl) _ hv kt
  · replace hv := y_br_t hv c62
    refine lv_iconst (v := (-1 : Int32)) hx hb dX12_write_13 (by decide) ?_
    replace hv := Option.some.inj hv
    subst hv
    obtain ⟨e1, e2⟩ := y_pr kt
    rw [← e1, ← e2]
    exact z_iret hc hB hr dX12_write_14
theorem dX12_byteAt_0 : decode cX12_byteAt 0 = .ok (.aload_n 0, 1) := by decide +kernel
theorem dX12_byteAt_1 : decode cX12_byteAt 1 = .ok (.iconst 0, 1) := by decide +kernel
theorem dX12_byteAt_2 : decode cX12_byteAt 2 = .ok (.putfield 1, 3) := by decide +kernel
theorem dX12_byteAt_5 : decode cX12_byteAt 5 = .ok (.iload_n 1, 1) := by decide +kernel
theorem dX12_byteAt_6 : decode cX12_byteAt 6 = .ok (.iconst 0, 1) := by decide +kernel
theorem dX12_byteAt_7 : decode cX12_byteAt 7 = .ok (.aload_n 0, 1) := by decide +kernel
theorem dX12_byteAt_8 : decode cX12_byteAt 8 = .ok (.getfield 332, 3) := by decide +kernel
theorem dX12_byteAt_11 : decode cX12_byteAt 11 = .ok (.iconst 1, 1) := by decide +kernel
theorem dX12_byteAt_12 : decode cX12_byteAt 12 = .ok (.isub, 1) := by decide +kernel
theorem dX12_byteAt_13 : decode cX12_byteAt 13 = .ok (.invokestatic 188, 3) := by decide +kernel
theorem dX12_byteAt_16 : decode cX12_byteAt 16 = .ok (.ifCond .eq 12, 3) := by decide +kernel
theorem dX12_byteAt_19 : decode cX12_byteAt 19 = .ok (.aload_n 0, 1) := by decide +kernel
theorem dX12_byteAt_20 : decode cX12_byteAt 20 = .ok (.getfield 65, 3) := by decide +kernel
theorem dX12_byteAt_23 : decode cX12_byteAt 23 = .ok (.iload_n 1, 1) := by decide +kernel
theorem dX12_byteAt_24 : decode cX12_byteAt 24 = .ok (.baload, 1) := by decide +kernel
theorem dX12_byteAt_25 : decode cX12_byteAt 25 = .ok (.goto 4, 3) := by decide +kernel
theorem dX12_byteAt_28 : decode cX12_byteAt 28 = .ok (.iconst (-1), 1) := by decide +kernel
theorem dX12_byteAt_29 : decode cX12_byteAt 29 = .ok (.ireturn, 1) := by decide +kernel
abbrev rm_X12_byteAt : Room := { frames := 1, cells := 0, slots := 0, locals := 22 }
noncomputable def fX12_byteAt (o0 : Nat) (x1 : Int32) (h : z_T) : Option (Int32 × z_T) :=
  y_gd (z_ok h o0 11) <|
  y_nm (z_sI h o0 0 (0 : Int32)) fun h2 =>
  y_bi (fX12_isIn x1 (0 : Int32) ((z_I h2 o0 31) - (1 : Int32))) fun r4 =>
  y_br (r4 = 0)
    (some ((-1 : Int32), h2))
    (y_bi (z_R h2 o0 29) fun o9 =>
    y_gd (z_ok h2 o9 12) <|
    y_gd (z_ix x1 (z_N h2 o9)) <|
    some ((z_I h2 o9 x1.toNatClampNeg), h2))
set_option maxHeartbeats 4000000 in
set_option maxRecDepth 100000 in
theorem mm_X12_byteAt {G : z_Gt} {S : State → Prop} (hSK : z_SK S) (l : Launch) (ad : Nat → Nat) (o0 : Nat) (x1 : Int32) (h : z_T) {r0 : Int32} {h9 : z_T} (hv : fX12_byteAt o0 x1 h = some (r0, h9)) : z_Mi G S l yX12_byteAt cX12_byteAt 2 (.int) rm_X12_byteAt 0 0 [.ref (ad o0), .int x1] ad h h9 r0 := by
  refine z_ofW hSK (by decide) (Nat.le_of_ble_eq_true rfl) ?_
  intro p e s m args below meth c ls hc hr hnm hB hl
  have hx := hc.1.1
  have hb := hc.1.2.1
  have hown := hc.1.2.2.2.1
  have hts := hc.1.2.2.2.2
  replace hc : z_C G S ad (z_n h) p m c cX12_byteAt 2 s args RX12 meth := hc
  replace hown : s.vm.findClass RX12 = some m.cls := hown
  replace hl : lv_has ls 2 [(0, .ref (ad o0)), (1, .int x1)] := hl
  show W p l e rm_X12_byteAt s m args below meth c s.heap [] 0 0 (MQ below (z_Qi G ad h9 (z_n h) s.heap.size r0) args s 0 0 (z_A ad (z_n h) s.heap.size)) (F0 m 0 ls [])
  obtain ⟨rs, kt⟩ : ∃ rs : Int32 × z_T, rs = (r0, h9) := ⟨_, rfl⟩
  generalize hn0 : z_n h = n0 at hc hB ⊢
  rw [← kt] at hv
  refine lv_aload_n hx hb dX12_byteAt_0 rfl (lv_at hl 0 rfl) ?_
  refine lv_iconst (v := (0 : Int32)) hx hb dX12_byteAt_1 (by decide) ?_
  obtain ⟨g1, hv⟩ := y_gd_e hv
  obtain ⟨h2, eh2, hv⟩ := y_nm_e hv
  refine y_putI hc hB 11 0 eh2 g1 (z_l1 hc qfX12_1) dX12_byteAt_2 (by decide) (by decide) rfl rfl rfl rfl (fun H locs hB => ?_)
  refine lv_iload_n hx hb dX12_byteAt_5 rfl (lv_at hl 1 rfl) ?_
  refine lv_iconst (v := (0 : Int32)) hx hb dX12_byteAt_6 (by decide) ?_
  refine lv_aload_n hx hb dX12_byteAt_7 rfl (lv_at hl 0 rfl) ?_
  refine z_getI hc hB 11 31 (by rw [eh2]; exact g1) (by decide) (by decide) rfl (z_l1 hc qfX12_332) dX12_byteAt_8 ?_
  refine lv_iconst (v := (1 : Int32)) hx hb dX12_byteAt_11 (by decide) ?_
  refine lv_isub hx hb dX12_byteAt_12 ?_
  obtain ⟨r4, c3, hv⟩ := y_bi_e hv
  refine z_thI hc hB (z_runS hc hB (mm_X12_isIn hSK l ad x1 (0 : Int32) ((z_I h2 o0 31) - (1 : Int32)) h2 c3) md_X12_isIn qmX12_188 rfl rfl ⟨Nat.le_of_ble_eq_true rfl, Nat.le_of_ble_eq_true rfl⟩ rfl hl.1 rfl (Nat.le_of_ble_eq_true rfl) dX12_byteAt_13 ⟨Nat.le_of_ble_eq_true rfl, Nat.le_of_ble_eq_true rfl⟩) (fun H locs hB => ?_)
  refine lv_if_eq (tgt := 28) hx hb dX12_byteAt_16 (by decide) (fun c8 => ?_) (fun c8 => ?_)
  · replace hv := y_br_t hv c8
    refine lv_iconst (v := (-1 : Int32)) hx hb dX12_byteAt_28 (by decide) ?_
    replace hv := Option.some.inj hv
    subst hv
    obtain ⟨e1, e2⟩ := y_pr kt
    rw [← e1, ← e2]
    exact z_iret hc hB hr dX12_byteAt_29
  · replace hv := y_br_f hv c8
    refine lv_aload_n hx hb dX12_byteAt_19 rfl (lv_at hl 0 rfl) ?_
    obtain ⟨o9, eo9, hv⟩ := y_bi_e hv
    refine z_getR hc hB 11 29 (by rw [eh2]; exact g1) eo9 (by decide) (by decide) rfl (z_l1 hc qfX12_65) dX12_byteAt_20 ?_
    refine lv_iload_n hx hb dX12_byteAt_23 rfl (lv_at hl 1 rfl) ?_
    obtain ⟨g10, hv⟩ := y_gd_e hv
    obtain ⟨i11, hv⟩ := y_gd_e hv
    refine z_bald hc hB g10 i11 dX12_byteAt_24 ?_
    refine lv_goto (tgt := 29) hx hb dX12_byteAt_25 (by decide) ?_
    replace hv := Option.some.inj hv
    subst hv
    obtain ⟨e1, e2⟩ := y_pr kt
    rw [← e1, ← e2]
    exact z_iret hc hB hr dX12_byteAt_29
theorem qfX12_347 : Cond.fieldLink RX12 347 "DreamTestsModel" "nodes" "I" ∈ z_ws := List.mem_filter.mpr ⟨List.mem_append_right _ (List.mem_of_getElem? (i := 1335) (by decide +kernel)), rfl⟩
theorem qfX12_350 : Cond.fieldLink RX12 350 "DreamTestsModel" "opens" "I" ∈ z_ws := List.mem_filter.mpr ⟨List.mem_append_right _ (List.mem_of_getElem? (i := 1336) (by decide +kernel)), rfl⟩
theorem qfX12_71 : Cond.fieldLink RX12 71 "DreamTestsModel" "node" "[I" ∈ z_ws := List.mem_filter.mpr ⟨List.mem_append_right _ (List.mem_of_getElem? (i := 1332) (by decide +kernel)), rfl⟩
theorem qfX12_74 : Cond.fieldLink RX12 74 "DreamTestsModel" "open" "[I" ∈ z_ws := List.mem_filter.mpr ⟨List.mem_append_right _ (List.mem_of_getElem? (i := 1333) (by decide +kernel)), rfl⟩
theorem qfX12_77 : Cond.fieldLink RX12 77 "DreamTestsModel" "side" "[I" ∈ z_ws := List.mem_filter.mpr ⟨List.mem_append_right _ (List.mem_of_getElem? (i := 1334) (by decide +kernel)), rfl⟩
theorem dX12_hangs_0 : decode cX12_hangs 0 = .ok (.iconst 4, 1) := by decide +kernel
theorem dX12_hangs_1 : decode cX12_hangs 1 = .ok (.aload_n 0, 1) := by decide +kernel
theorem dX12_hangs_2 : decode cX12_hangs 2 = .ok (.getfield 347, 3) := by decide +kernel
theorem dX12_hangs_5 : decode cX12_hangs 5 = .ok (.imul, 1) := by decide +kernel
theorem dX12_hangs_6 : decode cX12_hangs 6 = .ok (.istore_n 2, 1) := by decide +kernel
theorem dX12_hangs_7 : decode cX12_hangs 7 = .ok (.aload_n 0, 1) := by decide +kernel
theorem dX12_hangs_8 : decode cX12_hangs 8 = .ok (.getfield 71, 3) := by decide +kernel
theorem dX12_hangs_11 : decode cX12_hangs 11 = .ok (.iload_n 2, 1) := by decide +kernel
theorem dX12_hangs_12 : decode cX12_hangs 12 = .ok (.iload_n 1, 1) := by decide +kernel
theorem dX12_hangs_13 : decode cX12_hangs 13 = .ok (.iastore, 1) := by decide +kernel
theorem dX12_hangs_14 : decode cX12_hangs 14 = .ok (.aload_n 0, 1) := by decide +kernel
theorem dX12_hangs_15 : decode cX12_hangs 15 = .ok (.getfield 71, 3) := by decide +kernel
theorem dX12_hangs_18 : decode cX12_hangs 18 = .ok (.iload_n 2, 1) := by decide +kernel
theorem dX12_hangs_19 : decode cX12_hangs 19 = .ok (.iconst 1, 1) := by decide +kernel
theorem dX12_hangs_20 : decode cX12_hangs 20 = .ok (.iadd, 1) := by decide +kernel
theorem dX12_hangs_21 : decode cX12_hangs 21 = .ok (.iconst (-1), 1) := by decide +kernel
theorem dX12_hangs_22 : decode cX12_hangs 22 = .ok (.iastore, 1) := by decide +kernel
theorem dX12_hangs_23 : decode cX12_hangs 23 = .ok (.aload_n 0, 1) := by decide +kernel
theorem dX12_hangs_24 : decode cX12_hangs 24 = .ok (.getfield 71, 3) := by decide +kernel
theorem dX12_hangs_27 : decode cX12_hangs 27 = .ok (.iload_n 2, 1) := by decide +kernel
theorem dX12_hangs_28 : decode cX12_hangs 28 = .ok (.iconst 2, 1) := by decide +kernel
theorem dX12_hangs_29 : decode cX12_hangs 29 = .ok (.iadd, 1) := by decide +kernel
theorem dX12_hangs_30 : decode cX12_hangs 30 = .ok (.iconst (-1), 1) := by decide +kernel
theorem dX12_hangs_31 : decode cX12_hangs 31 = .ok (.iastore, 1) := by decide +kernel
theorem dX12_hangs_32 : decode cX12_hangs 32 = .ok (.aload_n 0, 1) := by decide +kernel
theorem dX12_hangs_33 : decode cX12_hangs 33 = .ok (.getfield 71, 3) := by decide +kernel
theorem dX12_hangs_36 : decode cX12_hangs 36 = .ok (.iload_n 2, 1) := by decide +kernel
theorem dX12_hangs_37 : decode cX12_hangs 37 = .ok (.iconst 3, 1) := by decide +kernel
theorem dX12_hangs_38 : decode cX12_hangs 38 = .ok (.iadd, 1) := by decide +kernel
theorem dX12_hangs_39 : decode cX12_hangs 39 = .ok (.aload_n 0, 1) := by decide +kernel
theorem dX12_hangs_40 : decode cX12_hangs 40 = .ok (.getfield 350, 3) := by decide +kernel
theorem dX12_hangs_43 : decode cX12_hangs 43 = .ok (.ifCond .le 17, 3) := by decide +kernel
theorem dX12_hangs_46 : decode cX12_hangs 46 = .ok (.aload_n 0, 1) := by decide +kernel
theorem dX12_hangs_47 : decode cX12_hangs 47 = .ok (.getfield 74, 3) := by decide +kernel
theorem dX12_hangs_50 : decode cX12_hangs 50 = .ok (.aload_n 0, 1) := by decide +kernel
theorem dX12_hangs_51 : decode cX12_hangs 51 = .ok (.getfield 350, 3) := by decide +kernel
theorem dX12_hangs_54 : decode cX12_hangs 54 = .ok (.iconst 1, 1) := by decide +kernel
theorem dX12_hangs_55 : decode cX12_hangs 55 = .ok (.isub, 1) := by decide +kernel
theorem dX12_hangs_56 : decode cX12_hangs 56 = .ok (.iaload, 1) := by decide +kernel
theorem dX12_hangs_57 : decode cX12_hangs 57 = .ok (.goto 4, 3) := by decide +kernel
theorem dX12_hangs_60 : decode cX12_hangs 60 = .ok (.iconst (-1), 1) := by decide +kernel
theorem dX12_hangs_61 : decode cX12_hangs 61 = .ok (.iastore, 1) := by decide +kernel
theorem dX12_hangs_62 : decode cX12_hangs 62 = .ok (.aload_n 0, 1) := by decide +kernel
theorem dX12_hangs_63 : decode cX12_hangs 63 = .ok (.getfield 350, 3) := by decide +kernel
theorem dX12_hangs_66 : decode cX12_hangs 66 = .ok (.ifCond .le 39, 3) := by decide +kernel
theorem dX12_hangs_69 : decode cX12_hangs 69 = .ok (.aload_n 0, 1) := by decide +kernel
theorem dX12_hangs_70 : decode cX12_hangs 70 = .ok (.getfield 71, 3) := by decide +kernel
theorem dX12_hangs_73 : decode cX12_hangs 73 = .ok (.iconst 4, 1) := by decide +kernel
theorem dX12_hangs_74 : decode cX12_hangs 74 = .ok (.aload_n 0, 1) := by decide +kernel
theorem dX12_hangs_75 : decode cX12_hangs 75 = .ok (.getfield 74, 3) := by decide +kernel
theorem dX12_hangs_78 : decode cX12_hangs 78 = .ok (.aload_n 0, 1) := by decide +kernel
theorem dX12_hangs_79 : decode cX12_hangs 79 = .ok (.getfield 350, 3) := by decide +kernel
theorem dX12_hangs_82 : decode cX12_hangs 82 = .ok (.iconst 1, 1) := by decide +kernel
theorem dX12_hangs_83 : decode cX12_hangs 83 = .ok (.isub, 1) := by decide +kernel
theorem dX12_hangs_84 : decode cX12_hangs 84 = .ok (.iaload, 1) := by decide +kernel
theorem dX12_hangs_85 : decode cX12_hangs 85 = .ok (.imul, 1) := by decide +kernel
theorem dX12_hangs_86 : decode cX12_hangs 86 = .ok (.iconst 1, 1) := by decide +kernel
theorem dX12_hangs_87 : decode cX12_hangs 87 = .ok (.iadd, 1) := by decide +kernel
theorem dX12_hangs_88 : decode cX12_hangs 88 = .ok (.aload_n 0, 1) := by decide +kernel
theorem dX12_hangs_89 : decode cX12_hangs 89 = .ok (.getfield 77, 3) := by decide +kernel
theorem dX12_hangs_92 : decode cX12_hangs 92 = .ok (.aload_n 0, 1) := by decide +kernel
theorem dX12_hangs_93 : decode cX12_hangs 93 = .ok (.getfield 350, 3) := by decide +kernel
theorem dX12_hangs_96 : decode cX12_hangs 96 = .ok (.iconst 1, 1) := by decide +kernel
theorem dX12_hangs_97 : decode cX12_hangs 97 = .ok (.isub, 1) := by decide +kernel
theorem dX12_hangs_98 : decode cX12_hangs 98 = .ok (.iaload, 1) := by decide +kernel
theorem dX12_hangs_99 : decode cX12_hangs 99 = .ok (.iadd, 1) := by decide +kernel
theorem dX12_hangs_100 : decode cX12_hangs 100 = .ok (.aload_n 0, 1) := by decide +kernel
theorem dX12_hangs_101 : decode cX12_hangs 101 = .ok (.getfield 347, 3) := by decide +kernel
theorem dX12_hangs_104 : decode cX12_hangs 104 = .ok (.iastore, 1) := by decide +kernel
theorem dX12_hangs_105 : decode cX12_hangs 105 = .ok (.aload_n 0, 1) := by decide +kernel
theorem dX12_hangs_106 : decode cX12_hangs 106 = .ok (.dup, 1) := by decide +kernel
theorem dX12_hangs_107 : decode cX12_hangs 107 = .ok (.getfield 347, 3) := by decide +kernel
theorem dX12_hangs_110 : decode cX12_hangs 110 = .ok (.iconst 1, 1) := by decide +kernel
theorem dX12_hangs_111 : decode cX12_hangs 111 = .ok (.iadd, 1) := by decide +kernel
theorem dX12_hangs_112 : decode cX12_hangs 112 = .ok (.putfield 347, 3) := by decide +kernel
theorem dX12_hangs_115 : decode cX12_hangs 115 = .ok (.return_, 1) := by decide +kernel
abbrev rm_X12_hangs : Room := { frames := 0, cells := 0, slots := 0, locals := 0 }
noncomputable def fX12_hangs_b105 (o0 : Nat) (h : z_T) : Option (z_T) :=
  y_gd (z_ok h o0 11) <|
  y_nm (z_sI h o0 35 ((z_I h o0 35) + (1 : Int32))) fun h2 =>
  some h2
noncomputable def fX12_hangs_b61 (o0 : Nat) (s0 : Nat) (s1 : Int32) (s2 : Int32) (h : z_T) : Option (z_T) :=
  y_gd (z_ok h s0 13) <|
  y_gd (z_ix s1 (z_N h s0)) <|
  y_nm (z_sI h s0 s1.toNatClampNeg s2) fun h5 =>
  y_gd (z_ok h5 o0 11) <|
  y_br ((z_I h5 o0 36) ≤ 0)
    (fX12_hangs_b105 o0 h5)
    (y_bi (z_R h5 o0 32) fun o8 =>
    y_bi (z_R h5 o0 33) fun o9 =>
    y_gd (z_ok h5 o9 13) <|
    y_gd (z_ix ((z_I h5 o0 36) - (1 : Int32)) (z_N h5 o9)) <|
    y_bi (z_R h5 o0 34) fun o12 =>
    y_gd (z_ok h5 o12 13) <|
    y_gd (z_ix ((z_I h5 o0 36) - (1 : Int32)) (z_N h5 o12)) <|
    y_gd (z_ok h5 o8 13) <|
    y_gd (z_ix ((((4 : Int32) * (z_I h5 o9 ((z_I h5 o0 36) - (1 : Int32)).toNatClampNeg)) + (1 : Int32)) + (z_I h5 o12 ((z_I h5 o0 36) - (1 : Int32)).toNatClampNeg)) (z_N h5 o8)) <|
    y_nm (z_sI h5 o8 ((((4 : Int32) * (z_I h5 o9 ((z_I h5 o0 36) - (1 : Int32)).toNatClampNeg)) + (1 : Int32)) + (z_I h5 o12 ((z_I h5 o0 36) - (1 : Int32)).toNatClampNeg)).toNatClampNeg (z_I h5 o0 35)) fun h17 =>
    fX12_hangs_b105 o0 h17)
noncomputable def fX12_hangs (o0 : Nat) (x1 : Int32) (h : z_T) : Option (z_T) :=
  y_gd (z_ok h o0 11) <|
  y_nm (((4 : Int32) * (z_I h o0 35))) fun v19 =>
  y_bi (z_R h o0 32) fun o20 =>
  y_gd (z_ok h o20 13) <|
  y_gd (z_ix v19 (z_N h o20)) <|
  y_nm (z_sI h o20 v19.toNatClampNeg x1) fun h23 =>
  y_gd (z_ix (v19 + (1 : Int32)) (z_N h23 o20)) <|
  y_nm (z_sI h23 o20 (v19 + (1 : Int32)).toNatClampNeg (-1 : Int32)) fun h25 =>
  y_gd (z_ix (v19 + (2 : Int32)) (z_N h25 o20)) <|
  y_nm (z_sI h25 o20 (v19 + (2 : Int32)).toNatClampNeg (-1 : Int32)) fun h27 =>
  y_br ((z_I h27 o0 36) ≤ 0)
    (fX12_hangs_b61 o0 o20 (v19 + (3 : Int32)) (-1 : Int32) h27)
    (y_bi (z_R h27 o0 33) fun o29 =>
    y_gd (z_ok h27 o29 13) <|
    y_gd (z_ix ((z_I h27 o0 36) - (1 : Int32)) (z_N h27 o29)) <|
    fX12_hangs_b61 o0 o20 (v19 + (3 : Int32)) (z_I h27 o29 ((z_I h27 o0 36) - (1 : Int32)).toNatClampNeg) h27)
set_option maxHeartbeats 4000000 in
set_option maxRecDepth 100000 in
theorem mm_X12_hangs {G : z_Gt} {S : State → Prop} (hSK : z_SK S) (l : Launch) (ad : Nat → Nat) (o0 : Nat) (x1 : Int32) (h : z_T) {h9 : z_T} (hv : fX12_hangs o0 x1 h = some h9) : z_Mv G S l yX12_hangs cX12_hangs 3 rm_X12_hangs 0 0 [.ref (ad o0), .int x1] ad h h9 := by
  refine z_ofW hSK (by decide) (Nat.le_of_ble_eq_true rfl) ?_
  intro p e s m args below meth c ls hc hr hnm hB hl
  have hx := hc.1.1
  have hb := hc.1.2.1
  have hown := hc.1.2.2.2.1
  have hts := hc.1.2.2.2.2
  replace hc : z_C G S ad (z_n h) p m c cX12_hangs 3 s args RX12 meth := hc
  replace hown : s.vm.findClass RX12 = some m.cls := hown
  replace hl : lv_has ls 3 [(0, .ref (ad o0)), (1, .int x1)] := hl
  show W p l e rm_X12_hangs s m args below meth c s.heap [] 0 0 (MQ below (z_Qv G ad h9 (z_n h) s.heap.size) args s 0 0 (z_A ad (z_n h) s.heap.size)) (F0 m 0 ls [])
  obtain ⟨rs, kt⟩ : ∃ rs : z_T, rs = h9 := ⟨_, rfl⟩
  generalize hn0 : z_n h = n0 at hc hB ⊢
  have b105 : ∀ (h : z_T) (H : Heap) (locs : List Loc) (ls : Array Slot), z_B G ad n0 s h H locs → lv_has ls 3 [(0, .ref (ad o0))] → ∀ w, fX12_hangs_b105 o0 h = some w → w = h9 → W p l e rm_X12_hangs s m args below meth c H locs 0 0 (MQ below (z_Qv G ad h9 n0 s.heap.size) args s 0 0 (z_A ad n0 s.heap.size)) (F0 m 105 ls []) := by
    intro h H locs ls hB hl w hv kb
    refine lv_aload_n hx hb dX12_hangs_105 rfl (lv_at hl 0 rfl) ?_
    refine lv_dup hx hb dX12_hangs_106 rfl ?_
    obtain ⟨g1, hv⟩ := y_gd_e hv
    refine z_getI hc hB 11 35 g1 (by decide) (by decide) rfl (z_l1 hc qfX12_347) dX12_hangs_107 ?_
    refine lv_iconst (v := (1 : Int32)) hx hb dX12_hangs_110 (by decide) ?_
    refine lv_iadd hx hb dX12_hangs_111 ?_
    obtain ⟨h2, eh2, hv⟩ := y_nm_e hv
    refine y_putI hc hB 11 35 eh2 g1 (z_l1 hc qfX12_347) dX12_hangs_112 (by decide) (by decide) rfl rfl rfl rfl (fun H locs hB => ?_)
    replace hv := Option.some.inj hv
    subst hv
    rw [← kb]
    exact z_vret hc hB hr dX12_hangs_115
  have b61 : ∀ (s0 : Nat) (s1 : Int32) (s2 : Int32) (h : z_T) (H : Heap) (locs : List Loc) (ls : Array Slot), z_B G ad n0 s h H locs → lv_has ls 3 [(0, .ref (ad o0))] → ∀ w, fX12_hangs_b61 o0 s0 s1 s2 h = some w → w = h9 → W p l e rm_X12_hangs s m args below meth c H locs 0 0 (MQ below (z_Qv G ad h9 n0 s.heap.size) args s 0 0 (z_A ad n0 s.heap.size)) (F0 m 61 ls [.int s2, .int s1, .ref (ad s0)]) := by
    intro s0 s1 s2 h H locs ls hB hl w hv kb
    obtain ⟨g3, hv⟩ := y_gd_e hv
    obtain ⟨i4, hv⟩ := y_gd_e hv
    obtain ⟨h5, eh5, hv⟩ := y_nm_e hv
    refine y_iast hc hB eh5 g3 i4 dX12_hangs_61 (fun H locs hB => ?_)
    refine lv_aload_n hx hb dX12_hangs_62 rfl (lv_at hl 0 rfl) ?_
    obtain ⟨g6, hv⟩ := y_gd_e hv
    refine z_getI hc hB 11 36 g6 (by decide) (by decide) rfl (z_l1 hc qfX12_350) dX12_hangs_63 ?_
    refine lv_if_le (tgt := 105) hx hb dX12_hangs_66 (by decide) (fun c7 => ?_) (fun c7 => ?_)
    · replace hv := y_br_t hv c7
      exact b105 h5 _ _ _ hB (lv_sub hl [0] rfl) _ hv kb
    · replace hv := y_br_f hv c7
      refine lv_aload_n hx hb dX12_hangs_69 rfl (lv_at hl 0 rfl) ?_
      obtain ⟨o8, eo8, hv⟩ := y_bi_e hv
      refine z_getR hc hB 11 32 g6 eo8 (by decide) (by decide) rfl (z_l1 hc qfX12_71) dX12_hangs_70 ?_
      refine lv_iconst (v := (4 : Int32)) hx hb dX12_hangs_73 (by decide) ?_
      refine lv_aload_n hx hb dX12_hangs_74 rfl (lv_at hl 0 rfl) ?_
      obtain ⟨o9, eo9, hv⟩ := y_bi_e hv
      refine z_getR hc hB 11 33 g6 eo9 (by decide) (by decide) rfl (z_l1 hc qfX12_74) dX12_hangs_75 ?_
      refine lv_aload_n hx hb dX12_hangs_78 rfl (lv_at hl 0 rfl) ?_
      refine z_getI hc hB 11 36 g6 (by decide) (by decide) rfl (z_l1 hc qfX12_350) dX12_hangs_79 ?_
      refine lv_iconst (v := (1 : Int32)) hx hb dX12_hangs_82 (by decide) ?_
      refine lv_isub hx hb dX12_hangs_83 ?_
      obtain ⟨g10, hv⟩ := y_gd_e hv
      obtain ⟨i11, hv⟩ := y_gd_e hv
      refine z_iald hc hB g10 i11 dX12_hangs_84 ?_
      refine lv_imul hx hb dX12_hangs_85 ?_
      refine lv_iconst (v := (1 : Int32)) hx hb dX12_hangs_86 (by decide) ?_
      refine lv_iadd hx hb dX12_hangs_87 ?_
      refine lv_aload_n hx hb dX12_hangs_88 rfl (lv_at hl 0 rfl) ?_
      obtain ⟨o12, eo12, hv⟩ := y_bi_e hv
      refine z_getR hc hB 11 34 g6 eo12 (by decide) (by decide) rfl (z_l1 hc qfX12_77) dX12_hangs_89 ?_
      refine lv_aload_n hx hb dX12_hangs_92 rfl (lv_at hl 0 rfl) ?_
      refine z_getI hc hB 11 36 g6 (by decide) (by decide) rfl (z_l1 hc qfX12_350) dX12_hangs_93 ?_
      refine lv_iconst (v := (1 : Int32)) hx hb dX12_hangs_96 (by decide) ?_
      refine lv_isub hx hb dX12_hangs_97 ?_
      obtain ⟨g13, hv⟩ := y_gd_e hv
      obtain ⟨i14, hv⟩ := y_gd_e hv
      refine z_iald hc hB g13 i14 dX12_hangs_98 ?_
      refine lv_iadd hx hb dX12_hangs_99 ?_
      refine lv_aload_n hx hb dX12_hangs_100 rfl (lv_at hl 0 rfl) ?_
      refine z_getI hc hB 11 35 g6 (by decide) (by decide) rfl (z_l1 hc qfX12_347) dX12_hangs_101 ?_
      obtain ⟨g15, hv⟩ := y_gd_e hv
      obtain ⟨i16, hv⟩ := y_gd_e hv
      obtain ⟨h17, eh17, hv⟩ := y_nm_e hv
      refine y_iast hc hB eh17 g15 i16 dX12_hangs_104 (fun H locs hB => ?_)
      exact b105 h17 _ _ _ hB (lv_sub hl [0] rfl) _ hv kb
  rw [← kt] at hv
  refine lv_iconst (v := (4 : Int32)) hx hb dX12_hangs_0 (by decide) ?_
  refine lv_aload_n hx hb dX12_hangs_1 rfl (lv_at hl 0 rfl) ?_
  obtain ⟨g18, hv⟩ := y_gd_e hv
  refine z_getI hc hB 11 35 g18 (by decide) (by decide) rfl (z_l1 hc qfX12_347) dX12_hangs_2 ?_
  refine lv_imul hx hb dX12_hangs_5 ?_
  obtain ⟨v19, ev19, hv⟩ := y_nm_e hv
  rw [← ev19]
  refine lv_istore_n (lv' := [(2, .int v19), (0, .ref (ad o0)), (1, .int x1)]) hx hb dX12_hangs_6 rfl hl (by decide) rfl (fun ls hl => ?_)
  refine lv_aload_n hx hb dX12_hangs_7 rfl (lv_at hl 1 rfl) ?_
  obtain ⟨o20, eo20, hv⟩ := y_bi_e hv
  refine z_getR hc hB 11 32 g18 eo20 (by decide) (by decide) rfl (z_l1 hc qfX12_71) dX12_hangs_8 ?_
  refine lv_iload_n hx hb dX12_hangs_11 rfl (lv_at hl 0 rfl) ?_
  refine lv_iload_n hx hb dX12_hangs_12 rfl (lv_at hl 2 rfl) ?_
  obtain ⟨g21, hv⟩ := y_gd_e hv
  obtain ⟨i22, hv⟩ := y_gd_e hv
  obtain ⟨h23, eh23, hv⟩ := y_nm_e hv
  refine y_iast hc hB eh23 g21 i22 dX12_hangs_13 (fun H locs hB => ?_)
  refine lv_aload_n hx hb dX12_hangs_14 rfl (lv_at hl 1 rfl) ?_
  refine z_getR hc hB 11 32 (by rw [eh23]; exact g18) (by rw [eh23]; exact eo20) (by decide) (by decide) rfl (z_l1 hc qfX12_71) dX12_hangs_15 ?_
  refine lv_iload_n hx hb dX12_hangs_18 rfl (lv_at hl 0 rfl) ?_
  refine lv_iconst (v := (1 : Int32)) hx hb dX12_hangs_19 (by decide) ?_
  refine lv_iadd hx hb dX12_hangs_20 ?_
  refine lv_iconst (v := (-1 : Int32)) hx hb dX12_hangs_21 (by decide) ?_
  obtain ⟨i24, hv⟩ := y_gd_e hv
  obtain ⟨h25, eh25, hv⟩ := y_nm_e hv
  refine y_iast hc hB eh25 (by rw [eh23]; exact g21) i24 dX12_hangs_22 (fun H locs hB => ?_)
  refine lv_aload_n hx hb dX12_hangs_23 rfl (lv_at hl 1 rfl) ?_
  refine z_getR hc hB 11 32 (by rw [eh25, eh23]; exact g18) (by rw [eh25, eh23]; exact eo20) (by decide) (by decide) rfl (z_l1 hc qfX12_71) dX12_hangs_24 ?_
  refine lv_iload_n hx hb dX12_hangs_27 rfl (lv_at hl 0 rfl) ?_
  refine lv_iconst (v := (2 : Int32)) hx hb dX12_hangs_28 (by decide) ?_
  refine lv_iadd hx hb dX12_hangs_29 ?_
  refine lv_iconst (v := (-1 : Int32)) hx hb dX12_hangs_30 (by decide) ?_
  obtain ⟨i26, hv⟩ := y_gd_e hv
  obtain ⟨h27, eh27, hv⟩ := y_nm_e hv
  refine y_iast hc hB eh27 (by rw [eh25, eh23]; exact g21) i26 dX12_hangs_31 (fun H locs hB => ?_)
  refine lv_aload_n hx hb dX12_hangs_32 rfl (lv_at hl 1 rfl) ?_
  refine z_getR hc hB 11 32 (by rw [eh27, eh25, eh23]; exact g18) (by rw [eh27, eh25, eh23]; exact eo20) (by decide) (by decide) rfl (z_l1 hc qfX12_71) dX12_hangs_33 ?_
  refine lv_iload_n hx hb dX12_hangs_36 rfl (lv_at hl 0 rfl) ?_
  refine lv_iconst (v := (3 : Int32)) hx hb dX12_hangs_37 (by decide) ?_
  refine lv_iadd hx hb dX12_hangs_38 ?_
  refine lv_aload_n hx hb dX12_hangs_39 rfl (lv_at hl 1 rfl) ?_
  refine z_getI hc hB 11 36 (by rw [eh27, eh25, eh23]; exact g18) (by decide) (by decide) rfl (z_l1 hc qfX12_350) dX12_hangs_40 ?_
  refine lv_if_le (tgt := 60) hx hb dX12_hangs_43 (by decide) (fun c28 => ?_) (fun c28 => ?_)
  · replace hv := y_br_t hv c28
    refine lv_iconst (v := (-1 : Int32)) hx hb dX12_hangs_60 (by decide) ?_
    exact b61 o20 (v19 + (3 : Int32)) (-1 : Int32) h27 _ _ _ hB (lv_sub hl [1] rfl) _ hv kt
  · replace hv := y_br_f hv c28
    refine lv_aload_n hx hb dX12_hangs_46 rfl (lv_at hl 1 rfl) ?_
    obtain ⟨o29, eo29, hv⟩ := y_bi_e hv
    refine z_getR hc hB 11 33 (by rw [eh27, eh25, eh23]; exact g18) eo29 (by decide) (by decide) rfl (z_l1 hc qfX12_74) dX12_hangs_47 ?_
    refine lv_aload_n hx hb dX12_hangs_50 rfl (lv_at hl 1 rfl) ?_
    refine z_getI hc hB 11 36 (by rw [eh27, eh25, eh23]; exact g18) (by decide) (by decide) rfl (z_l1 hc qfX12_350) dX12_hangs_51 ?_
    refine lv_iconst (v := (1 : Int32)) hx hb dX12_hangs_54 (by decide) ?_
    refine lv_isub hx hb dX12_hangs_55 ?_
    obtain ⟨g30, hv⟩ := y_gd_e hv
    obtain ⟨i31, hv⟩ := y_gd_e hv
    refine z_iald hc hB g30 i31 dX12_hangs_56 ?_
    refine lv_goto (tgt := 61) hx hb dX12_hangs_57 (by decide) ?_
    exact b61 o20 (v19 + (3 : Int32)) (z_I h27 o29 ((z_I h27 o0 36) - (1 : Int32)).toNatClampNeg) h27 _ _ _ hB (lv_sub hl [1] rfl) _ hv kt
