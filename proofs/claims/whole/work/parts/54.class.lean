/-! the methods of the class: the rows that decode, a function each, the walk (by gen5.py) -/
theorem qfX7_136 : Cond.fieldLink RX7 136 "DreamTests$Sentence" "size" "I" ∈ z_ws := List.mem_filter.mpr ⟨List.mem_append_right _ (List.mem_of_getElem? (i := 959) (by decide +kernel)), rfl⟩
theorem dX7_put_0 : decode cX7_put 0 = .ok (.aload_n 0, 1) := by decide +kernel
theorem dX7_put_1 : decode cX7_put 1 = .ok (.getfield 136, 3) := by decide +kernel
theorem dX7_put_4 : decode cX7_put 4 = .ok (.ifCond .lt 45, 3) := by decide +kernel
theorem dX7_put_7 : decode cX7_put 7 = .ok (.aload_n 0, 1) := by decide +kernel
theorem dX7_put_8 : decode cX7_put 8 = .ok (.getfield 136, 3) := by decide +kernel
theorem dX7_put_11 : decode cX7_put 11 = .ok (.aload_n 0, 1) := by decide +kernel
theorem dX7_put_12 : decode cX7_put 12 = .ok (.getfield 11, 3) := by decide +kernel
theorem dX7_put_15 : decode cX7_put 15 = .ok (.arraylength, 1) := by decide +kernel
theorem dX7_put_16 : decode cX7_put 16 = .ok (.if_icmp .ge 33, 3) := by decide +kernel
theorem dX7_put_19 : decode cX7_put 19 = .ok (.aload_n 0, 1) := by decide +kernel
theorem dX7_put_20 : decode cX7_put 20 = .ok (.getfield 11, 3) := by decide +kernel
theorem dX7_put_23 : decode cX7_put 23 = .ok (.aload_n 0, 1) := by decide +kernel
theorem dX7_put_24 : decode cX7_put 24 = .ok (.getfield 136, 3) := by decide +kernel
theorem dX7_put_27 : decode cX7_put 27 = .ok (.iload_n 1, 1) := by decide +kernel
theorem dX7_put_28 : decode cX7_put 28 = .ok (.iastore, 1) := by decide +kernel
theorem dX7_put_29 : decode cX7_put 29 = .ok (.aload_n 0, 1) := by decide +kernel
theorem dX7_put_30 : decode cX7_put 30 = .ok (.getfield 15, 3) := by decide +kernel
theorem dX7_put_33 : decode cX7_put 33 = .ok (.aload_n 0, 1) := by decide +kernel
theorem dX7_put_34 : decode cX7_put 34 = .ok (.getfield 136, 3) := by decide +kernel
theorem dX7_put_37 : decode cX7_put 37 = .ok (.iload_n 2, 1) := by decide +kernel
theorem dX7_put_38 : decode cX7_put 38 = .ok (.iastore, 1) := by decide +kernel
theorem dX7_put_39 : decode cX7_put 39 = .ok (.aload_n 0, 1) := by decide +kernel
theorem dX7_put_40 : decode cX7_put 40 = .ok (.dup, 1) := by decide +kernel
theorem dX7_put_41 : decode cX7_put 41 = .ok (.getfield 136, 3) := by decide +kernel
theorem dX7_put_44 : decode cX7_put 44 = .ok (.iconst 1, 1) := by decide +kernel
theorem dX7_put_45 : decode cX7_put 45 = .ok (.iadd, 1) := by decide +kernel
theorem dX7_put_46 : decode cX7_put 46 = .ok (.putfield 136, 3) := by decide +kernel
theorem dX7_put_49 : decode cX7_put 49 = .ok (.iconst 1, 1) := by decide +kernel
theorem dX7_put_50 : decode cX7_put 50 = .ok (.ireturn, 1) := by decide +kernel
abbrev rm_X7_put : Room := { frames := 0, cells := 0, slots := 0, locals := 0 }
noncomputable def fX7_put (o0 : Nat) (x1 : Int32) (x2 : Int32) (h : z_T) : Option (Int32 × z_T) :=
  y_gd (z_ok h o0 7) <|
  y_br ((z_I h o0 3) < 0)
    (some ((1 : Int32), h))
    (y_bi (z_R h o0 0) fun o3 =>
    y_gd (z_ok h o3 13) <|
    y_br ((nI (z_N h o3)) ≤ (z_I h o0 3))
      (some ((1 : Int32), h))
      (y_gd (z_ix (z_I h o0 3) (z_N h o3)) <|
      y_nm (z_sI h o3 (z_I h o0 3).toNatClampNeg x1) fun h7 =>
      y_bi (z_R h7 o0 1) fun o8 =>
      y_gd (z_ok h7 o8 13) <|
      y_gd (z_ix (z_I h7 o0 3) (z_N h7 o8)) <|
      y_nm (z_sI h7 o8 (z_I h7 o0 3).toNatClampNeg x2) fun h11 =>
      y_nm (z_sI h11 o0 3 ((z_I h11 o0 3) + (1 : Int32))) fun h12 =>
      some ((1 : Int32), h12)))
set_option maxHeartbeats 4000000 in
set_option maxRecDepth 100000 in
theorem mm_X7_put {G : z_Gt} (hSK : z_SK (z_S G)) (l : Launch) (ad : Nat → Nat) (o0 : Nat) (x1 : Int32) (x2 : Int32) (h : z_T) {r0 : Int32} {h9 : z_T} (hv : fX7_put o0 x1 x2 h = some (r0, h9)) : z_Mi G (z_S G) l yX7_put cX7_put 3 (.boolean) rm_X7_put 0 0 [.ref (ad o0), .int x1, .int x2] ad h h9 r0 := by
  refine z_ofW hSK (by decide) (Nat.le_of_ble_eq_true rfl) ?_
  intro p e s m args below meth c ls hc hr hnm hB hl
  have hx := hc.1.1
  have hb := hc.1.2.1
  have hown := hc.1.2.2.2.1
  have hts := hc.1.2.2.2.2
  replace hc : z_C G (z_S G) ad (z_n h) p m c cX7_put 3 s args RX7 meth := hc
  replace hown : s.vm.findClass RX7 = some m.cls := hown
  replace hl : lv_has ls 3 [(0, .ref (ad o0)), (1, .int x1), (2, .int x2)] := hl
  show W p l e rm_X7_put s m args below meth c s.heap [] 0 0 (MQ below (z_Qi G ad h9 (z_n h) s.heap.size r0) args s 0 0 (z_A ad (z_n h) s.heap.size)) (F0 m 0 ls [])
  obtain ⟨rs, kt⟩ : ∃ rs : Int32 × z_T, rs = (r0, h9) := ⟨_, rfl⟩
  generalize hn0 : z_n h = n0 at hc hB ⊢
  rw [← kt] at hv
  refine lv_aload_n hx hb dX7_put_0 rfl (lv_at hl 0 rfl) ?_
  obtain ⟨g1, hv⟩ := y_gd_e hv
  refine z_getI hc hB 7 3 g1 (by decide) (by decide) rfl (z_l1 hc qfX7_136) dX7_put_1 ?_
  refine lv_if_lt (tgt := 49) hx hb dX7_put_4 (by decide) (fun c2 => ?_) (fun c2 => ?_)
  · replace hv := y_br_t hv c2
    refine lv_iconst (v := (1 : Int32)) hx hb dX7_put_49 (by decide) ?_
    replace hv := Option.some.inj hv
    subst hv
    obtain ⟨e1, e2⟩ := y_pr kt
    rw [← e1, ← e2]
    exact z_zret hc hB hr rfl dX7_put_50
  · replace hv := y_br_f hv c2
    refine lv_aload_n hx hb dX7_put_7 rfl (lv_at hl 0 rfl) ?_
    refine z_getI hc hB 7 3 g1 (by decide) (by decide) rfl (z_l1 hc qfX7_136) dX7_put_8 ?_
    refine lv_aload_n hx hb dX7_put_11 rfl (lv_at hl 0 rfl) ?_
    obtain ⟨o3, eo3, hv⟩ := y_bi_e hv
    refine z_getR hc hB 7 0 g1 eo3 (by decide) (by decide) rfl (z_l1 hc qfX7_11) dX7_put_12 ?_
    obtain ⟨g4, hv⟩ := y_gd_e hv
    refine z_alen hc hB 13 (by decide) (by decide) g4 dX7_put_15 ?_
    refine lv_icmp_ge (tgt := 49) hx hb dX7_put_16 (by decide) (fun c5 => ?_) (fun c5 => ?_)
    · replace hv := y_br_t hv c5
      refine lv_iconst (v := (1 : Int32)) hx hb dX7_put_49 (by decide) ?_
      replace hv := Option.some.inj hv
      subst hv
      obtain ⟨e1, e2⟩ := y_pr kt
      rw [← e1, ← e2]
      exact z_zret hc hB hr rfl dX7_put_50
    · replace hv := y_br_f hv c5
      refine lv_aload_n hx hb dX7_put_19 rfl (lv_at hl 0 rfl) ?_
      refine z_getR hc hB 7 0 g1 eo3 (by decide) (by decide) rfl (z_l1 hc qfX7_11) dX7_put_20 ?_
      refine lv_aload_n hx hb dX7_put_23 rfl (lv_at hl 0 rfl) ?_
      refine z_getI hc hB 7 3 g1 (by decide) (by decide) rfl (z_l1 hc qfX7_136) dX7_put_24 ?_
      refine lv_iload_n hx hb dX7_put_27 rfl (lv_at hl 1 rfl) ?_
      obtain ⟨i6, hv⟩ := y_gd_e hv
      obtain ⟨h7, eh7, hv⟩ := y_nm_e hv
      refine y_iast hc hB eh7 g4 i6 dX7_put_28 (fun H locs hB => ?_)
      refine lv_aload_n hx hb dX7_put_29 rfl (lv_at hl 0 rfl) ?_
      obtain ⟨o8, eo8, hv⟩ := y_bi_e hv
      refine z_getR hc hB 7 1 (by rw [eh7]; exact g1) eo8 (by decide) (by decide) rfl (z_l1 hc qfX7_15) dX7_put_30 ?_
      refine lv_aload_n hx hb dX7_put_33 rfl (lv_at hl 0 rfl) ?_
      refine z_getI hc hB 7 3 (by rw [eh7]; exact g1) (by decide) (by decide) rfl (z_l1 hc qfX7_136) dX7_put_34 ?_
      refine lv_iload_n hx hb dX7_put_37 rfl (lv_at hl 2 rfl) ?_
      obtain ⟨g9, hv⟩ := y_gd_e hv
      obtain ⟨i10, hv⟩ := y_gd_e hv
      obtain ⟨h11, eh11, hv⟩ := y_nm_e hv
      refine y_iast hc hB eh11 g9 i10 dX7_put_38 (fun H locs hB => ?_)
      refine lv_aload_n hx hb dX7_put_39 rfl (lv_at hl 0 rfl) ?_
      refine lv_dup hx hb dX7_put_40 rfl ?_
      refine z_getI hc hB 7 3 (by rw [eh11, eh7]; exact g1) (by decide) (by decide) rfl (z_l1 hc qfX7_136) dX7_put_41 ?_
      refine lv_iconst (v := (1 : Int32)) hx hb dX7_put_44 (by decide) ?_
      refine lv_iadd hx hb dX7_put_45 ?_
      obtain ⟨h12, eh12, hv⟩ := y_nm_e hv
      refine y_putI hc hB 7 3 eh12 (by rw [eh11, eh7]; exact g1) (z_l1 hc qfX7_136) dX7_put_46 (by decide) (by decide) rfl rfl rfl rfl (fun H locs hB => ?_)
      refine lv_iconst (v := (1 : Int32)) hx hb dX7_put_49 (by decide) ?_
      replace hv := Option.some.inj hv
      subst hv
      obtain ⟨e1, e2⟩ := y_pr kt
      rw [← e1, ← e2]
      exact z_zret hc hB hr rfl dX7_put_50
theorem qfX7_77 : Cond.fieldLink RX7 77 "DreamTests$Word" "NOT" "LDreamTests$Word;" ∈ z_ws := List.mem_filter.mpr ⟨List.mem_append_right _ (List.mem_of_getElem? (i := 992) (by decide +kernel)), rfl⟩
theorem qfX7_80 : Cond.fieldLink RX7 80 "DreamTests$Word" "GOOD" "LDreamTests$Word;" ∈ z_ws := List.mem_filter.mpr ⟨List.mem_append_right _ (List.mem_of_getElem? (i := 994) (by decide +kernel)), rfl⟩
theorem qfX7_92 : Cond.fieldLink RX7 92 "DreamTests$Word" "KEPT" "LDreamTests$Word;" ∈ z_ws := List.mem_filter.mpr ⟨List.mem_append_right _ (List.mem_of_getElem? (i := 996) (by decide +kernel)), rfl⟩
theorem qfX7_89 : Cond.fieldLink RX7 89 "DreamTests$Word" "ASKED" "LDreamTests$Word;" ∈ z_ws := List.mem_filter.mpr ⟨List.mem_append_right _ (List.mem_of_getElem? (i := 998) (by decide +kernel)), rfl⟩
theorem qfX7_103 : Cond.fieldLink RX7 103 "DreamTests$Word" "ROOMS" "LDreamTests$Word;" ∈ z_ws := List.mem_filter.mpr ⟨List.mem_append_right _ (List.mem_of_getElem? (i := 1000) (by decide +kernel)), rfl⟩
theorem qfX7_106 : Cond.fieldLink RX7 106 "DreamTests$Word" "DREAMS" "LDreamTests$Word;" ∈ z_ws := List.mem_filter.mpr ⟨List.mem_append_right _ (List.mem_of_getElem? (i := 1002) (by decide +kernel)), rfl⟩
theorem qfX7_109 : Cond.fieldLink RX7 109 "DreamTests$Word" "PLACE" "LDreamTests$Word;" ∈ z_ws := List.mem_filter.mpr ⟨List.mem_append_right _ (List.mem_of_getElem? (i := 1004) (by decide +kernel)), rfl⟩
theorem dX7_beginsOne_0 : decode cX7_beginsOne 0 = .ok (.aload_n 0, 1) := by decide +kernel
theorem dX7_beginsOne_1 : decode cX7_beginsOne 1 = .ok (.getstatic 77, 3) := by decide +kernel
theorem dX7_beginsOne_4 : decode cX7_beginsOne 4 = .ok (.if_acmp .eq 45, 3) := by decide +kernel
theorem dX7_beginsOne_7 : decode cX7_beginsOne 7 = .ok (.aload_n 0, 1) := by decide +kernel
theorem dX7_beginsOne_8 : decode cX7_beginsOne 8 = .ok (.getstatic 80, 3) := by decide +kernel
theorem dX7_beginsOne_11 : decode cX7_beginsOne 11 = .ok (.if_acmp .eq 38, 3) := by decide +kernel
theorem dX7_beginsOne_14 : decode cX7_beginsOne 14 = .ok (.aload_n 0, 1) := by decide +kernel
theorem dX7_beginsOne_15 : decode cX7_beginsOne 15 = .ok (.getstatic 92, 3) := by decide +kernel
theorem dX7_beginsOne_18 : decode cX7_beginsOne 18 = .ok (.if_acmp .eq 31, 3) := by decide +kernel
theorem dX7_beginsOne_21 : decode cX7_beginsOne 21 = .ok (.aload_n 0, 1) := by decide +kernel
theorem dX7_beginsOne_22 : decode cX7_beginsOne 22 = .ok (.getstatic 89, 3) := by decide +kernel
theorem dX7_beginsOne_25 : decode cX7_beginsOne 25 = .ok (.if_acmp .eq 24, 3) := by decide +kernel
theorem dX7_beginsOne_28 : decode cX7_beginsOne 28 = .ok (.aload_n 0, 1) := by decide +kernel
theorem dX7_beginsOne_29 : decode cX7_beginsOne 29 = .ok (.getstatic 103, 3) := by decide +kernel
theorem dX7_beginsOne_32 : decode cX7_beginsOne 32 = .ok (.if_acmp .eq 17, 3) := by decide +kernel
theorem dX7_beginsOne_35 : decode cX7_beginsOne 35 = .ok (.aload_n 0, 1) := by decide +kernel
theorem dX7_beginsOne_36 : decode cX7_beginsOne 36 = .ok (.getstatic 106, 3) := by decide +kernel
theorem dX7_beginsOne_39 : decode cX7_beginsOne 39 = .ok (.if_acmp .eq 10, 3) := by decide +kernel
theorem dX7_beginsOne_42 : decode cX7_beginsOne 42 = .ok (.aload_n 0, 1) := by decide +kernel
theorem dX7_beginsOne_43 : decode cX7_beginsOne 43 = .ok (.getstatic 109, 3) := by decide +kernel
theorem dX7_beginsOne_46 : decode cX7_beginsOne 46 = .ok (.if_acmp .ne 7, 3) := by decide +kernel
theorem dX7_beginsOne_49 : decode cX7_beginsOne 49 = .ok (.iconst 1, 1) := by decide +kernel
theorem dX7_beginsOne_50 : decode cX7_beginsOne 50 = .ok (.goto 4, 3) := by decide +kernel
theorem dX7_beginsOne_53 : decode cX7_beginsOne 53 = .ok (.iconst 0, 1) := by decide +kernel
theorem dX7_beginsOne_54 : decode cX7_beginsOne 54 = .ok (.ireturn, 1) := by decide +kernel
abbrev rm_X7_beginsOne : Room := { frames := 0, cells := 0, slots := 0, locals := 0 }
noncomputable def fX7_beginsOne_b49  : Option (Int32) :=
  some (1 : Int32)
noncomputable def fX7_beginsOne (e0 : Nat) : Option (Int32) :=
  y_gd (decide (e0 < 23)) <|
  y_br (e0 = 16)
    (fX7_beginsOne_b49)
    (y_br (e0 = 17)
      (fX7_beginsOne_b49)
      (y_br (e0 = 18)
        (fX7_beginsOne_b49)
        (y_br (e0 = 19)
          (fX7_beginsOne_b49)
          (y_br (e0 = 20)
            (fX7_beginsOne_b49)
            (y_br (e0 = 21)
              (fX7_beginsOne_b49)
              (y_br (e0 = 22)
                (fX7_beginsOne_b49)
                (some (0 : Int32))))))))
set_option maxHeartbeats 4000000 in
set_option maxRecDepth 100000 in
theorem mm_X7_beginsOne {G : z_Gt} (hSK : z_SK (z_S G)) (l : Launch) (ad : Nat → Nat) (e0 : Nat) (h : z_T) {r0 : Int32} (hv : fX7_beginsOne e0 = some r0) : z_Mi G (z_S G) l yX7_beginsOne cX7_beginsOne 1 (.boolean) rm_X7_beginsOne 0 0 [.ref (G.2.2.2.1 e0)] ad h h r0 := by
  refine z_ofW hSK (by decide) (Nat.le_of_ble_eq_true rfl) ?_
  intro p e s m args below meth c ls hc hr hnm hB hl
  have hx := hc.1.1
  have hb := hc.1.2.1
  have hown := hc.1.2.2.2.1
  have hts := hc.1.2.2.2.2
  replace hc : z_C G (z_S G) ad (z_n h) p m c cX7_beginsOne 1 s args RX7 meth := hc
  replace hown : s.vm.findClass RX7 = some m.cls := hown
  replace hl : lv_has ls 1 [(0, .ref (G.2.2.2.1 e0))] := hl
  show W p l e rm_X7_beginsOne s m args below meth c s.heap [] 0 0 (MQ below (z_Qi G ad h (z_n h) s.heap.size r0) args s 0 0 (z_A ad (z_n h) s.heap.size)) (F0 m 0 ls [])
  obtain ⟨rs, kt⟩ : ∃ rs : Int32, rs = r0 := ⟨_, rfl⟩
  generalize hn0 : z_n h = n0 at hc hB ⊢
  have b49 : ∀ (H : Heap) (locs : List Loc) (ls : Array Slot), z_B G ad n0 s h H locs → lv_has ls 1 [] → ∀ w, fX7_beginsOne_b49 = some w → w = r0 → W p l e rm_X7_beginsOne s m args below meth c H locs 0 0 (MQ below (z_Qi G ad h n0 s.heap.size r0) args s 0 0 (z_A ad n0 s.heap.size)) (F0 m 49 ls []) := by
    intro H locs ls hB hl w hv kb
    refine lv_iconst (v := (1 : Int32)) hx hb dX7_beginsOne_49 (by decide) ?_
    refine lv_goto (tgt := 54) hx hb dX7_beginsOne_50 (by decide) ?_
    replace hv := Option.some.inj hv
    subst hv
    rw [← kb]
    exact z_zret hc hB hr rfl dX7_beginsOne_54
  rw [← kt] at hv
  refine lv_aload_n hx hb dX7_beginsOne_0 rfl (lv_at hl 0 rfl) ?_
  refine z_gets hc hB (hc.2.1.2.2.2.1.1 16 (by decide)) qfX7_77 dX7_beginsOne_1 ?_
  obtain ⟨g1, hv⟩ := y_gd_e hv
  refine z_acmpE (tgt := 49) hc (z_lt g1) (by decide) dX7_beginsOne_4 (by decide) (fun c2 => ?_) (fun c2 => ?_)
  · replace hv := y_br_t hv c2
    exact b49 _ _ _ hB (lv_sub hl [] rfl) _ hv kt
  · replace hv := y_br_f hv c2
    refine lv_aload_n hx hb dX7_beginsOne_7 rfl (lv_at hl 0 rfl) ?_
    refine z_gets hc hB (hc.2.1.2.2.2.1.1 17 (by decide)) qfX7_80 dX7_beginsOne_8 ?_
    refine z_acmpE (tgt := 49) hc (z_lt g1) (by decide) dX7_beginsOne_11 (by decide) (fun c3 => ?_) (fun c3 => ?_)
    · replace hv := y_br_t hv c3
      exact b49 _ _ _ hB (lv_sub hl [] rfl) _ hv kt
    · replace hv := y_br_f hv c3
      refine lv_aload_n hx hb dX7_beginsOne_14 rfl (lv_at hl 0 rfl) ?_
      refine z_gets hc hB (hc.2.1.2.2.2.1.1 18 (by decide)) qfX7_92 dX7_beginsOne_15 ?_
      refine z_acmpE (tgt := 49) hc (z_lt g1) (by decide) dX7_beginsOne_18 (by decide) (fun c4 => ?_) (fun c4 => ?_)
      · replace hv := y_br_t hv c4
        exact b49 _ _ _ hB (lv_sub hl [] rfl) _ hv kt
      · replace hv := y_br_f hv c4
        refine lv_aload_n hx hb dX7_beginsOne_21 rfl (lv_at hl 0 rfl) ?_
        refine z_gets hc hB (hc.2.1.2.2.2.1.1 19 (by decide)) qfX7_89 dX7_beginsOne_22 ?_
        refine z_acmpE (tgt := 49) hc (z_lt g1) (by decide) dX7_beginsOne_25 (by decide) (fun c5 => ?_) (fun c5 => ?_)
        · replace hv := y_br_t hv c5
          exact b49 _ _ _ hB (lv_sub hl [] rfl) _ hv kt
        · replace hv := y_br_f hv c5
          refine lv_aload_n hx hb dX7_beginsOne_28 rfl (lv_at hl 0 rfl) ?_
          refine z_gets hc hB (hc.2.1.2.2.2.1.1 20 (by decide)) qfX7_103 dX7_beginsOne_29 ?_
          refine z_acmpE (tgt := 49) hc (z_lt g1) (by decide) dX7_beginsOne_32 (by decide) (fun c6 => ?_) (fun c6 => ?_)
          · replace hv := y_br_t hv c6
            exact b49 _ _ _ hB (lv_sub hl [] rfl) _ hv kt
          · replace hv := y_br_f hv c6
            refine lv_aload_n hx hb dX7_beginsOne_35 rfl (lv_at hl 0 rfl) ?_
            refine z_gets hc hB (hc.2.1.2.2.2.1.1 21 (by decide)) qfX7_106 dX7_beginsOne_36 ?_
            refine z_acmpE (tgt := 49) hc (z_lt g1) (by decide) dX7_beginsOne_39 (by decide) (fun c7 => ?_) (fun c7 => ?_)
            · replace hv := y_br_t hv c7
              exact b49 _ _ _ hB (lv_sub hl [] rfl) _ hv kt
            · replace hv := y_br_f hv c7
              refine lv_aload_n hx hb dX7_beginsOne_42 rfl (lv_at hl 0 rfl) ?_
              refine z_gets hc hB (hc.2.1.2.2.2.1.1 22 (by decide)) qfX7_109 dX7_beginsOne_43 ?_
              refine z_acmpN (tgt := 53) hc (z_lt g1) (by decide) dX7_beginsOne_46 (by decide) (fun c8 => ?_) (fun c8 => ?_)
              · replace hv := y_br_f hv c8
                refine lv_iconst (v := (0 : Int32)) hx hb dX7_beginsOne_53 (by decide) ?_
                replace hv := Option.some.inj hv
                subst hv
                rw [← kt]
                exact z_zret hc hB hr rfl dX7_beginsOne_54
              · replace hv := y_br_t hv c8
                exact b49 _ _ _ hB (lv_sub hl [] rfl) _ hv kt
theorem qmX7_112 : Cond.methodLink RX7 112 yX6_dreamHere ∈ z_ws := List.mem_filter.mpr ⟨List.mem_append_right _ (List.mem_of_getElem? (i := 1018) (by decide +kernel)), rfl⟩
theorem qmX7_44 : Cond.methodLink RX7 44 yX6_advance ∈ z_ws := List.mem_filter.mpr ⟨List.mem_append_right _ (List.mem_of_getElem? (i := 1007) (by decide +kernel)), rfl⟩
theorem qmX7_116 : Cond.methodLink RX7 116 yX0_keptIn ∈ z_ws := List.mem_filter.mpr ⟨List.mem_append_right _ (List.mem_of_getElem? (i := 1019) (by decide +kernel)), rfl⟩
theorem qmX7_47 : Cond.methodLink RX7 47 yX7_put ∈ z_ws := List.mem_filter.mpr ⟨List.mem_append_right _ (List.mem_of_getElem? (i := 1009) (by decide +kernel)), rfl⟩
theorem qn_RX7 : Cond.initialized RX7 ∈ z_ws := List.mem_filter.mpr ⟨List.mem_append_right _ (List.mem_of_getElem? (i := 25) (by decide +kernel)), rfl⟩
theorem qc_X7_put : Cond.code yX7_put cX7_put 3 (some .boolean) ∈ z_ws := List.mem_filter.mpr ⟨List.mem_append_right _ (List.mem_of_getElem? (i := 1012) (by decide +kernel)), rfl⟩
theorem qi_X7_put : Cond.instanceMethod yX7_put ∈ z_ws := List.mem_filter.mpr ⟨List.mem_append_right _ (List.mem_of_getElem? (i := 1011) (by decide +kernel)), rfl⟩
theorem qs_X7_put : Cond.selects RX7 yX7_put yX7_put ∈ z_ws := List.mem_filter.mpr ⟨List.mem_append_left _ (List.mem_of_getElem? (i := 26) (by decide +kernel)), rfl⟩
theorem md_X7_put : z_mdV yX7_put cX7_put 3 (some .boolean) 2 := ⟨⟨qn_RX7, qc_X7_put, ⟨by decide +kernel, by decide +kernel, by decide +kernel⟩⟩, qi_X7_put, qs_X7_put⟩
theorem dX7_readKept_0 : decode cX7_readKept 0 = .ok (.aload_n 1, 1) := by decide +kernel
theorem dX7_readKept_1 : decode cX7_readKept 1 = .ok (.aload_n 2, 1) := by decide +kernel
theorem dX7_readKept_2 : decode cX7_readKept 2 = .ok (.invokevirtual 112, 3) := by decide +kernel
theorem dX7_readKept_5 : decode cX7_readKept 5 = .ok (.istore_n 3, 1) := by decide +kernel
theorem dX7_readKept_6 : decode cX7_readKept 6 = .ok (.iload_n 3, 1) := by decide +kernel
theorem dX7_readKept_7 : decode cX7_readKept 7 = .ok (.iconst (-1), 1) := by decide +kernel
theorem dX7_readKept_8 : decode cX7_readKept 8 = .ok (.if_icmp .ne 5, 3) := by decide +kernel
theorem dX7_readKept_11 : decode cX7_readKept 11 = .ok (.iconst 0, 1) := by decide +kernel
theorem dX7_readKept_12 : decode cX7_readKept 12 = .ok (.ireturn, 1) := by decide +kernel
theorem dX7_readKept_13 : decode cX7_readKept 13 = .ok (.aload_n 1, 1) := by decide +kernel
theorem dX7_readKept_14 : decode cX7_readKept 14 = .ok (.invokevirtual 44, 3) := by decide +kernel
theorem dX7_readKept_17 : decode cX7_readKept 17 = .ok (.aload_n 0, 1) := by decide +kernel
theorem dX7_readKept_18 : decode cX7_readKept 18 = .ok (.iconst 0, 1) := by decide +kernel
theorem dX7_readKept_19 : decode cX7_readKept 19 = .ok (.aload_n 2, 1) := by decide +kernel
theorem dX7_readKept_20 : decode cX7_readKept 20 = .ok (.iload_n 3, 1) := by decide +kernel
theorem dX7_readKept_21 : decode cX7_readKept 21 = .ok (.iconst 1, 1) := by decide +kernel
theorem dX7_readKept_22 : decode cX7_readKept 22 = .ok (.iadd, 1) := by decide +kernel
theorem dX7_readKept_23 : decode cX7_readKept 23 = .ok (.invokevirtual 116, 3) := by decide +kernel
theorem dX7_readKept_26 : decode cX7_readKept 26 = .ok (.invokevirtual 47, 3) := by decide +kernel
theorem dX7_readKept_29 : decode cX7_readKept 29 = .ok (.ireturn, 1) := by decide +kernel
abbrev rm_X7_readKept : Room := { frames := 3, cells := 0, slots := 0, locals := 69 }
noncomputable def fX7_readKept (o0 : Nat) (o1 : Nat) (o2 : Nat) (h : z_T) : Option (Int32 × z_T) :=
  y_gd (z_ok h o1 6) <|
  y_bi (fX6_dreamHere o1 o2 h) fun ⟨r2, h6⟩ =>
  y_br (r2 = (-1 : Int32))
    (some ((0 : Int32), h6))
    (y_gd (z_ok h6 o1 6) <|
    y_bi (fX6_advance o1 h6) fun h10 =>
    y_gd (z_ok h10 o2 0) <|
    y_bi (fX0_keptIn o2 (r2 + (1 : Int32)) h10) fun r13 =>
    y_gd (z_ok h10 o0 7) <|
    y_bi (fX7_put o0 (0 : Int32) r13 h10) fun ⟨r19, h23⟩ =>
    y_gd (y_b r19) <|
    some (r19, h23))
set_option maxHeartbeats 4000000 in
set_option maxRecDepth 100000 in
theorem mm_X7_readKept {G : z_Gt} (hSK : z_SK (z_S G)) (l : Launch) (ad : Nat → Nat) (o0 : Nat) (o1 : Nat) (o2 : Nat) (h : z_T) {r0 : Int32} {h9 : z_T} (hv : fX7_readKept o0 o1 o2 h = some (r0, h9)) : z_Mi G (z_S G) l yX7_readKept cX7_readKept 4 (.boolean) rm_X7_readKept 0 0 [.ref (ad o0), .ref (ad o1), .ref (ad o2)] ad h h9 r0 := by
  refine z_ofW hSK (by decide) (Nat.le_of_ble_eq_true rfl) ?_
  intro p e s m args below meth c ls hc hr hnm hB hl
  have hx := hc.1.1
  have hb := hc.1.2.1
  have hown := hc.1.2.2.2.1
  have hts := hc.1.2.2.2.2
  replace hc : z_C G (z_S G) ad (z_n h) p m c cX7_readKept 4 s args RX7 meth := hc
  replace hown : s.vm.findClass RX7 = some m.cls := hown
  replace hl : lv_has ls 4 [(0, .ref (ad o0)), (1, .ref (ad o1)), (2, .ref (ad o2))] := hl
  show W p l e rm_X7_readKept s m args below meth c s.heap [] 0 0 (MQ below (z_Qi G ad h9 (z_n h) s.heap.size r0) args s 0 0 (z_A ad (z_n h) s.heap.size)) (F0 m 0 ls [])
  obtain ⟨rs, kt⟩ : ∃ rs : Int32 × z_T, rs = (r0, h9) := ⟨_, rfl⟩
  generalize hn0 : z_n h = n0 at hc hB ⊢
  rw [← kt] at hv
  refine lv_aload_n hx hb dX7_readKept_0 rfl (lv_at hl 1 rfl) ?_
  refine lv_aload_n hx hb dX7_readKept_1 rfl (lv_at hl 2 rfl) ?_
  obtain ⟨g7, hv⟩ := y_gd_e hv
  obtain ⟨⟨r2, h6⟩, c1, hv⟩ := y_bi_e hv
  refine z_thI hc hB (z_runV hc hB 6 (mm_X6_dreamHere hSK l ad o1 o2 h c1) md_X6_dreamHere qmX7_112 g7 (by decide) rfl rfl rfl ⟨Nat.le_of_ble_eq_true rfl, Nat.le_of_ble_eq_true rfl⟩ rfl hl.1 rfl (Nat.le_of_ble_eq_true rfl) dX7_readKept_2 ⟨Nat.le_of_ble_eq_true rfl, Nat.le_of_ble_eq_true rfl⟩) (fun H locs hB => ?_)
  refine lv_istore_n (lv' := [(3, .int r2), (0, .ref (ad o0)), (1, .ref (ad o1)), (2, .ref (ad o2))]) hx hb dX7_readKept_5 rfl hl (by decide) rfl (fun ls hl => ?_)
  refine lv_iload_n hx hb dX7_readKept_6 rfl (lv_at hl 0 rfl) ?_
  refine lv_iconst (v := (-1 : Int32)) hx hb dX7_readKept_7 (by decide) ?_
  refine lv_icmp_ne (tgt := 13) hx hb dX7_readKept_8 (by decide) (fun c8 => ?_) (fun c8 => ?_)
  · replace hv := y_br_f hv c8
    refine lv_aload_n hx hb dX7_readKept_13 rfl (lv_at hl 2 rfl) ?_
    obtain ⟨g11, hv⟩ := y_gd_e hv
    obtain ⟨h10, c9, hv⟩ := y_bi_e hv
    refine z_thV hc hB (z_runV hc hB 6 (mm_X6_advance hSK l ad o1 h6 c9) md_X6_advance qmX7_44 g11 (by decide) rfl rfl rfl ⟨Nat.le_of_ble_eq_true rfl, Nat.le_of_ble_eq_true rfl⟩ rfl hl.1 rfl (Nat.le_of_ble_eq_true rfl) dX7_readKept_14 ⟨Nat.le_of_ble_eq_true rfl, Nat.le_of_ble_eq_true rfl⟩) (fun H locs hB => ?_)
    refine lv_aload_n hx hb dX7_readKept_17 rfl (lv_at hl 1 rfl) ?_
    refine lv_iconst (v := (0 : Int32)) hx hb dX7_readKept_18 (by decide) ?_
    refine lv_aload_n hx hb dX7_readKept_19 rfl (lv_at hl 3 rfl) ?_
    refine lv_iload_n hx hb dX7_readKept_20 rfl (lv_at hl 0 rfl) ?_
    refine lv_iconst (v := (1 : Int32)) hx hb dX7_readKept_21 (by decide) ?_
    refine lv_iadd hx hb dX7_readKept_22 ?_
    obtain ⟨g17, hv⟩ := y_gd_e hv
    obtain ⟨r13, c12, hv⟩ := y_bi_e hv
    refine z_thI hc hB (z_runV hc hB 0 (mm_X0_keptIn hSK l ad o2 (r2 + (1 : Int32)) h10 c12) md_X0_keptIn qmX7_116 g17 (by decide) rfl rfl rfl ⟨Nat.le_of_ble_eq_true rfl, Nat.le_of_ble_eq_true rfl⟩ rfl hl.1 rfl (Nat.le_of_ble_eq_true rfl) dX7_readKept_23 ⟨Nat.le_of_ble_eq_true rfl, Nat.le_of_ble_eq_true rfl⟩) (fun H locs hB => ?_)
    obtain ⟨g24, hv⟩ := y_gd_e hv
    obtain ⟨⟨r19, h23⟩, c18, hv⟩ := y_bi_e hv
    refine z_thI hc hB (z_runV hc hB 7 (mm_X7_put hSK l ad o0 (0 : Int32) r13 h10 c18) md_X7_put qmX7_47 g24 (by decide) rfl rfl rfl ⟨Nat.le_of_ble_eq_true rfl, Nat.le_of_ble_eq_true rfl⟩ rfl hl.1 rfl (Nat.le_of_ble_eq_true rfl) dX7_readKept_26 ⟨Nat.le_of_ble_eq_true rfl, Nat.le_of_ble_eq_true rfl⟩) (fun H locs hB => ?_)
    obtain ⟨y25, hv⟩ := y_gd_e hv
    replace hv := Option.some.inj hv
    subst hv
    obtain ⟨e1, e2⟩ := y_pr kt
    rw [← e1, ← e2]
    exact z_zret hc hB hr (y_b_n y25) dX7_readKept_29
  · replace hv := y_br_t hv c8
    refine lv_iconst (v := (0 : Int32)) hx hb dX7_readKept_11 (by decide) ?_
    replace hv := Option.some.inj hv
    subst hv
    obtain ⟨e1, e2⟩ := y_pr kt
    rw [← e1, ← e2]
    exact z_zret hc hB hr rfl dX7_readKept_12
theorem qfX7_127 : Cond.fieldLinkNest RX7 127 "DreamTests$Book" "tests" "I" "DreamTests" ∈ z_nw := List.mem_filter.mpr ⟨List.mem_of_getElem? (i := 44) (by decide +kernel), rfl⟩
theorem qmX7_133 : Cond.methodLink RX7 133 yX0_inDream ∈ z_ws := List.mem_filter.mpr ⟨List.mem_append_right _ (List.mem_of_getElem? (i := 1029) (by decide +kernel)), rfl⟩
theorem qmX7_130 : Cond.methodLink RX7 130 yX0_inRoom ∈ z_ws := List.mem_filter.mpr ⟨List.mem_append_right _ (List.mem_of_getElem? (i := 1028) (by decide +kernel)), rfl⟩
theorem qfX7_60 : Cond.fieldLinkNest RX7 60 "DreamTests$Reader" "kind" "I" "DreamTests" ∈ z_nw := List.mem_filter.mpr ⟨List.mem_of_getElem? (i := 114) (by decide +kernel), rfl⟩
theorem qmX7_120 : Cond.methodLink RX7 120 yX6_isOrder ∈ z_ws := List.mem_filter.mpr ⟨List.mem_append_right _ (List.mem_of_getElem? (i := 1024) (by decide +kernel)), rfl⟩
theorem qc_X6_isOrder : Cond.code yX6_isOrder cX6_isOrder 1 (some .boolean) ∈ z_ws := List.mem_filter.mpr ⟨List.mem_append_right _ (List.mem_of_getElem? (i := 1026) (by decide +kernel)), rfl⟩
theorem qs_X6_isOrder : Cond.static yX6_isOrder ∈ z_ws := List.mem_filter.mpr ⟨List.mem_append_right _ (List.mem_of_getElem? (i := 1025) (by decide +kernel)), rfl⟩
theorem md_X6_isOrder : z_mdS yX6_isOrder cX6_isOrder 1 (some .boolean) 1 := ⟨⟨qn_RX6, qc_X6_isOrder, ⟨by decide +kernel, by decide +kernel, by decide +kernel⟩⟩, qs_X6_isOrder⟩
theorem qmX7_123 : Cond.methodLink RX7 123 yX6_takeNumber ∈ z_ws := List.mem_filter.mpr ⟨List.mem_append_right _ (List.mem_of_getElem? (i := 1027) (by decide +kernel)), rfl⟩
theorem qmX7_67 : Cond.methodLink RX7 67 yX6_fail ∈ z_ws := List.mem_filter.mpr ⟨List.mem_append_right _ (List.mem_of_getElem? (i := 1006) (by decide +kernel)), rfl⟩
theorem dX7_readOrder_0 : decode cX7_readOrder 0 = .ok (.aload_n 1, 1) := by decide +kernel
theorem dX7_readOrder_1 : decode cX7_readOrder 1 = .ok (.getfield 60, 3) := by decide +kernel
theorem dX7_readOrder_4 : decode cX7_readOrder 4 = .ok (.istore 4, 2) := by decide +kernel
theorem dX7_readOrder_6 : decode cX7_readOrder 6 = .ok (.iload 4, 2) := by decide +kernel
theorem dX7_readOrder_8 : decode cX7_readOrder 8 = .ok (.invokestatic 120, 3) := by decide +kernel
theorem dX7_readOrder_11 : decode cX7_readOrder 11 = .ok (.ifCond .ne 9, 3) := by decide +kernel
theorem dX7_readOrder_14 : decode cX7_readOrder 14 = .ok (.aload_n 1, 1) := by decide +kernel
theorem dX7_readOrder_15 : decode cX7_readOrder 15 = .ok (.iconst 1, 1) := by decide +kernel
theorem dX7_readOrder_16 : decode cX7_readOrder 16 = .ok (.invokevirtual 67, 3) := by decide +kernel
theorem dX7_readOrder_19 : decode cX7_readOrder 19 = .ok (.ireturn, 1) := by decide +kernel
theorem dX7_readOrder_20 : decode cX7_readOrder 20 = .ok (.aload_n 1, 1) := by decide +kernel
theorem dX7_readOrder_21 : decode cX7_readOrder 21 = .ok (.invokevirtual 44, 3) := by decide +kernel
theorem dX7_readOrder_24 : decode cX7_readOrder 24 = .ok (.aload_n 1, 1) := by decide +kernel
theorem dX7_readOrder_25 : decode cX7_readOrder 25 = .ok (.iconst 0, 1) := by decide +kernel
theorem dX7_readOrder_26 : decode cX7_readOrder 26 = .ok (.bipush 99, 2) := by decide +kernel
theorem dX7_readOrder_28 : decode cX7_readOrder 28 = .ok (.invokevirtual 123, 3) := by decide +kernel
theorem dX7_readOrder_31 : decode cX7_readOrder 31 = .ok (.istore 5, 2) := by decide +kernel
theorem dX7_readOrder_33 : decode cX7_readOrder 33 = .ok (.iload 5, 2) := by decide +kernel
theorem dX7_readOrder_35 : decode cX7_readOrder 35 = .ok (.iconst (-1), 1) := by decide +kernel
theorem dX7_readOrder_36 : decode cX7_readOrder 36 = .ok (.if_icmp .ne 5, 3) := by decide +kernel
theorem dX7_readOrder_39 : decode cX7_readOrder 39 = .ok (.iconst 0, 1) := by decide +kernel
theorem dX7_readOrder_40 : decode cX7_readOrder 40 = .ok (.ireturn, 1) := by decide +kernel
theorem dX7_readOrder_41 : decode cX7_readOrder 41 = .ok (.iconst 0, 1) := by decide +kernel
theorem dX7_readOrder_42 : decode cX7_readOrder 42 = .ok (.istore 6, 2) := by decide +kernel
theorem dX7_readOrder_44 : decode cX7_readOrder 44 = .ok (.iconst 0, 1) := by decide +kernel
theorem dX7_readOrder_45 : decode cX7_readOrder 45 = .ok (.istore 7, 2) := by decide +kernel
theorem dX7_readOrder_47 : decode cX7_readOrder 47 = .ok (.iload 7, 2) := by decide +kernel
theorem dX7_readOrder_49 : decode cX7_readOrder 49 = .ok (.aload_n 2, 1) := by decide +kernel
theorem dX7_readOrder_50 : decode cX7_readOrder 50 = .ok (.getfield 127, 3) := by decide +kernel
theorem dX7_readOrder_53 : decode cX7_readOrder 53 = .ok (.if_icmp .ge 117, 3) := by decide +kernel
theorem dX7_readOrder_56 : decode cX7_readOrder 56 = .ok (.aload_n 3, 1) := by decide +kernel
theorem dX7_readOrder_57 : decode cX7_readOrder 57 = .ok (.getstatic 103, 3) := by decide +kernel
theorem dX7_readOrder_60 : decode cX7_readOrder 60 = .ok (.if_acmp .ne 12, 3) := by decide +kernel
theorem dX7_readOrder_63 : decode cX7_readOrder 63 = .ok (.aload_n 2, 1) := by decide +kernel
theorem dX7_readOrder_64 : decode cX7_readOrder 64 = .ok (.iload 7, 2) := by decide +kernel
theorem dX7_readOrder_66 : decode cX7_readOrder 66 = .ok (.invokevirtual 130, 3) := by decide +kernel
theorem dX7_readOrder_69 : decode cX7_readOrder 69 = .ok (.goto 21, 3) := by decide +kernel
theorem dX7_readOrder_72 : decode cX7_readOrder 72 = .ok (.aload_n 3, 1) := by decide +kernel
theorem dX7_readOrder_73 : decode cX7_readOrder 73 = .ok (.getstatic 106, 3) := by decide +kernel
theorem dX7_readOrder_76 : decode cX7_readOrder 76 = .ok (.if_acmp .ne 12, 3) := by decide +kernel
theorem dX7_readOrder_79 : decode cX7_readOrder 79 = .ok (.aload_n 2, 1) := by decide +kernel
theorem dX7_readOrder_80 : decode cX7_readOrder 80 = .ok (.iload 7, 2) := by decide +kernel
theorem dX7_readOrder_82 : decode cX7_readOrder 82 = .ok (.invokevirtual 133, 3) := by decide +kernel
theorem dX7_readOrder_85 : decode cX7_readOrder 85 = .ok (.goto 5, 3) := by decide +kernel
theorem dX7_readOrder_88 : decode cX7_readOrder 88 = .ok (.iload 7, 2) := by decide +kernel
theorem dX7_readOrder_90 : decode cX7_readOrder 90 = .ok (.istore 8, 2) := by decide +kernel
theorem dX7_readOrder_92 : decode cX7_readOrder 92 = .ok (.iload 4, 2) := by decide +kernel
theorem dX7_readOrder_94 : decode cX7_readOrder 94 = .ok (.bipush 60, 2) := by decide +kernel
theorem dX7_readOrder_96 : decode cX7_readOrder 96 = .ok (.if_icmp .ne 18, 3) := by decide +kernel
theorem dX7_readOrder_99 : decode cX7_readOrder 99 = .ok (.iload 8, 2) := by decide +kernel
theorem dX7_readOrder_101 : decode cX7_readOrder 101 = .ok (.iload 5, 2) := by decide +kernel
theorem dX7_readOrder_103 : decode cX7_readOrder 103 = .ok (.if_icmp .ge 7, 3) := by decide +kernel
theorem dX7_readOrder_106 : decode cX7_readOrder 106 = .ok (.iconst 1, 1) := by decide +kernel
theorem dX7_readOrder_107 : decode cX7_readOrder 107 = .ok (.goto 41, 3) := by decide +kernel
theorem dX7_readOrder_110 : decode cX7_readOrder 110 = .ok (.iconst 0, 1) := by decide +kernel
theorem dX7_readOrder_111 : decode cX7_readOrder 111 = .ok (.goto 37, 3) := by decide +kernel
theorem dX7_readOrder_114 : decode cX7_readOrder 114 = .ok (.iload 4, 2) := by decide +kernel
theorem dX7_readOrder_116 : decode cX7_readOrder 116 = .ok (.bipush 62, 2) := by decide +kernel
theorem dX7_readOrder_118 : decode cX7_readOrder 118 = .ok (.if_icmp .ne 18, 3) := by decide +kernel
theorem dX7_readOrder_121 : decode cX7_readOrder 121 = .ok (.iload 8, 2) := by decide +kernel
theorem dX7_readOrder_123 : decode cX7_readOrder 123 = .ok (.iload 5, 2) := by decide +kernel
theorem dX7_readOrder_125 : decode cX7_readOrder 125 = .ok (.if_icmp .le 7, 3) := by decide +kernel
theorem dX7_readOrder_128 : decode cX7_readOrder 128 = .ok (.iconst 1, 1) := by decide +kernel
theorem dX7_readOrder_129 : decode cX7_readOrder 129 = .ok (.goto 19, 3) := by decide +kernel
theorem dX7_readOrder_132 : decode cX7_readOrder 132 = .ok (.iconst 0, 1) := by decide +kernel
theorem dX7_readOrder_133 : decode cX7_readOrder 133 = .ok (.goto 15, 3) := by decide +kernel
theorem dX7_readOrder_136 : decode cX7_readOrder 136 = .ok (.iload 8, 2) := by decide +kernel
theorem dX7_readOrder_138 : decode cX7_readOrder 138 = .ok (.iload 5, 2) := by decide +kernel
theorem dX7_readOrder_140 : decode cX7_readOrder 140 = .ok (.if_icmp .ne 7, 3) := by decide +kernel
theorem dX7_readOrder_143 : decode cX7_readOrder 143 = .ok (.iconst 1, 1) := by decide +kernel
theorem dX7_readOrder_144 : decode cX7_readOrder 144 = .ok (.goto 4, 3) := by decide +kernel
theorem dX7_readOrder_147 : decode cX7_readOrder 147 = .ok (.iconst 0, 1) := by decide +kernel
theorem dX7_readOrder_148 : decode cX7_readOrder 148 = .ok (.istore 9, 2) := by decide +kernel
theorem dX7_readOrder_150 : decode cX7_readOrder 150 = .ok (.iload 9, 2) := by decide +kernel
theorem dX7_readOrder_152 : decode cX7_readOrder 152 = .ok (.ifCond .eq 12, 3) := by decide +kernel
theorem dX7_readOrder_155 : decode cX7_readOrder 155 = .ok (.iload 6, 2) := by decide +kernel
theorem dX7_readOrder_157 : decode cX7_readOrder 157 = .ok (.iconst 1, 1) := by decide +kernel
theorem dX7_readOrder_158 : decode cX7_readOrder 158 = .ok (.iload 7, 2) := by decide +kernel
theorem dX7_readOrder_160 : decode cX7_readOrder 160 = .ok (.ishl, 1) := by decide +kernel
theorem dX7_readOrder_161 : decode cX7_readOrder 161 = .ok (.ior, 1) := by decide +kernel
theorem dX7_readOrder_162 : decode cX7_readOrder 162 = .ok (.istore 6, 2) := by decide +kernel
theorem dX7_readOrder_164 : decode cX7_readOrder 164 = .ok (.iinc 7 1, 3) := by decide +kernel
theorem dX7_readOrder_167 : decode cX7_readOrder 167 = .ok (.goto (-120), 3) := by decide +kernel
theorem dX7_readOrder_170 : decode cX7_readOrder 170 = .ok (.aload_n 0, 1) := by decide +kernel
theorem dX7_readOrder_171 : decode cX7_readOrder 171 = .ok (.iconst 0, 1) := by decide +kernel
theorem dX7_readOrder_172 : decode cX7_readOrder 172 = .ok (.iload 6, 2) := by decide +kernel
theorem dX7_readOrder_174 : decode cX7_readOrder 174 = .ok (.invokevirtual 47, 3) := by decide +kernel
theorem dX7_readOrder_177 : decode cX7_readOrder 177 = .ok (.ireturn, 1) := by decide +kernel
abbrev rm_X7_readOrder : Room := { frames := 4, cells := 0, slots := 0, locals := 92 }
noncomputable def fX7_readOrder_b164 (o0 : Nat) (o2 : Nat) (e3 : Nat) (x4 : Int32) (x5 : Int32) (x6 : Int32) (x7 : Int32) (h : z_T) : Option ((Int32 × Int32) ⊕ (Int32 × z_T)) :=
  y_nm (x7 + 1) fun v1 =>
  some (.inl (x6, v1))
noncomputable def fX7_readOrder_b148 (o0 : Nat) (o2 : Nat) (e3 : Nat) (x4 : Int32) (x5 : Int32) (x6 : Int32) (x7 : Int32) (s0 : Int32) (h : z_T) : Option ((Int32 × Int32) ⊕ (Int32 × z_T)) :=
  y_br (s0 = 0)
    (fX7_readOrder_b164 o0 o2 e3 x4 x5 x6 x7 h)
    (y_nm ((x6 ||| ((1 : Int32) <<< (x7 &&& 31)))) fun v3 =>
    fX7_readOrder_b164 o0 o2 e3 x4 x5 v3 x7 h)
noncomputable def fX7_readOrder_b90 (o0 : Nat) (o2 : Nat) (e3 : Nat) (x4 : Int32) (x5 : Int32) (x6 : Int32) (x7 : Int32) (s0 : Int32) (h : z_T) : Option ((Int32 × Int32) ⊕ (Int32 × z_T)) :=
  y_br (x4 = (60 : Int32))
    (y_br (x5 ≤ s0)
      (fX7_readOrder_b148 o0 o2 e3 x4 x5 x6 x7 (0 : Int32) h)
      (fX7_readOrder_b148 o0 o2 e3 x4 x5 x6 x7 (1 : Int32) h))
    (y_br (x4 = (62 : Int32))
      (y_br (s0 ≤ x5)
        (fX7_readOrder_b148 o0 o2 e3 x4 x5 x6 x7 (0 : Int32) h)
        (fX7_readOrder_b148 o0 o2 e3 x4 x5 x6 x7 (1 : Int32) h))
      (y_br (s0 = x5)
        (fX7_readOrder_b148 o0 o2 e3 x4 x5 x6 x7 (1 : Int32) h)
        (fX7_readOrder_b148 o0 o2 e3 x4 x5 x6 x7 (0 : Int32) h)))
noncomputable def fX7_readOrder_b47_i (o0 : Nat) (o2 : Nat) (e3 : Nat) (x4 : Int32) (x5 : Int32) (h : z_T) (x6 : Int32) (x7 : Int32) : Option ((Int32 × Int32) ⊕ (Int32 × z_T)) :=
  y_gd (z_ok h o2 0) <|
  y_br ((z_I h o2 1) ≤ x7)
    (y_mp <|
    y_gd (z_ok h o0 7) <|
    y_bi (fX7_put o0 (0 : Int32) x6 h) fun ⟨r13, h17⟩ =>
    y_gd (y_b r13) <|
    some (r13, h17))
    (y_gd (decide (e3 < 23)) <|
    y_br (e3 = 20)
      (y_bi (fX0_inRoom o2 x7 h) fun r29 =>
      fX7_readOrder_b90 o0 o2 e3 x4 x5 x6 x7 r29 h)
      (y_br (e3 = 21)
        (y_bi (fX0_inDream o2 x7 h) fun r24 =>
        fX7_readOrder_b90 o0 o2 e3 x4 x5 x6 x7 r24 h)
        (fX7_readOrder_b90 o0 o2 e3 x4 x5 x6 x7 x7 h)))
noncomputable def fX7_readOrder_b47 (o0 : Nat) (o2 : Nat) (e3 : Nat) (x4 : Int32) (x5 : Int32) (x6 : Int32) (x7 : Int32) (h : z_T) : Option (Int32 × z_T) := y_lp (fun q : Int32 × Int32 => fX7_readOrder_b47_i o0 o2 e3 x4 x5 h q.1 q.2) (x6, x7)
noncomputable def fX7_readOrder (o0 : Nat) (o1 : Nat) (o2 : Nat) (e3 : Nat) (h : z_T) : Option (Int32 × z_T) :=
  y_gd (z_ok h o1 6) <|
  y_nm ((z_I h o1 4)) fun v34 =>
  y_bi (fX6_isOrder v34) fun r36 =>
  y_br (r36 = 0)
    (y_bi (fX6_fail o1 (1 : Int32) h) fun ⟨r52, h56⟩ =>
    y_gd (y_b r52) <|
    some (r52, h56))
    (y_bi (fX6_advance o1 h) fun h42 =>
    y_gd (z_ok h42 o1 6) <|
    y_bi (fX6_takeNumber o1 (0 : Int32) (99 : Int32) h42) fun ⟨r44, h48⟩ =>
    y_br (r44 = (-1 : Int32))
      (some ((0 : Int32), h48))
      (fX7_readOrder_b47 o0 o2 e3 v34 r44 (0 : Int32) (0 : Int32) h48))
set_option maxHeartbeats 4000000 in
set_option maxRecDepth 100000 in
theorem mm_X7_readOrder {G : z_Gt} (hSK : z_SK (z_S G)) (l : Launch) (ad : Nat → Nat) (o0 : Nat) (o1 : Nat) (o2 : Nat) (e3 : Nat) (h : z_T) {r0 : Int32} {h9 : z_T} (hv : fX7_readOrder o0 o1 o2 e3 h = some (r0, h9)) : z_Mi G (z_S G) l yX7_readOrder cX7_readOrder 10 (.boolean) rm_X7_readOrder 0 0 [.ref (ad o0), .ref (ad o1), .ref (ad o2), .ref (G.2.2.2.1 e3)] ad h h9 r0 := by
  refine z_ofW hSK (by decide) (Nat.le_of_ble_eq_true rfl) ?_
  intro p e s m args below meth c ls hc hr hnm hB hl
  have hx := hc.1.1
  have hb := hc.1.2.1
  have hown := hc.1.2.2.2.1
  have hts := hc.1.2.2.2.2
  replace hc : z_C G (z_S G) ad (z_n h) p m c cX7_readOrder 10 s args RX7 meth := hc
  replace hown : s.vm.findClass RX7 = some m.cls := hown
  replace hl : lv_has ls 10 [(0, .ref (ad o0)), (1, .ref (ad o1)), (2, .ref (ad o2)), (3, .ref (G.2.2.2.1 e3))] := hl
  show W p l e rm_X7_readOrder s m args below meth c s.heap [] 0 0 (MQ below (z_Qi G ad h9 (z_n h) s.heap.size r0) args s 0 0 (z_A ad (z_n h) s.heap.size)) (F0 m 0 ls [])
  obtain ⟨rs, kt⟩ : ∃ rs : Int32 × z_T, rs = (r0, h9) := ⟨_, rfl⟩
  generalize hn0 : z_n h = n0 at hc hB ⊢
  have L47 : ∀ (x4 : Int32) (x5 : Int32) (h : z_T) (nn47 : Nat) (x6 : Int32) (x7 : Int32) (H : Heap) (locs : List Loc) (ls : Array Slot), z_B G ad n0 s h H locs → lv_has ls 10 [(0, .ref (ad o0)), (2, .ref (ad o2)), (3, .ref (G.2.2.2.1 e3)), (4, .int x4), (5, .int x5), (6, .int x6), (7, .int x7)] → ∀ vv47, y_lpN (fun q : Int32 × Int32 => fX7_readOrder_b47_i o0 o2 e3 x4 x5 h q.1 q.2) nn47 (x6, x7) = some vv47 → vv47 = (r0, h9) → W p l e rm_X7_readOrder s m args below meth c H locs 0 0 (MQ below (z_Qi G ad h9 n0 s.heap.size r0) args s 0 0 (z_A ad n0 s.heap.size)) (F0 m 47 ls []) := by
    intro x4 x5 h nn47
    induction nn47 with
    | zero => intro x6 x7 H locs ls hB hl vv47 hv kv47; exact absurd hv (fun q => y_lpN_0 q)
    | succ nn47 ih47 =>
      intro x6 x7 H locs ls hB hl vv47 hv kv47
      obtain ⟨w, hq, kw47⟩ := y_lpN_e hv
      clear hv
      have hv : fX7_readOrder_b47_i o0 o2 e3 x4 x5 h x6 x7 = some w := hq
      clear hq
      have b164 : ∀ (x6 : Int32) (x7 : Int32) (H : Heap) (locs : List Loc) (ls : Array Slot), z_B G ad n0 s h H locs → lv_has ls 10 [(0, .ref (ad o0)), (2, .ref (ad o2)), (3, .ref (G.2.2.2.1 e3)), (4, .int x4), (5, .int x5), (6, .int x6), (7, .int x7)] → ∀ w, fX7_readOrder_b164 o0 o2 e3 x4 x5 x6 x7 h = some w → y_lq (fun q : Int32 × Int32 => fX7_readOrder_b47_i o0 o2 e3 x4 x5 h q.1 q.2) nn47 vv47 w → W p l e rm_X7_readOrder s m args below meth c H locs 0 0 (MQ below (z_Qi G ad h9 n0 s.heap.size r0) args s 0 0 (z_A ad n0 s.heap.size)) (F0 m 164 ls []) := by
        intro x6 x7 H locs ls hB hl w hv kw47
        obtain ⟨v1, ev1, hv⟩ := y_nm_e hv
        refine lv_iinc (v := v1) (lv' := [(7, .int v1), (0, .ref (ad o0)), (2, .ref (ad o2)), (3, .ref (G.2.2.2.1 e3)), (4, .int x4), (5, .int x5), (6, .int x6)]) hx hb dX7_readOrder_164 hl (k := 6) rfl (by rw [ev1]; rfl) (by decide) rfl (fun ls hl => ?_)
        refine lv_goto (tgt := 47) hx hb dX7_readOrder_167 (by decide) ?_
        replace hv := Option.some.inj hv
        subst hv
        exact ih47 x6 v1 _ _ _ hB (lv_sub hl [1, 2, 3, 4, 5, 6, 0] rfl) _ kw47 kv47
      have b148 : ∀ (x6 : Int32) (x7 : Int32) (s0 : Int32) (H : Heap) (locs : List Loc) (ls : Array Slot), z_B G ad n0 s h H locs → lv_has ls 10 [(0, .ref (ad o0)), (2, .ref (ad o2)), (3, .ref (G.2.2.2.1 e3)), (4, .int x4), (5, .int x5), (6, .int x6), (7, .int x7)] → ∀ w, fX7_readOrder_b148 o0 o2 e3 x4 x5 x6 x7 s0 h = some w → y_lq (fun q : Int32 × Int32 => fX7_readOrder_b47_i o0 o2 e3 x4 x5 h q.1 q.2) nn47 vv47 w → W p l e rm_X7_readOrder s m args below meth c H locs 0 0 (MQ below (z_Qi G ad h9 n0 s.heap.size r0) args s 0 0 (z_A ad n0 s.heap.size)) (F0 m 148 ls [.int s0]) := by
        intro x6 x7 s0 H locs ls hB hl w hv kw47
        refine lv_istore (lv' := [(9, .int s0), (0, .ref (ad o0)), (2, .ref (ad o2)), (3, .ref (G.2.2.2.1 e3)), (4, .int x4), (5, .int x5), (6, .int x6), (7, .int x7)]) hx hb dX7_readOrder_148 hl (by decide) rfl (fun ls hl => ?_)
        refine lv_iload hx hb dX7_readOrder_150 (lv_at hl 0 rfl) ?_
        refine lv_if_eq (tgt := 164) hx hb dX7_readOrder_152 (by decide) (fun c2 => ?_) (fun c2 => ?_)
        · replace hv := y_br_t hv c2
          exact b164 x6 x7 _ _ _ hB (lv_sub hl [1, 2, 3, 4, 5, 6, 7] rfl) _ hv kw47
        · replace hv := y_br_f hv c2
          refine lv_iload hx hb dX7_readOrder_155 (lv_at hl 6 rfl) ?_
          refine lv_iconst (v := (1 : Int32)) hx hb dX7_readOrder_157 (by decide) ?_
          refine lv_iload hx hb dX7_readOrder_158 (lv_at hl 7 rfl) ?_
          refine lv_ishl hx hb dX7_readOrder_160 ?_
          refine lv_ior hx hb dX7_readOrder_161 ?_
          obtain ⟨v3, ev3, hv⟩ := y_nm_e hv
          rw [← ev3]
          refine lv_istore (lv' := [(6, .int v3), (9, .int s0), (0, .ref (ad o0)), (2, .ref (ad o2)), (3, .ref (G.2.2.2.1 e3)), (4, .int x4), (5, .int x5), (7, .int x7)]) hx hb dX7_readOrder_162 hl (by decide) rfl (fun ls hl => ?_)
          exact b164 v3 x7 _ _ _ hB (lv_sub hl [2, 3, 4, 5, 6, 0, 7] rfl) _ hv kw47
      have b90 : ∀ (x6 : Int32) (x7 : Int32) (s0 : Int32) (H : Heap) (locs : List Loc) (ls : Array Slot), z_B G ad n0 s h H locs → lv_has ls 10 [(0, .ref (ad o0)), (2, .ref (ad o2)), (3, .ref (G.2.2.2.1 e3)), (4, .int x4), (5, .int x5), (6, .int x6), (7, .int x7)] → ∀ w, fX7_readOrder_b90 o0 o2 e3 x4 x5 x6 x7 s0 h = some w → y_lq (fun q : Int32 × Int32 => fX7_readOrder_b47_i o0 o2 e3 x4 x5 h q.1 q.2) nn47 vv47 w → W p l e rm_X7_readOrder s m args below meth c H locs 0 0 (MQ below (z_Qi G ad h9 n0 s.heap.size r0) args s 0 0 (z_A ad n0 s.heap.size)) (F0 m 90 ls [.int s0]) := by
        intro x6 x7 s0 H locs ls hB hl w hv kw47
        refine lv_istore (lv' := [(8, .int s0), (0, .ref (ad o0)), (2, .ref (ad o2)), (3, .ref (G.2.2.2.1 e3)), (4, .int x4), (5, .int x5), (6, .int x6), (7, .int x7)]) hx hb dX7_readOrder_90 hl (by decide) rfl (fun ls hl => ?_)
        refine lv_iload hx hb dX7_readOrder_92 (lv_at hl 4 rfl) ?_
        refine lv_bipush (v := (60 : Int32)) hx hb dX7_readOrder_94 (by decide) ?_
        refine lv_icmp_ne (tgt := 114) hx hb dX7_readOrder_96 (by decide) (fun c4 => ?_) (fun c4 => ?_)
        · replace hv := y_br_f hv c4
          refine lv_iload hx hb dX7_readOrder_114 (lv_at hl 4 rfl) ?_
          refine lv_bipush (v := (62 : Int32)) hx hb dX7_readOrder_116 (by decide) ?_
          refine lv_icmp_ne (tgt := 136) hx hb dX7_readOrder_118 (by decide) (fun c5 => ?_) (fun c5 => ?_)
          · replace hv := y_br_f hv c5
            refine lv_iload hx hb dX7_readOrder_136 (lv_at hl 0 rfl) ?_
            refine lv_iload hx hb dX7_readOrder_138 (lv_at hl 5 rfl) ?_
            refine lv_icmp_ne (tgt := 147) hx hb dX7_readOrder_140 (by decide) (fun c6 => ?_) (fun c6 => ?_)
            · replace hv := y_br_f hv c6
              refine lv_iconst (v := (0 : Int32)) hx hb dX7_readOrder_147 (by decide) ?_
              exact b148 x6 x7 (0 : Int32) _ _ _ hB (lv_sub hl [1, 2, 3, 4, 5, 6, 7] rfl) _ hv kw47
            · replace hv := y_br_t hv c6
              refine lv_iconst (v := (1 : Int32)) hx hb dX7_readOrder_143 (by decide) ?_
              refine lv_goto (tgt := 148) hx hb dX7_readOrder_144 (by decide) ?_
              exact b148 x6 x7 (1 : Int32) _ _ _ hB (lv_sub hl [1, 2, 3, 4, 5, 6, 7] rfl) _ hv kw47
          · replace hv := y_br_t hv c5
            refine lv_iload hx hb dX7_readOrder_121 (lv_at hl 0 rfl) ?_
            refine lv_iload hx hb dX7_readOrder_123 (lv_at hl 5 rfl) ?_
            refine lv_icmp_le (tgt := 132) hx hb dX7_readOrder_125 (by decide) (fun c7 => ?_) (fun c7 => ?_)
            · replace hv := y_br_t hv c7
              refine lv_iconst (v := (0 : Int32)) hx hb dX7_readOrder_132 (by decide) ?_
              refine lv_goto (tgt := 148) hx hb dX7_readOrder_133 (by decide) ?_
              exact b148 x6 x7 (0 : Int32) _ _ _ hB (lv_sub hl [1, 2, 3, 4, 5, 6, 7] rfl) _ hv kw47
            · replace hv := y_br_f hv c7
              refine lv_iconst (v := (1 : Int32)) hx hb dX7_readOrder_128 (by decide) ?_
              refine lv_goto (tgt := 148) hx hb dX7_readOrder_129 (by decide) ?_
              exact b148 x6 x7 (1 : Int32) _ _ _ hB (lv_sub hl [1, 2, 3, 4, 5, 6, 7] rfl) _ hv kw47
        · replace hv := y_br_t hv c4
          refine lv_iload hx hb dX7_readOrder_99 (lv_at hl 0 rfl) ?_
          refine lv_iload hx hb dX7_readOrder_101 (lv_at hl 5 rfl) ?_
          refine lv_icmp_ge (tgt := 110) hx hb dX7_readOrder_103 (by decide) (fun c8 => ?_) (fun c8 => ?_)
          · replace hv := y_br_t hv c8
            refine lv_iconst (v := (0 : Int32)) hx hb dX7_readOrder_110 (by decide) ?_
            refine lv_goto (tgt := 148) hx hb dX7_readOrder_111 (by decide) ?_
            exact b148 x6 x7 (0 : Int32) _ _ _ hB (lv_sub hl [1, 2, 3, 4, 5, 6, 7] rfl) _ hv kw47
          · replace hv := y_br_f hv c8
            refine lv_iconst (v := (1 : Int32)) hx hb dX7_readOrder_106 (by decide) ?_
            refine lv_goto (tgt := 148) hx hb dX7_readOrder_107 (by decide) ?_
            exact b148 x6 x7 (1 : Int32) _ _ _ hB (lv_sub hl [1, 2, 3, 4, 5, 6, 7] rfl) _ hv kw47
      refine lv_iload hx hb dX7_readOrder_47 (lv_at hl 6 rfl) ?_
      refine lv_aload_n hx hb dX7_readOrder_49 rfl (lv_at hl 1 rfl) ?_
      obtain ⟨g9, hv⟩ := y_gd_e hv
      refine z_getI hc hB 0 1 g9 (by decide) (by decide) rfl (z_l2 hc qfX7_127) dX7_readOrder_50 ?_
      refine lv_icmp_ge (tgt := 170) hx hb dX7_readOrder_53 (by decide) (fun c10 => ?_) (fun c10 => ?_)
      · replace hv := y_br_t hv c10
        obtain ⟨t11, hq, ew⟩ := y_mp_e hv
        clear hv; subst ew
        replace kw47 : t11 = _ := kw47
        subst kw47
        have hv := hq
        clear hq
        refine lv_aload_n hx hb dX7_readOrder_170 rfl (lv_at hl 0 rfl) ?_
        refine lv_iconst (v := (0 : Int32)) hx hb dX7_readOrder_171 (by decide) ?_
        refine lv_iload hx hb dX7_readOrder_172 (lv_at hl 5 rfl) ?_
        obtain ⟨g18, hv⟩ := y_gd_e hv
        obtain ⟨⟨r13, h17⟩, c12, hv⟩ := y_bi_e hv
        refine z_thI hc hB (z_runV hc hB 7 (mm_X7_put hSK l ad o0 (0 : Int32) x6 h c12) md_X7_put qmX7_47 g18 (by decide) rfl rfl rfl ⟨Nat.le_of_ble_eq_true rfl, Nat.le_of_ble_eq_true rfl⟩ rfl hl.1 rfl (Nat.le_of_ble_eq_true rfl) dX7_readOrder_174 ⟨Nat.le_of_ble_eq_true rfl, Nat.le_of_ble_eq_true rfl⟩) (fun H locs hB => ?_)
        obtain ⟨y19, hv⟩ := y_gd_e hv
        replace hv := Option.some.inj hv
        subst hv
        obtain ⟨e1, e2⟩ := y_pr kv47
        rw [← e1, ← e2]
        exact z_zret hc hB hr (y_b_n y19) dX7_readOrder_177
      · replace hv := y_br_f hv c10
        refine lv_aload_n hx hb dX7_readOrder_56 rfl (lv_at hl 2 rfl) ?_
        refine z_gets hc hB (hc.2.1.2.2.2.1.1 20 (by decide)) qfX7_103 dX7_readOrder_57 ?_
        obtain ⟨g20, hv⟩ := y_gd_e hv
        refine z_acmpN (tgt := 72) hc (z_lt g20) (by decide) dX7_readOrder_60 (by decide) (fun c21 => ?_) (fun c21 => ?_)
        · replace hv := y_br_f hv c21
          refine lv_aload_n hx hb dX7_readOrder_72 rfl (lv_at hl 2 rfl) ?_
          refine z_gets hc hB (hc.2.1.2.2.2.1.1 21 (by decide)) qfX7_106 dX7_readOrder_73 ?_
          refine z_acmpN (tgt := 88) hc (z_lt g20) (by decide) dX7_readOrder_76 (by decide) (fun c22 => ?_) (fun c22 => ?_)
          · replace hv := y_br_f hv c22
            refine lv_iload hx hb dX7_readOrder_88 (lv_at hl 6 rfl) ?_
            exact b90 x6 x7 x7 _ _ _ hB (lv_sub hl [0, 1, 2, 3, 4, 5, 6] rfl) _ hv kw47
          · replace hv := y_br_t hv c22
            refine lv_aload_n hx hb dX7_readOrder_79 rfl (lv_at hl 1 rfl) ?_
            refine lv_iload hx hb dX7_readOrder_80 (lv_at hl 6 rfl) ?_
            obtain ⟨r24, c23, hv⟩ := y_bi_e hv
            refine z_thI hc hB (z_runV hc hB 0 (mm_X0_inDream hSK l ad o2 x7 h c23) md_X0_inDream qmX7_133 g9 (by decide) rfl rfl rfl ⟨Nat.le_of_ble_eq_true rfl, Nat.le_of_ble_eq_true rfl⟩ rfl hl.1 rfl (Nat.le_of_ble_eq_true rfl) dX7_readOrder_82 ⟨Nat.le_of_ble_eq_true rfl, Nat.le_of_ble_eq_true rfl⟩) (fun H locs hB => ?_)
            refine lv_goto (tgt := 90) hx hb dX7_readOrder_85 (by decide) ?_
            exact b90 x6 x7 r24 _ _ _ hB (lv_sub hl [0, 1, 2, 3, 4, 5, 6] rfl) _ hv kw47
        · replace hv := y_br_t hv c21
          refine lv_aload_n hx hb dX7_readOrder_63 rfl (lv_at hl 1 rfl) ?_
          refine lv_iload hx hb dX7_readOrder_64 (lv_at hl 6 rfl) ?_
          obtain ⟨r29, c28, hv⟩ := y_bi_e hv
          refine z_thI hc hB (z_runV hc hB 0 (mm_X0_inRoom hSK l ad o2 x7 h c28) md_X0_inRoom qmX7_130 g9 (by decide) rfl rfl rfl ⟨Nat.le_of_ble_eq_true rfl, Nat.le_of_ble_eq_true rfl⟩ rfl hl.1 rfl (Nat.le_of_ble_eq_true rfl) dX7_readOrder_66 ⟨Nat.le_of_ble_eq_true rfl, Nat.le_of_ble_eq_true rfl⟩) (fun H locs hB => ?_)
          refine lv_goto (tgt := 90) hx hb dX7_readOrder_69 (by decide) ?_
          exact b90 x6 x7 r29 _ _ _ hB (lv_sub hl [0, 1, 2, 3, 4, 5, 6] rfl) _ hv kw47
  rw [← kt] at hv
  refine lv_aload_n hx hb dX7_readOrder_0 rfl (lv_at hl 1 rfl) ?_
  obtain ⟨g33, hv⟩ := y_gd_e hv
  refine z_getI hc hB 6 4 g33 (by decide) (by decide) rfl (z_l2 hc qfX7_60) dX7_readOrder_1 ?_
  obtain ⟨v34, ev34, hv⟩ := y_nm_e hv
  rw [← ev34]
  refine lv_istore (lv' := [(4, .int v34), (0, .ref (ad o0)), (1, .ref (ad o1)), (2, .ref (ad o2)), (3, .ref (G.2.2.2.1 e3))]) hx hb dX7_readOrder_4 hl (by decide) rfl (fun ls hl => ?_)
  refine lv_iload hx hb dX7_readOrder_6 (lv_at hl 0 rfl) ?_
  obtain ⟨r36, c35, hv⟩ := y_bi_e hv
  refine z_thI hc hB (z_runS hc hB (mm_X6_isOrder hSK l ad v34 h c35) md_X6_isOrder qmX7_120 rfl rfl ⟨Nat.le_of_ble_eq_true rfl, Nat.le_of_ble_eq_true rfl⟩ rfl hl.1 rfl (Nat.le_of_ble_eq_true rfl) dX7_readOrder_8 ⟨Nat.le_of_ble_eq_true rfl, Nat.le_of_ble_eq_true rfl⟩) (fun H locs hB => ?_)
  refine lv_if_ne (tgt := 20) hx hb dX7_readOrder_11 (by decide) (fun c40 => ?_) (fun c40 => ?_)
  · replace hv := y_br_f hv c40
    refine lv_aload_n hx hb dX7_readOrder_20 rfl (lv_at hl 2 rfl) ?_
    obtain ⟨h42, c41, hv⟩ := y_bi_e hv
    refine z_thV hc hB (z_runV hc hB 6 (mm_X6_advance hSK l ad o1 h c41) md_X6_advance qmX7_44 g33 (by decide) rfl rfl rfl ⟨Nat.le_of_ble_eq_true rfl, Nat.le_of_ble_eq_true rfl⟩ rfl hl.1 rfl (Nat.le_of_ble_eq_true rfl) dX7_readOrder_21 ⟨Nat.le_of_ble_eq_true rfl, Nat.le_of_ble_eq_true rfl⟩) (fun H locs hB => ?_)
    refine lv_aload_n hx hb dX7_readOrder_24 rfl (lv_at hl 2 rfl) ?_
    refine lv_iconst (v := (0 : Int32)) hx hb dX7_readOrder_25 (by decide) ?_
    refine lv_bipush (v := (99 : Int32)) hx hb dX7_readOrder_26 (by decide) ?_
    obtain ⟨g49, hv⟩ := y_gd_e hv
    obtain ⟨⟨r44, h48⟩, c43, hv⟩ := y_bi_e hv
    refine z_thI hc hB (z_runV hc hB 6 (mm_X6_takeNumber hSK l ad o1 (0 : Int32) (99 : Int32) h42 c43) md_X6_takeNumber qmX7_123 g49 (by decide) rfl rfl rfl ⟨Nat.le_of_ble_eq_true rfl, Nat.le_of_ble_eq_true rfl⟩ rfl hl.1 rfl (Nat.le_of_ble_eq_true rfl) dX7_readOrder_28 ⟨Nat.le_of_ble_eq_true rfl, Nat.le_of_ble_eq_true rfl⟩) (fun H locs hB => ?_)
    refine lv_istore (lv' := [(5, .int r44), (4, .int v34), (0, .ref (ad o0)), (1, .ref (ad o1)), (2, .ref (ad o2)), (3, .ref (G.2.2.2.1 e3))]) hx hb dX7_readOrder_31 hl (by decide) rfl (fun ls hl => ?_)
    refine lv_iload hx hb dX7_readOrder_33 (lv_at hl 0 rfl) ?_
    refine lv_iconst (v := (-1 : Int32)) hx hb dX7_readOrder_35 (by decide) ?_
    refine lv_icmp_ne (tgt := 41) hx hb dX7_readOrder_36 (by decide) (fun c50 => ?_) (fun c50 => ?_)
    · replace hv := y_br_f hv c50
      refine lv_iconst (v := (0 : Int32)) hx hb dX7_readOrder_41 (by decide) ?_
      refine lv_istore (lv' := [(6, .int (0 : Int32)), (5, .int r44), (4, .int v34), (0, .ref (ad o0)), (1, .ref (ad o1)), (2, .ref (ad o2)), (3, .ref (G.2.2.2.1 e3))]) hx hb dX7_readOrder_42 hl (by decide) rfl (fun ls hl => ?_)
      refine lv_iconst (v := (0 : Int32)) hx hb dX7_readOrder_44 (by decide) ?_
      refine lv_istore (lv' := [(7, .int (0 : Int32)), (6, .int (0 : Int32)), (5, .int r44), (4, .int v34), (0, .ref (ad o0)), (1, .ref (ad o1)), (2, .ref (ad o2)), (3, .ref (G.2.2.2.1 e3))]) hx hb dX7_readOrder_45 hl (by decide) rfl (fun ls hl => ?_)
      obtain ⟨n, hv⟩ := y_lp_e hv
      exact L47 v34 r44 h48 n (0 : Int32) (0 : Int32) _ _ _ hB (lv_sub hl [4, 6, 7, 3, 2, 1, 0] rfl) _ hv kt
    · replace hv := y_br_t hv c50
      refine lv_iconst (v := (0 : Int32)) hx hb dX7_readOrder_39 (by decide) ?_
      replace hv := Option.some.inj hv
      subst hv
      obtain ⟨e1, e2⟩ := y_pr kt
      rw [← e1, ← e2]
      exact z_zret hc hB hr rfl dX7_readOrder_40
  · replace hv := y_br_t hv c40
    refine lv_aload_n hx hb dX7_readOrder_14 rfl (lv_at hl 2 rfl) ?_
    refine lv_iconst (v := (1 : Int32)) hx hb dX7_readOrder_15 (by decide) ?_
    obtain ⟨⟨r52, h56⟩, c51, hv⟩ := y_bi_e hv
    refine z_thI hc hB (z_runV hc hB 6 (mm_X6_fail hSK l ad o1 (1 : Int32) h c51) md_X6_fail qmX7_67 g33 (by decide) rfl rfl rfl ⟨Nat.le_of_ble_eq_true rfl, Nat.le_of_ble_eq_true rfl⟩ rfl hl.1 rfl (Nat.le_of_ble_eq_true rfl) dX7_readOrder_16 ⟨Nat.le_of_ble_eq_true rfl, Nat.le_of_ble_eq_true rfl⟩) (fun H locs hB => ?_)
    obtain ⟨y57, hv⟩ := y_gd_e hv
    replace hv := Option.some.inj hv
    subst hv
    obtain ⟨e1, e2⟩ := y_pr kt
    rw [← e1, ← e2]
    exact z_zret hc hB hr (y_b_n y57) dX7_readOrder_19
theorem qfX7_54 : Cond.fieldLink RX7 54 "DreamTests$Word" "AND" "LDreamTests$Word;" ∈ z_ws := List.mem_filter.mpr ⟨List.mem_append_right _ (List.mem_of_getElem? (i := 1030) (by decide +kernel)), rfl⟩
theorem qmX7_40 : Cond.methodLink RX7 40 yX6_isAt ∈ z_ws := List.mem_filter.mpr ⟨List.mem_append_right _ (List.mem_of_getElem? (i := 1032) (by decide +kernel)), rfl⟩
theorem qmX7_51 : Cond.methodLink RX7 51 yX7_readOne ∈ z_ws := List.mem_filter.mpr ⟨List.mem_append_right _ (List.mem_of_getElem? (i := 985) (by decide +kernel)), rfl⟩
theorem qc_X7_readOne : Cond.code yX7_readOne cX7_readOne 6 (some .boolean) ∈ z_ws := List.mem_filter.mpr ⟨List.mem_append_right _ (List.mem_of_getElem? (i := 988) (by decide +kernel)), rfl⟩
theorem qi_X7_readOne : Cond.instanceMethod yX7_readOne ∈ z_ws := List.mem_filter.mpr ⟨List.mem_append_right _ (List.mem_of_getElem? (i := 987) (by decide +kernel)), rfl⟩
theorem qs_X7_readOne : Cond.selects RX7 yX7_readOne yX7_readOne ∈ z_ws := List.mem_filter.mpr ⟨List.mem_append_left _ (List.mem_of_getElem? (i := 25) (by decide +kernel)), rfl⟩
theorem md_X7_readOne : z_mdV yX7_readOne cX7_readOne 6 (some .boolean) 3 := ⟨⟨qn_RX7, qc_X7_readOne, ⟨by decide +kernel, by decide +kernel, by decide +kernel⟩⟩, qi_X7_readOne, qs_X7_readOne⟩
theorem qfX7_34 : Cond.fieldLink RX7 34 "DreamTests$Word" "OR" "LDreamTests$Word;" ∈ z_ws := List.mem_filter.mpr ⟨List.mem_append_right _ (List.mem_of_getElem? (i := 1033) (by decide +kernel)), rfl⟩
theorem qmX7_31 : Cond.methodLink RX7 31 yX7_readAll ∈ z_ws := List.mem_filter.mpr ⟨List.mem_append_right _ (List.mem_of_getElem? (i := 981) (by decide +kernel)), rfl⟩
theorem qc_X7_readAll : Cond.code yX7_readAll cX7_readAll 6 (some .boolean) ∈ z_ws := List.mem_filter.mpr ⟨List.mem_append_right _ (List.mem_of_getElem? (i := 984) (by decide +kernel)), rfl⟩
theorem qi_X7_readAll : Cond.instanceMethod yX7_readAll ∈ z_ws := List.mem_filter.mpr ⟨List.mem_append_right _ (List.mem_of_getElem? (i := 983) (by decide +kernel)), rfl⟩
theorem qs_X7_readAll : Cond.selects RX7 yX7_readAll yX7_readAll ∈ z_ws := List.mem_filter.mpr ⟨List.mem_append_left _ (List.mem_of_getElem? (i := 24) (by decide +kernel)), rfl⟩
theorem md_X7_readAll : z_mdV yX7_readAll cX7_readAll 6 (some .boolean) 3 := ⟨⟨qn_RX7, qc_X7_readAll, ⟨by decide +kernel, by decide +kernel, by decide +kernel⟩⟩, qi_X7_readAll, qs_X7_readAll⟩
theorem qfX7_71 : Cond.fieldLink RX7 71 "DreamTests$Sentence" "ones" "I" ∈ z_ws := List.mem_filter.mpr ⟨List.mem_append_right _ (List.mem_of_getElem? (i := 960) (by decide +kernel)), rfl⟩
theorem qmX7_99 : Cond.methodLink RX7 99 yX7_readOrder ∈ z_ws := List.mem_filter.mpr ⟨List.mem_append_right _ (List.mem_of_getElem? (i := 1020) (by decide +kernel)), rfl⟩
theorem qc_X7_readOrder : Cond.code yX7_readOrder cX7_readOrder 10 (some .boolean) ∈ z_ws := List.mem_filter.mpr ⟨List.mem_append_right _ (List.mem_of_getElem? (i := 1023) (by decide +kernel)), rfl⟩
theorem qi_X7_readOrder : Cond.instanceMethod yX7_readOrder ∈ z_ws := List.mem_filter.mpr ⟨List.mem_append_right _ (List.mem_of_getElem? (i := 1022) (by decide +kernel)), rfl⟩
theorem qs_X7_readOrder : Cond.selects RX7 yX7_readOrder yX7_readOrder ∈ z_ws := List.mem_filter.mpr ⟨List.mem_append_left _ (List.mem_of_getElem? (i := 28) (by decide +kernel)), rfl⟩
theorem md_X7_readOrder : z_mdV yX7_readOrder cX7_readOrder 10 (some .boolean) 3 := ⟨⟨qn_RX7, qc_X7_readOrder, ⟨by decide +kernel, by decide +kernel, by decide +kernel⟩⟩, qi_X7_readOrder, qs_X7_readOrder⟩
theorem qmX7_95 : Cond.methodLink RX7 95 yX7_readKept ∈ z_ws := List.mem_filter.mpr ⟨List.mem_append_right _ (List.mem_of_getElem? (i := 1014) (by decide +kernel)), rfl⟩
theorem qc_X7_readKept : Cond.code yX7_readKept cX7_readKept 4 (some .boolean) ∈ z_ws := List.mem_filter.mpr ⟨List.mem_append_right _ (List.mem_of_getElem? (i := 1017) (by decide +kernel)), rfl⟩
theorem qi_X7_readKept : Cond.instanceMethod yX7_readKept ∈ z_ws := List.mem_filter.mpr ⟨List.mem_append_right _ (List.mem_of_getElem? (i := 1016) (by decide +kernel)), rfl⟩
theorem qs_X7_readKept : Cond.selects RX7 yX7_readKept yX7_readKept ∈ z_ws := List.mem_filter.mpr ⟨List.mem_append_left _ (List.mem_of_getElem? (i := 27) (by decide +kernel)), rfl⟩
theorem md_X7_readKept : z_mdV yX7_readKept cX7_readKept 4 (some .boolean) 2 := ⟨⟨qn_RX7, qc_X7_readKept, ⟨by decide +kernel, by decide +kernel, by decide +kernel⟩⟩, qi_X7_readKept, qs_X7_readKept⟩
theorem qmX7_83 : Cond.methodLink RX7 83 yX0_goodTests ∈ z_ws := List.mem_filter.mpr ⟨List.mem_append_right _ (List.mem_of_getElem? (i := 1013) (by decide +kernel)), rfl⟩
theorem qc_X0_goodTests : Cond.code yX0_goodTests cX0_goodTests 3 (some .int) ∈ z_ws := List.mem_filter.mpr ⟨List.mem_append_right _ (List.mem_of_getElem? (i := 610) (by decide +kernel)), rfl⟩
theorem qi_X0_goodTests : Cond.instanceMethod yX0_goodTests ∈ z_ws := List.mem_filter.mpr ⟨List.mem_append_right _ (List.mem_of_getElem? (i := 608) (by decide +kernel)), rfl⟩
theorem qs_X0_goodTests : Cond.selects RX0 yX0_goodTests yX0_goodTests ∈ z_ws := List.mem_filter.mpr ⟨List.mem_append_right _ (List.mem_of_getElem? (i := 609) (by decide +kernel)), rfl⟩
theorem md_X0_goodTests : z_mdV yX0_goodTests cX0_goodTests 3 (some .int) 0 := ⟨⟨qn_RX0, qc_X0_goodTests, ⟨by decide +kernel, by decide +kernel, by decide +kernel⟩⟩, qi_X0_goodTests, qs_X0_goodTests⟩
theorem qmX7_21 : Cond.methodLink RX7 21 yX7_readCond ∈ z_ws := List.mem_filter.mpr ⟨List.mem_append_right _ (List.mem_of_getElem? (i := 977) (by decide +kernel)), rfl⟩
theorem qc_X7_readCond : Cond.code yX7_readCond cX7_readCond 6 (some .boolean) ∈ z_ws := List.mem_filter.mpr ⟨List.mem_append_right _ (List.mem_of_getElem? (i := 980) (by decide +kernel)), rfl⟩
theorem qi_X7_readCond : Cond.instanceMethod yX7_readCond ∈ z_ws := List.mem_filter.mpr ⟨List.mem_append_right _ (List.mem_of_getElem? (i := 979) (by decide +kernel)), rfl⟩
theorem qs_X7_readCond : Cond.selects RX7 yX7_readCond yX7_readCond ∈ z_ws := List.mem_filter.mpr ⟨List.mem_append_left _ (List.mem_of_getElem? (i := 23) (by decide +kernel)), rfl⟩
theorem md_X7_readCond : z_mdV yX7_readCond cX7_readCond 6 (some .boolean) 3 := ⟨⟨qn_RX7, qc_X7_readCond, ⟨by decide +kernel, by decide +kernel, by decide +kernel⟩⟩, qi_X7_readCond, qs_X7_readCond⟩
theorem qmX7_74 : Cond.methodLink RX7 74 yX6_take ∈ z_ws := List.mem_filter.mpr ⟨List.mem_append_right _ (List.mem_of_getElem? (i := 1008) (by decide +kernel)), rfl⟩
theorem qmX7_64 : Cond.methodLink RX7 64 yX7_beginsOne ∈ z_ws := List.mem_filter.mpr ⟨List.mem_append_right _ (List.mem_of_getElem? (i := 989) (by decide +kernel)), rfl⟩
theorem qc_X7_beginsOne : Cond.code yX7_beginsOne cX7_beginsOne 1 (some .boolean) ∈ z_ws := List.mem_filter.mpr ⟨List.mem_append_right _ (List.mem_of_getElem? (i := 991) (by decide +kernel)), rfl⟩
theorem qs_X7_beginsOne : Cond.static yX7_beginsOne ∈ z_ws := List.mem_filter.mpr ⟨List.mem_append_right _ (List.mem_of_getElem? (i := 990) (by decide +kernel)), rfl⟩
theorem md_X7_beginsOne : z_mdS yX7_beginsOne cX7_beginsOne 1 (some .boolean) 1 := ⟨⟨qn_RX7, qc_X7_beginsOne, ⟨by decide +kernel, by decide +kernel, by decide +kernel⟩⟩, qs_X7_beginsOne⟩
theorem qfX7_57 : Cond.fieldLinkNest RX7 57 "DreamTests$Reader" "word" "LDreamTests$Word;" "DreamTests" ∈ z_nw := List.mem_filter.mpr ⟨List.mem_of_getElem? (i := 120) (by decide +kernel), rfl⟩
abbrev rm_X7_readAll (d : Nat) : Room := { frames := 3 * d + 9, cells := 0, slots := 0, locals := 75 * d + 221 }
abbrev rm_X7_readCond (d : Nat) : Room := { frames := 3 * d + 10, cells := 0, slots := 0, locals := 75 * d + 246 }
abbrev rm_X7_readOne (d : Nat) : Room := { frames := 3 * d + 8, cells := 0, slots := 0, locals := 75 * d + 196 }
theorem dX7_readAll_0 : decode cX7_readAll 0 = .ok (.aload_n 0, 1) := by decide +kernel
theorem dX7_readAll_1 : decode cX7_readAll 1 = .ok (.aload_n 1, 1) := by decide +kernel
theorem dX7_readAll_2 : decode cX7_readAll 2 = .ok (.aload_n 2, 1) := by decide +kernel
theorem dX7_readAll_3 : decode cX7_readAll 3 = .ok (.iload_n 3, 1) := by decide +kernel
theorem dX7_readAll_4 : decode cX7_readAll 4 = .ok (.invokevirtual 51, 3) := by decide +kernel
theorem dX7_readAll_7 : decode cX7_readAll 7 = .ok (.istore 4, 2) := by decide +kernel
theorem dX7_readAll_9 : decode cX7_readAll 9 = .ok (.iconst 0, 1) := by decide +kernel
theorem dX7_readAll_10 : decode cX7_readAll 10 = .ok (.istore 5, 2) := by decide +kernel
theorem dX7_readAll_12 : decode cX7_readAll 12 = .ok (.iload 5, 2) := by decide +kernel
theorem dX7_readAll_14 : decode cX7_readAll 14 = .ok (.bipush 20, 2) := by decide +kernel
theorem dX7_readAll_16 : decode cX7_readAll 16 = .ok (.if_icmp .ge 54, 3) := by decide +kernel
theorem dX7_readAll_19 : decode cX7_readAll 19 = .ok (.iload 4, 2) := by decide +kernel
theorem dX7_readAll_21 : decode cX7_readAll 21 = .ok (.ifCond .eq 49, 3) := by decide +kernel
theorem dX7_readAll_24 : decode cX7_readAll 24 = .ok (.aload_n 1, 1) := by decide +kernel
theorem dX7_readAll_25 : decode cX7_readAll 25 = .ok (.getstatic 54, 3) := by decide +kernel
theorem dX7_readAll_28 : decode cX7_readAll 28 = .ok (.invokevirtual 40, 3) := by decide +kernel
theorem dX7_readAll_31 : decode cX7_readAll 31 = .ok (.ifCond .eq 39, 3) := by decide +kernel
theorem dX7_readAll_34 : decode cX7_readAll 34 = .ok (.aload_n 1, 1) := by decide +kernel
theorem dX7_readAll_35 : decode cX7_readAll 35 = .ok (.invokevirtual 44, 3) := by decide +kernel
theorem dX7_readAll_38 : decode cX7_readAll 38 = .ok (.aload_n 0, 1) := by decide +kernel
theorem dX7_readAll_39 : decode cX7_readAll 39 = .ok (.aload_n 1, 1) := by decide +kernel
theorem dX7_readAll_40 : decode cX7_readAll 40 = .ok (.aload_n 2, 1) := by decide +kernel
theorem dX7_readAll_41 : decode cX7_readAll 41 = .ok (.iload_n 3, 1) := by decide +kernel
theorem dX7_readAll_42 : decode cX7_readAll 42 = .ok (.invokevirtual 51, 3) := by decide +kernel
theorem dX7_readAll_45 : decode cX7_readAll 45 = .ok (.ifCond .eq 16, 3) := by decide +kernel
theorem dX7_readAll_48 : decode cX7_readAll 48 = .ok (.aload_n 0, 1) := by decide +kernel
theorem dX7_readAll_49 : decode cX7_readAll 49 = .ok (.iconst 3, 1) := by decide +kernel
theorem dX7_readAll_50 : decode cX7_readAll 50 = .ok (.iconst 0, 1) := by decide +kernel
theorem dX7_readAll_51 : decode cX7_readAll 51 = .ok (.invokevirtual 47, 3) := by decide +kernel
theorem dX7_readAll_54 : decode cX7_readAll 54 = .ok (.ifCond .eq 7, 3) := by decide +kernel
theorem dX7_readAll_57 : decode cX7_readAll 57 = .ok (.iconst 1, 1) := by decide +kernel
theorem dX7_readAll_58 : decode cX7_readAll 58 = .ok (.goto 4, 3) := by decide +kernel
theorem dX7_readAll_61 : decode cX7_readAll 61 = .ok (.iconst 0, 1) := by decide +kernel
theorem dX7_readAll_62 : decode cX7_readAll 62 = .ok (.istore 4, 2) := by decide +kernel
theorem dX7_readAll_64 : decode cX7_readAll 64 = .ok (.iinc 5 1, 3) := by decide +kernel
theorem dX7_readAll_67 : decode cX7_readAll 67 = .ok (.goto (-55), 3) := by decide +kernel
theorem dX7_readAll_70 : decode cX7_readAll 70 = .ok (.iload 4, 2) := by decide +kernel
theorem dX7_readAll_72 : decode cX7_readAll 72 = .ok (.ireturn, 1) := by decide +kernel
noncomputable def fX7_readAll_b62 (rc : Nat → Nat → Nat → Int32 → z_T → Option (Int32 × z_T)) (o0 : Nat) (o1 : Nat) (o2 : Nat) (x3 : Int32) (x5 : Int32) (s0 : Int32) (h : z_T) : Option ((Int32 × Int32 × z_T) ⊕ (Int32 × z_T)) :=
  y_nm (x5 + 1) fun v1 =>
  some (.inl (s0, v1, h))
noncomputable def fX7_readAll_b61 (rc : Nat → Nat → Nat → Int32 → z_T → Option (Int32 × z_T)) (o0 : Nat) (o1 : Nat) (o2 : Nat) (x3 : Int32) (x5 : Int32) (h : z_T) : Option ((Int32 × Int32 × z_T) ⊕ (Int32 × z_T)) :=
  fX7_readAll_b62 rc o0 o1 o2 x3 x5 (0 : Int32) h
noncomputable def fX7_readAll_b12_i (rc : Nat → Nat → Nat → Int32 → z_T → Option (Int32 × z_T)) (o0 : Nat) (o1 : Nat) (o2 : Nat) (x3 : Int32) (x4 : Int32) (x5 : Int32) (h : z_T) : Option ((Int32 × Int32 × z_T) ⊕ (Int32 × z_T)) :=
  y_br ((20 : Int32) ≤ x5)
    (y_mp <|
    y_gd (y_b x4) <|
    some (x4, h))
    (y_br (x4 = 0)
      (y_mp <|
      y_gd (y_b x4) <|
      some (x4, h))
      (y_gd (z_ok h o1 6) <|
      y_bi (fX6_isAt o1 15 h) fun r9 =>
      y_br (r9 = 0)
        (y_mp <|
        y_gd (y_b x4) <|
        some (x4, h))
        (y_bi (fX6_advance o1 h) fun h18 =>
        y_gd (z_ok h18 o0 7) <|
        y_bi (rc o0 o1 o2 x3 h18) fun ⟨r20, h24⟩ =>
        y_br (r20 = 0)
          (fX7_readAll_b61 rc o0 o1 o2 x3 x5 h24)
          (y_gd (z_ok h24 o0 7) <|
          y_bi (fX7_put o0 (3 : Int32) (0 : Int32) h24) fun ⟨r28, h32⟩ =>
          y_br (r28 = 0)
            (fX7_readAll_b61 rc o0 o1 o2 x3 x5 h32)
            (fX7_readAll_b62 rc o0 o1 o2 x3 x5 (1 : Int32) h32)))))
noncomputable def fX7_readAll_b12 (rc : Nat → Nat → Nat → Int32 → z_T → Option (Int32 × z_T)) (o0 : Nat) (o1 : Nat) (o2 : Nat) (x3 : Int32) (x4 : Int32) (x5 : Int32) (h : z_T) : Option (Int32 × z_T) := y_lp (fun q : Int32 × Int32 × z_T => fX7_readAll_b12_i rc o0 o1 o2 x3 q.1 q.2.1 q.2.2) (x4, x5, h)
noncomputable def fX7_readAll (rc : Nat → Nat → Nat → Int32 → z_T → Option (Int32 × z_T)) (o0 : Nat) (o1 : Nat) (o2 : Nat) (x3 : Int32) (h : z_T) : Option (Int32 × z_T) :=
  y_gd (z_ok h o0 7) <|
  y_bi (rc o0 o1 o2 x3 h) fun ⟨r36, h40⟩ =>
  fX7_readAll_b12 rc o0 o1 o2 x3 r36 (0 : Int32) h40
set_option maxHeartbeats 4000000 in
set_option maxRecDepth 100000 in
theorem mh_X7_readAll {G : z_Gt} (hSK : z_SK (z_S G)) (l : Launch) (ad : Nat → Nat) (d : Nat) (rc : Nat → Nat → Nat → Int32 → z_T → Option (Int32 × z_T)) (hrc : ∀ (o0 : Nat) (o1 : Nat) (o2 : Nat) (x3 : Int32) (h : z_T) {r0 : Int32} {h9 : z_T}, rc o0 o1 o2 x3 h = some (r0, h9) → z_Mi G (z_S G) l yX7_readOne cX7_readOne 6 (.boolean) (rm_X7_readOne d) 0 0 [.ref (ad o0), .ref (ad o1), .ref (ad o2), .int x3] ad h h9 r0) (o0 : Nat) (o1 : Nat) (o2 : Nat) (x3 : Int32) (h : z_T) {r0 : Int32} {h9 : z_T} (hv : fX7_readAll rc o0 o1 o2 x3 h = some (r0, h9)) : z_Mi G (z_S G) l yX7_readAll cX7_readAll 6 (.boolean) (rm_X7_readAll d) 0 0 [.ref (ad o0), .ref (ad o1), .ref (ad o2), .int x3] ad h h9 r0 := by
  refine z_ofW hSK (by decide) (Nat.le_of_ble_eq_true rfl) ?_
  intro p e s m args below meth c ls hc hr hnm hB hl
  have hx := hc.1.1
  have hb := hc.1.2.1
  have hown := hc.1.2.2.2.1
  have hts := hc.1.2.2.2.2
  replace hc : z_C G (z_S G) ad (z_n h) p m c cX7_readAll 6 s args RX7 meth := hc
  replace hown : s.vm.findClass RX7 = some m.cls := hown
  replace hl : lv_has ls 6 [(0, .ref (ad o0)), (1, .ref (ad o1)), (2, .ref (ad o2)), (3, .int x3)] := hl
  show W p l e (rm_X7_readAll d) s m args below meth c s.heap [] 0 0 (MQ below (z_Qi G ad h9 (z_n h) s.heap.size r0) args s 0 0 (z_A ad (z_n h) s.heap.size)) (F0 m 0 ls [])
  obtain ⟨rs, kt⟩ : ∃ rs : Int32 × z_T, rs = (r0, h9) := ⟨_, rfl⟩
  generalize hn0 : z_n h = n0 at hc hB ⊢
  have L12 : ∀ (nn12 : Nat) (x4 : Int32) (x5 : Int32) (h : z_T) (H : Heap) (locs : List Loc) (ls : Array Slot), z_B G ad n0 s h H locs → lv_has ls 6 [(0, .ref (ad o0)), (1, .ref (ad o1)), (2, .ref (ad o2)), (3, .int x3), (4, .int x4), (5, .int x5)] → ∀ vv12, y_lpN (fun q : Int32 × Int32 × z_T => fX7_readAll_b12_i rc o0 o1 o2 x3 q.1 q.2.1 q.2.2) nn12 (x4, x5, h) = some vv12 → vv12 = (r0, h9) → W p l e (rm_X7_readAll d) s m args below meth c H locs 0 0 (MQ below (z_Qi G ad h9 n0 s.heap.size r0) args s 0 0 (z_A ad n0 s.heap.size)) (F0 m 12 ls []) := by
    intro nn12
    induction nn12 with
    | zero => intro x4 x5 h H locs ls hB hl vv12 hv kv12; exact absurd hv (fun q => y_lpN_0 q)
    | succ nn12 ih12 =>
      intro x4 x5 h H locs ls hB hl vv12 hv kv12
      obtain ⟨w, hq, kw12⟩ := y_lpN_e hv
      clear hv
      have hv : fX7_readAll_b12_i rc o0 o1 o2 x3 x4 x5 h = some w := hq
      clear hq
      have b62 : ∀ (x5 : Int32) (s0 : Int32) (h : z_T) (H : Heap) (locs : List Loc) (ls : Array Slot), z_B G ad n0 s h H locs → lv_has ls 6 [(0, .ref (ad o0)), (1, .ref (ad o1)), (2, .ref (ad o2)), (3, .int x3), (5, .int x5)] → ∀ w, fX7_readAll_b62 rc o0 o1 o2 x3 x5 s0 h = some w → y_lq (fun q : Int32 × Int32 × z_T => fX7_readAll_b12_i rc o0 o1 o2 x3 q.1 q.2.1 q.2.2) nn12 vv12 w → W p l e (rm_X7_readAll d) s m args below meth c H locs 0 0 (MQ below (z_Qi G ad h9 n0 s.heap.size r0) args s 0 0 (z_A ad n0 s.heap.size)) (F0 m 62 ls [.int s0]) := by
        intro x5 s0 h H locs ls hB hl w hv kw12
        refine lv_istore (lv' := [(4, .int s0), (0, .ref (ad o0)), (1, .ref (ad o1)), (2, .ref (ad o2)), (3, .int x3), (5, .int x5)]) hx hb dX7_readAll_62 hl (by decide) rfl (fun ls hl => ?_)
        obtain ⟨v1, ev1, hv⟩ := y_nm_e hv
        refine lv_iinc (v := v1) (lv' := [(5, .int v1), (4, .int s0), (0, .ref (ad o0)), (1, .ref (ad o1)), (2, .ref (ad o2)), (3, .int x3)]) hx hb dX7_readAll_64 hl (k := 5) rfl (by rw [ev1]; rfl) (by decide) rfl (fun ls hl => ?_)
        refine lv_goto (tgt := 12) hx hb dX7_readAll_67 (by decide) ?_
        replace hv := Option.some.inj hv
        subst hv
        exact ih12 s0 v1 h _ _ _ hB (lv_sub hl [2, 3, 4, 5, 1, 0] rfl) _ kw12 kv12
      have b61 : ∀ (x5 : Int32) (h : z_T) (H : Heap) (locs : List Loc) (ls : Array Slot), z_B G ad n0 s h H locs → lv_has ls 6 [(0, .ref (ad o0)), (1, .ref (ad o1)), (2, .ref (ad o2)), (3, .int x3), (5, .int x5)] → ∀ w, fX7_readAll_b61 rc o0 o1 o2 x3 x5 h = some w → y_lq (fun q : Int32 × Int32 × z_T => fX7_readAll_b12_i rc o0 o1 o2 x3 q.1 q.2.1 q.2.2) nn12 vv12 w → W p l e (rm_X7_readAll d) s m args below meth c H locs 0 0 (MQ below (z_Qi G ad h9 n0 s.heap.size r0) args s 0 0 (z_A ad n0 s.heap.size)) (F0 m 61 ls []) := by
        intro x5 h H locs ls hB hl w hv kw12
        refine lv_iconst (v := (0 : Int32)) hx hb dX7_readAll_61 (by decide) ?_
        exact b62 x5 (0 : Int32) h _ _ _ hB (lv_sub hl [0, 1, 2, 3, 4] rfl) _ hv kw12
      refine lv_iload hx hb dX7_readAll_12 (lv_at hl 5 rfl) ?_
      refine lv_bipush (v := (20 : Int32)) hx hb dX7_readAll_14 (by decide) ?_
      refine lv_icmp_ge (tgt := 70) hx hb dX7_readAll_16 (by decide) (fun c2 => ?_) (fun c2 => ?_)
      · replace hv := y_br_t hv c2
        obtain ⟨t3, hq, ew⟩ := y_mp_e hv
        clear hv; subst ew
        replace kw12 : t3 = _ := kw12
        subst kw12
        have hv := hq
        clear hq
        refine lv_iload hx hb dX7_readAll_70 (lv_at hl 4 rfl) ?_
        obtain ⟨y4, hv⟩ := y_gd_e hv
        replace hv := Option.some.inj hv
        subst hv
        obtain ⟨e1, e2⟩ := y_pr kv12
        rw [← e1, ← e2]
        exact z_zret hc hB hr (y_b_n y4) dX7_readAll_72
      · replace hv := y_br_f hv c2
        refine lv_iload hx hb dX7_readAll_19 (lv_at hl 4 rfl) ?_
        refine lv_if_eq (tgt := 70) hx hb dX7_readAll_21 (by decide) (fun c5 => ?_) (fun c5 => ?_)
        · replace hv := y_br_t hv c5
          obtain ⟨t6, hq, ew⟩ := y_mp_e hv
          clear hv; subst ew
          replace kw12 : t6 = _ := kw12
          subst kw12
          have hv := hq
          clear hq
          refine lv_iload hx hb dX7_readAll_70 (lv_at hl 4 rfl) ?_
          obtain ⟨y7, hv⟩ := y_gd_e hv
          replace hv := Option.some.inj hv
          subst hv
          obtain ⟨e1, e2⟩ := y_pr kv12
          rw [← e1, ← e2]
          exact z_zret hc hB hr (y_b_n y7) dX7_readAll_72
        · replace hv := y_br_f hv c5
          refine lv_aload_n hx hb dX7_readAll_24 rfl (lv_at hl 1 rfl) ?_
          refine z_gets hc hB (hc.2.1.2.2.2.1.1 15 (by decide)) qfX7_54 dX7_readAll_25 ?_
          obtain ⟨g13, hv⟩ := y_gd_e hv
          obtain ⟨r9, c8, hv⟩ := y_bi_e hv
          refine z_thI hc hB (z_runV hc hB 6 (mm_X6_isAt hSK l ad o1 15 h c8) md_X6_isAt qmX7_40 g13 (by decide) rfl rfl rfl ⟨by simp only [rm_X7_readAll, rm_X6_isAt]; omega, by simp only [rm_X7_readAll, rm_X6_isAt]; omega⟩ rfl hl.1 rfl (Nat.le_of_ble_eq_true rfl) dX7_readAll_28 ⟨Nat.le_of_ble_eq_true rfl, Nat.le_of_ble_eq_true rfl⟩) (fun H locs hB => ?_)
          refine lv_if_eq (tgt := 70) hx hb dX7_readAll_31 (by decide) (fun c14 => ?_) (fun c14 => ?_)
          · replace hv := y_br_t hv c14
            obtain ⟨t15, hq, ew⟩ := y_mp_e hv
            clear hv; subst ew
            replace kw12 : t15 = _ := kw12
            subst kw12
            have hv := hq
            clear hq
            refine lv_iload hx hb dX7_readAll_70 (lv_at hl 4 rfl) ?_
            obtain ⟨y16, hv⟩ := y_gd_e hv
            replace hv := Option.some.inj hv
            subst hv
            obtain ⟨e1, e2⟩ := y_pr kv12
            rw [← e1, ← e2]
            exact z_zret hc hB hr (y_b_n y16) dX7_readAll_72
          · replace hv := y_br_f hv c14
            refine lv_aload_n hx hb dX7_readAll_34 rfl (lv_at hl 1 rfl) ?_
            obtain ⟨h18, c17, hv⟩ := y_bi_e hv
            refine z_thV hc hB (z_runV hc hB 6 (mm_X6_advance hSK l ad o1 h c17) md_X6_advance qmX7_44 g13 (by decide) rfl rfl rfl ⟨by simp only [rm_X7_readAll, rm_X6_advance]; omega, by simp only [rm_X7_readAll, rm_X6_advance]; omega⟩ rfl hl.1 rfl (Nat.le_of_ble_eq_true rfl) dX7_readAll_35 ⟨Nat.le_of_ble_eq_true rfl, Nat.le_of_ble_eq_true rfl⟩) (fun H locs hB => ?_)
            refine lv_aload_n hx hb dX7_readAll_38 rfl (lv_at hl 0 rfl) ?_
            refine lv_aload_n hx hb dX7_readAll_39 rfl (lv_at hl 1 rfl) ?_
            refine lv_aload_n hx hb dX7_readAll_40 rfl (lv_at hl 2 rfl) ?_
            refine lv_iload_n hx hb dX7_readAll_41 rfl (lv_at hl 3 rfl) ?_
            obtain ⟨g25, hv⟩ := y_gd_e hv
            obtain ⟨⟨r20, h24⟩, c19, hv⟩ := y_bi_e hv
            refine z_thI hc hB (z_runV hc hB 7 (hrc o0 o1 o2 x3 h18 c19) md_X7_readOne qmX7_51 g25 (by decide) rfl rfl rfl ⟨by simp only [rm_X7_readAll, rm_X7_readOne]; omega, by simp only [rm_X7_readAll, rm_X7_readOne]; omega⟩ rfl hl.1 rfl (Nat.le_of_ble_eq_true rfl) dX7_readAll_42 ⟨Nat.le_of_ble_eq_true rfl, Nat.le_of_ble_eq_true rfl⟩) (fun H locs hB => ?_)
            refine lv_if_eq (tgt := 61) hx hb dX7_readAll_45 (by decide) (fun c26 => ?_) (fun c26 => ?_)
            · replace hv := y_br_t hv c26
              exact b61 x5 h24 _ _ _ hB (lv_sub hl [0, 1, 2, 3, 5] rfl) _ hv kw12
            · replace hv := y_br_f hv c26
              refine lv_aload_n hx hb dX7_readAll_48 rfl (lv_at hl 0 rfl) ?_
              refine lv_iconst (v := (3 : Int32)) hx hb dX7_readAll_49 (by decide) ?_
              refine lv_iconst (v := (0 : Int32)) hx hb dX7_readAll_50 (by decide) ?_
              obtain ⟨g33, hv⟩ := y_gd_e hv
              obtain ⟨⟨r28, h32⟩, c27, hv⟩ := y_bi_e hv
              refine z_thI hc hB (z_runV hc hB 7 (mm_X7_put hSK l ad o0 (3 : Int32) (0 : Int32) h24 c27) md_X7_put qmX7_47 g33 (by decide) rfl rfl rfl ⟨by simp only [rm_X7_readAll, rm_X7_put]; omega, by simp only [rm_X7_readAll, rm_X7_put]; omega⟩ rfl hl.1 rfl (Nat.le_of_ble_eq_true rfl) dX7_readAll_51 ⟨Nat.le_of_ble_eq_true rfl, Nat.le_of_ble_eq_true rfl⟩) (fun H locs hB => ?_)
              refine lv_if_eq (tgt := 61) hx hb dX7_readAll_54 (by decide) (fun c34 => ?_) (fun c34 => ?_)
              · replace hv := y_br_t hv c34
                exact b61 x5 h32 _ _ _ hB (lv_sub hl [0, 1, 2, 3, 5] rfl) _ hv kw12
              · replace hv := y_br_f hv c34
                refine lv_iconst (v := (1 : Int32)) hx hb dX7_readAll_57 (by decide) ?_
                refine lv_goto (tgt := 62) hx hb dX7_readAll_58 (by decide) ?_
                exact b62 x5 (1 : Int32) h32 _ _ _ hB (lv_sub hl [0, 1, 2, 3, 5] rfl) _ hv kw12
  rw [← kt] at hv
  refine lv_aload_n hx hb dX7_readAll_0 rfl (lv_at hl 0 rfl) ?_
  refine lv_aload_n hx hb dX7_readAll_1 rfl (lv_at hl 1 rfl) ?_
  refine lv_aload_n hx hb dX7_readAll_2 rfl (lv_at hl 2 rfl) ?_
  refine lv_iload_n hx hb dX7_readAll_3 rfl (lv_at hl 3 rfl) ?_
  obtain ⟨g41, hv⟩ := y_gd_e hv
  obtain ⟨⟨r36, h40⟩, c35, hv⟩ := y_bi_e hv
  refine z_thI hc hB (z_runV hc hB 7 (hrc o0 o1 o2 x3 h c35) md_X7_readOne qmX7_51 g41 (by decide) rfl rfl rfl ⟨by simp only [rm_X7_readAll, rm_X7_readOne]; omega, by simp only [rm_X7_readAll, rm_X7_readOne]; omega⟩ rfl hl.1 rfl (Nat.le_of_ble_eq_true rfl) dX7_readAll_4 ⟨Nat.le_of_ble_eq_true rfl, Nat.le_of_ble_eq_true rfl⟩) (fun H locs hB => ?_)
  refine lv_istore (lv' := [(4, .int r36), (0, .ref (ad o0)), (1, .ref (ad o1)), (2, .ref (ad o2)), (3, .int x3)]) hx hb dX7_readAll_7 hl (by decide) rfl (fun ls hl => ?_)
  refine lv_iconst (v := (0 : Int32)) hx hb dX7_readAll_9 (by decide) ?_
  refine lv_istore (lv' := [(5, .int (0 : Int32)), (4, .int r36), (0, .ref (ad o0)), (1, .ref (ad o1)), (2, .ref (ad o2)), (3, .int x3)]) hx hb dX7_readAll_10 hl (by decide) rfl (fun ls hl => ?_)
  obtain ⟨n, hv⟩ := y_lp_e hv
  exact L12 n r36 (0 : Int32) h40 _ _ _ hB (lv_sub hl [2, 3, 4, 5, 1, 0] rfl) _ hv kt
theorem dX7_readCond_0 : decode cX7_readCond 0 = .ok (.aload_n 0, 1) := by decide +kernel
theorem dX7_readCond_1 : decode cX7_readCond 1 = .ok (.aload_n 1, 1) := by decide +kernel
theorem dX7_readCond_2 : decode cX7_readCond 2 = .ok (.aload_n 2, 1) := by decide +kernel
theorem dX7_readCond_3 : decode cX7_readCond 3 = .ok (.iload_n 3, 1) := by decide +kernel
theorem dX7_readCond_4 : decode cX7_readCond 4 = .ok (.invokevirtual 31, 3) := by decide +kernel
theorem dX7_readCond_7 : decode cX7_readCond 7 = .ok (.istore 4, 2) := by decide +kernel
theorem dX7_readCond_9 : decode cX7_readCond 9 = .ok (.iconst 0, 1) := by decide +kernel
theorem dX7_readCond_10 : decode cX7_readCond 10 = .ok (.istore 5, 2) := by decide +kernel
theorem dX7_readCond_12 : decode cX7_readCond 12 = .ok (.iload 5, 2) := by decide +kernel
theorem dX7_readCond_14 : decode cX7_readCond 14 = .ok (.bipush 20, 2) := by decide +kernel
theorem dX7_readCond_16 : decode cX7_readCond 16 = .ok (.if_icmp .ge 54, 3) := by decide +kernel
theorem dX7_readCond_19 : decode cX7_readCond 19 = .ok (.iload 4, 2) := by decide +kernel
theorem dX7_readCond_21 : decode cX7_readCond 21 = .ok (.ifCond .eq 49, 3) := by decide +kernel
theorem dX7_readCond_24 : decode cX7_readCond 24 = .ok (.aload_n 1, 1) := by decide +kernel
theorem dX7_readCond_25 : decode cX7_readCond 25 = .ok (.getstatic 34, 3) := by decide +kernel
theorem dX7_readCond_28 : decode cX7_readCond 28 = .ok (.invokevirtual 40, 3) := by decide +kernel
theorem dX7_readCond_31 : decode cX7_readCond 31 = .ok (.ifCond .eq 39, 3) := by decide +kernel
theorem dX7_readCond_34 : decode cX7_readCond 34 = .ok (.aload_n 1, 1) := by decide +kernel
theorem dX7_readCond_35 : decode cX7_readCond 35 = .ok (.invokevirtual 44, 3) := by decide +kernel
theorem dX7_readCond_38 : decode cX7_readCond 38 = .ok (.aload_n 0, 1) := by decide +kernel
theorem dX7_readCond_39 : decode cX7_readCond 39 = .ok (.aload_n 1, 1) := by decide +kernel
theorem dX7_readCond_40 : decode cX7_readCond 40 = .ok (.aload_n 2, 1) := by decide +kernel
theorem dX7_readCond_41 : decode cX7_readCond 41 = .ok (.iload_n 3, 1) := by decide +kernel
theorem dX7_readCond_42 : decode cX7_readCond 42 = .ok (.invokevirtual 31, 3) := by decide +kernel
theorem dX7_readCond_45 : decode cX7_readCond 45 = .ok (.ifCond .eq 16, 3) := by decide +kernel
theorem dX7_readCond_48 : decode cX7_readCond 48 = .ok (.aload_n 0, 1) := by decide +kernel
theorem dX7_readCond_49 : decode cX7_readCond 49 = .ok (.iconst 4, 1) := by decide +kernel
theorem dX7_readCond_50 : decode cX7_readCond 50 = .ok (.iconst 0, 1) := by decide +kernel
theorem dX7_readCond_51 : decode cX7_readCond 51 = .ok (.invokevirtual 47, 3) := by decide +kernel
theorem dX7_readCond_54 : decode cX7_readCond 54 = .ok (.ifCond .eq 7, 3) := by decide +kernel
theorem dX7_readCond_57 : decode cX7_readCond 57 = .ok (.iconst 1, 1) := by decide +kernel
theorem dX7_readCond_58 : decode cX7_readCond 58 = .ok (.goto 4, 3) := by decide +kernel
theorem dX7_readCond_61 : decode cX7_readCond 61 = .ok (.iconst 0, 1) := by decide +kernel
theorem dX7_readCond_62 : decode cX7_readCond 62 = .ok (.istore 4, 2) := by decide +kernel
theorem dX7_readCond_64 : decode cX7_readCond 64 = .ok (.iinc 5 1, 3) := by decide +kernel
theorem dX7_readCond_67 : decode cX7_readCond 67 = .ok (.goto (-55), 3) := by decide +kernel
theorem dX7_readCond_70 : decode cX7_readCond 70 = .ok (.iload 4, 2) := by decide +kernel
theorem dX7_readCond_72 : decode cX7_readCond 72 = .ok (.ireturn, 1) := by decide +kernel
noncomputable def fX7_readCond_b62 (rc : Nat → Nat → Nat → Int32 → z_T → Option (Int32 × z_T)) (o0 : Nat) (o1 : Nat) (o2 : Nat) (x3 : Int32) (x5 : Int32) (s0 : Int32) (h : z_T) : Option ((Int32 × Int32 × z_T) ⊕ (Int32 × z_T)) :=
  y_nm (x5 + 1) fun v1 =>
  some (.inl (s0, v1, h))
noncomputable def fX7_readCond_b61 (rc : Nat → Nat → Nat → Int32 → z_T → Option (Int32 × z_T)) (o0 : Nat) (o1 : Nat) (o2 : Nat) (x3 : Int32) (x5 : Int32) (h : z_T) : Option ((Int32 × Int32 × z_T) ⊕ (Int32 × z_T)) :=
  fX7_readCond_b62 rc o0 o1 o2 x3 x5 (0 : Int32) h
noncomputable def fX7_readCond_b12_i (rc : Nat → Nat → Nat → Int32 → z_T → Option (Int32 × z_T)) (o0 : Nat) (o1 : Nat) (o2 : Nat) (x3 : Int32) (x4 : Int32) (x5 : Int32) (h : z_T) : Option ((Int32 × Int32 × z_T) ⊕ (Int32 × z_T)) :=
  y_br ((20 : Int32) ≤ x5)
    (y_mp <|
    y_gd (y_b x4) <|
    some (x4, h))
    (y_br (x4 = 0)
      (y_mp <|
      y_gd (y_b x4) <|
      some (x4, h))
      (y_gd (z_ok h o1 6) <|
      y_bi (fX6_isAt o1 14 h) fun r9 =>
      y_br (r9 = 0)
        (y_mp <|
        y_gd (y_b x4) <|
        some (x4, h))
        (y_bi (fX6_advance o1 h) fun h18 =>
        y_gd (z_ok h18 o0 7) <|
        y_bi (fX7_readAll rc o0 o1 o2 x3 h18) fun ⟨r20, h24⟩ =>
        y_br (r20 = 0)
          (fX7_readCond_b61 rc o0 o1 o2 x3 x5 h24)
          (y_gd (z_ok h24 o0 7) <|
          y_bi (fX7_put o0 (4 : Int32) (0 : Int32) h24) fun ⟨r28, h32⟩ =>
          y_br (r28 = 0)
            (fX7_readCond_b61 rc o0 o1 o2 x3 x5 h32)
            (fX7_readCond_b62 rc o0 o1 o2 x3 x5 (1 : Int32) h32)))))
noncomputable def fX7_readCond_b12 (rc : Nat → Nat → Nat → Int32 → z_T → Option (Int32 × z_T)) (o0 : Nat) (o1 : Nat) (o2 : Nat) (x3 : Int32) (x4 : Int32) (x5 : Int32) (h : z_T) : Option (Int32 × z_T) := y_lp (fun q : Int32 × Int32 × z_T => fX7_readCond_b12_i rc o0 o1 o2 x3 q.1 q.2.1 q.2.2) (x4, x5, h)
noncomputable def fX7_readCond (rc : Nat → Nat → Nat → Int32 → z_T → Option (Int32 × z_T)) (o0 : Nat) (o1 : Nat) (o2 : Nat) (x3 : Int32) (h : z_T) : Option (Int32 × z_T) :=
  y_gd (z_ok h o0 7) <|
  y_bi (fX7_readAll rc o0 o1 o2 x3 h) fun ⟨r36, h40⟩ =>
  fX7_readCond_b12 rc o0 o1 o2 x3 r36 (0 : Int32) h40
set_option maxHeartbeats 4000000 in
set_option maxRecDepth 100000 in
theorem mh_X7_readCond {G : z_Gt} (hSK : z_SK (z_S G)) (l : Launch) (ad : Nat → Nat) (d : Nat) (rc : Nat → Nat → Nat → Int32 → z_T → Option (Int32 × z_T)) (hrc : ∀ (o0 : Nat) (o1 : Nat) (o2 : Nat) (x3 : Int32) (h : z_T) {r0 : Int32} {h9 : z_T}, rc o0 o1 o2 x3 h = some (r0, h9) → z_Mi G (z_S G) l yX7_readOne cX7_readOne 6 (.boolean) (rm_X7_readOne d) 0 0 [.ref (ad o0), .ref (ad o1), .ref (ad o2), .int x3] ad h h9 r0) (o0 : Nat) (o1 : Nat) (o2 : Nat) (x3 : Int32) (h : z_T) {r0 : Int32} {h9 : z_T} (hv : fX7_readCond rc o0 o1 o2 x3 h = some (r0, h9)) : z_Mi G (z_S G) l yX7_readCond cX7_readCond 6 (.boolean) (rm_X7_readCond d) 0 0 [.ref (ad o0), .ref (ad o1), .ref (ad o2), .int x3] ad h h9 r0 := by
  refine z_ofW hSK (by decide) (Nat.le_of_ble_eq_true rfl) ?_
  intro p e s m args below meth c ls hc hr hnm hB hl
  have hx := hc.1.1
  have hb := hc.1.2.1
  have hown := hc.1.2.2.2.1
  have hts := hc.1.2.2.2.2
  replace hc : z_C G (z_S G) ad (z_n h) p m c cX7_readCond 6 s args RX7 meth := hc
  replace hown : s.vm.findClass RX7 = some m.cls := hown
  replace hl : lv_has ls 6 [(0, .ref (ad o0)), (1, .ref (ad o1)), (2, .ref (ad o2)), (3, .int x3)] := hl
  show W p l e (rm_X7_readCond d) s m args below meth c s.heap [] 0 0 (MQ below (z_Qi G ad h9 (z_n h) s.heap.size r0) args s 0 0 (z_A ad (z_n h) s.heap.size)) (F0 m 0 ls [])
  obtain ⟨rs, kt⟩ : ∃ rs : Int32 × z_T, rs = (r0, h9) := ⟨_, rfl⟩
  generalize hn0 : z_n h = n0 at hc hB ⊢
  have L12 : ∀ (nn12 : Nat) (x4 : Int32) (x5 : Int32) (h : z_T) (H : Heap) (locs : List Loc) (ls : Array Slot), z_B G ad n0 s h H locs → lv_has ls 6 [(0, .ref (ad o0)), (1, .ref (ad o1)), (2, .ref (ad o2)), (3, .int x3), (4, .int x4), (5, .int x5)] → ∀ vv12, y_lpN (fun q : Int32 × Int32 × z_T => fX7_readCond_b12_i rc o0 o1 o2 x3 q.1 q.2.1 q.2.2) nn12 (x4, x5, h) = some vv12 → vv12 = (r0, h9) → W p l e (rm_X7_readCond d) s m args below meth c H locs 0 0 (MQ below (z_Qi G ad h9 n0 s.heap.size r0) args s 0 0 (z_A ad n0 s.heap.size)) (F0 m 12 ls []) := by
    intro nn12
    induction nn12 with
    | zero => intro x4 x5 h H locs ls hB hl vv12 hv kv12; exact absurd hv (fun q => y_lpN_0 q)
    | succ nn12 ih12 =>
      intro x4 x5 h H locs ls hB hl vv12 hv kv12
      obtain ⟨w, hq, kw12⟩ := y_lpN_e hv
      clear hv
      have hv : fX7_readCond_b12_i rc o0 o1 o2 x3 x4 x5 h = some w := hq
      clear hq
      have b62 : ∀ (x5 : Int32) (s0 : Int32) (h : z_T) (H : Heap) (locs : List Loc) (ls : Array Slot), z_B G ad n0 s h H locs → lv_has ls 6 [(0, .ref (ad o0)), (1, .ref (ad o1)), (2, .ref (ad o2)), (3, .int x3), (5, .int x5)] → ∀ w, fX7_readCond_b62 rc o0 o1 o2 x3 x5 s0 h = some w → y_lq (fun q : Int32 × Int32 × z_T => fX7_readCond_b12_i rc o0 o1 o2 x3 q.1 q.2.1 q.2.2) nn12 vv12 w → W p l e (rm_X7_readCond d) s m args below meth c H locs 0 0 (MQ below (z_Qi G ad h9 n0 s.heap.size r0) args s 0 0 (z_A ad n0 s.heap.size)) (F0 m 62 ls [.int s0]) := by
        intro x5 s0 h H locs ls hB hl w hv kw12
        refine lv_istore (lv' := [(4, .int s0), (0, .ref (ad o0)), (1, .ref (ad o1)), (2, .ref (ad o2)), (3, .int x3), (5, .int x5)]) hx hb dX7_readCond_62 hl (by decide) rfl (fun ls hl => ?_)
        obtain ⟨v1, ev1, hv⟩ := y_nm_e hv
        refine lv_iinc (v := v1) (lv' := [(5, .int v1), (4, .int s0), (0, .ref (ad o0)), (1, .ref (ad o1)), (2, .ref (ad o2)), (3, .int x3)]) hx hb dX7_readCond_64 hl (k := 5) rfl (by rw [ev1]; rfl) (by decide) rfl (fun ls hl => ?_)
        refine lv_goto (tgt := 12) hx hb dX7_readCond_67 (by decide) ?_
        replace hv := Option.some.inj hv
        subst hv
        exact ih12 s0 v1 h _ _ _ hB (lv_sub hl [2, 3, 4, 5, 1, 0] rfl) _ kw12 kv12
      have b61 : ∀ (x5 : Int32) (h : z_T) (H : Heap) (locs : List Loc) (ls : Array Slot), z_B G ad n0 s h H locs → lv_has ls 6 [(0, .ref (ad o0)), (1, .ref (ad o1)), (2, .ref (ad o2)), (3, .int x3), (5, .int x5)] → ∀ w, fX7_readCond_b61 rc o0 o1 o2 x3 x5 h = some w → y_lq (fun q : Int32 × Int32 × z_T => fX7_readCond_b12_i rc o0 o1 o2 x3 q.1 q.2.1 q.2.2) nn12 vv12 w → W p l e (rm_X7_readCond d) s m args below meth c H locs 0 0 (MQ below (z_Qi G ad h9 n0 s.heap.size r0) args s 0 0 (z_A ad n0 s.heap.size)) (F0 m 61 ls []) := by
        intro x5 h H locs ls hB hl w hv kw12
        refine lv_iconst (v := (0 : Int32)) hx hb dX7_readCond_61 (by decide) ?_
        exact b62 x5 (0 : Int32) h _ _ _ hB (lv_sub hl [0, 1, 2, 3, 4] rfl) _ hv kw12
      refine lv_iload hx hb dX7_readCond_12 (lv_at hl 5 rfl) ?_
      refine lv_bipush (v := (20 : Int32)) hx hb dX7_readCond_14 (by decide) ?_
      refine lv_icmp_ge (tgt := 70) hx hb dX7_readCond_16 (by decide) (fun c2 => ?_) (fun c2 => ?_)
      · replace hv := y_br_t hv c2
        obtain ⟨t3, hq, ew⟩ := y_mp_e hv
        clear hv; subst ew
        replace kw12 : t3 = _ := kw12
        subst kw12
        have hv := hq
        clear hq
        refine lv_iload hx hb dX7_readCond_70 (lv_at hl 4 rfl) ?_
        obtain ⟨y4, hv⟩ := y_gd_e hv
        replace hv := Option.some.inj hv
        subst hv
        obtain ⟨e1, e2⟩ := y_pr kv12
        rw [← e1, ← e2]
        exact z_zret hc hB hr (y_b_n y4) dX7_readCond_72
      · replace hv := y_br_f hv c2
        refine lv_iload hx hb dX7_readCond_19 (lv_at hl 4 rfl) ?_
        refine lv_if_eq (tgt := 70) hx hb dX7_readCond_21 (by decide) (fun c5 => ?_) (fun c5 => ?_)
        · replace hv := y_br_t hv c5
          obtain ⟨t6, hq, ew⟩ := y_mp_e hv
          clear hv; subst ew
          replace kw12 : t6 = _ := kw12
          subst kw12
          have hv := hq
          clear hq
          refine lv_iload hx hb dX7_readCond_70 (lv_at hl 4 rfl) ?_
          obtain ⟨y7, hv⟩ := y_gd_e hv
          replace hv := Option.some.inj hv
          subst hv
          obtain ⟨e1, e2⟩ := y_pr kv12
          rw [← e1, ← e2]
          exact z_zret hc hB hr (y_b_n y7) dX7_readCond_72
        · replace hv := y_br_f hv c5
          refine lv_aload_n hx hb dX7_readCond_24 rfl (lv_at hl 1 rfl) ?_
          refine z_gets hc hB (hc.2.1.2.2.2.1.1 14 (by decide)) qfX7_34 dX7_readCond_25 ?_
          obtain ⟨g13, hv⟩ := y_gd_e hv
          obtain ⟨r9, c8, hv⟩ := y_bi_e hv
          refine z_thI hc hB (z_runV hc hB 6 (mm_X6_isAt hSK l ad o1 14 h c8) md_X6_isAt qmX7_40 g13 (by decide) rfl rfl rfl ⟨by simp only [rm_X7_readCond, rm_X6_isAt]; omega, by simp only [rm_X7_readCond, rm_X6_isAt]; omega⟩ rfl hl.1 rfl (Nat.le_of_ble_eq_true rfl) dX7_readCond_28 ⟨Nat.le_of_ble_eq_true rfl, Nat.le_of_ble_eq_true rfl⟩) (fun H locs hB => ?_)
          refine lv_if_eq (tgt := 70) hx hb dX7_readCond_31 (by decide) (fun c14 => ?_) (fun c14 => ?_)
          · replace hv := y_br_t hv c14
            obtain ⟨t15, hq, ew⟩ := y_mp_e hv
            clear hv; subst ew
            replace kw12 : t15 = _ := kw12
            subst kw12
            have hv := hq
            clear hq
            refine lv_iload hx hb dX7_readCond_70 (lv_at hl 4 rfl) ?_
            obtain ⟨y16, hv⟩ := y_gd_e hv
            replace hv := Option.some.inj hv
            subst hv
            obtain ⟨e1, e2⟩ := y_pr kv12
            rw [← e1, ← e2]
            exact z_zret hc hB hr (y_b_n y16) dX7_readCond_72
          · replace hv := y_br_f hv c14
            refine lv_aload_n hx hb dX7_readCond_34 rfl (lv_at hl 1 rfl) ?_
            obtain ⟨h18, c17, hv⟩ := y_bi_e hv
            refine z_thV hc hB (z_runV hc hB 6 (mm_X6_advance hSK l ad o1 h c17) md_X6_advance qmX7_44 g13 (by decide) rfl rfl rfl ⟨by simp only [rm_X7_readCond, rm_X6_advance]; omega, by simp only [rm_X7_readCond, rm_X6_advance]; omega⟩ rfl hl.1 rfl (Nat.le_of_ble_eq_true rfl) dX7_readCond_35 ⟨Nat.le_of_ble_eq_true rfl, Nat.le_of_ble_eq_true rfl⟩) (fun H locs hB => ?_)
            refine lv_aload_n hx hb dX7_readCond_38 rfl (lv_at hl 0 rfl) ?_
            refine lv_aload_n hx hb dX7_readCond_39 rfl (lv_at hl 1 rfl) ?_
            refine lv_aload_n hx hb dX7_readCond_40 rfl (lv_at hl 2 rfl) ?_
            refine lv_iload_n hx hb dX7_readCond_41 rfl (lv_at hl 3 rfl) ?_
            obtain ⟨g25, hv⟩ := y_gd_e hv
            obtain ⟨⟨r20, h24⟩, c19, hv⟩ := y_bi_e hv
            refine z_thI hc hB (z_runV hc hB 7 (mh_X7_readAll hSK l ad d rc hrc o0 o1 o2 x3 h18 c19) md_X7_readAll qmX7_31 g25 (by decide) rfl rfl rfl ⟨by simp only [rm_X7_readCond, rm_X7_readAll]; omega, by simp only [rm_X7_readCond, rm_X7_readAll]; omega⟩ rfl hl.1 rfl (Nat.le_of_ble_eq_true rfl) dX7_readCond_42 ⟨Nat.le_of_ble_eq_true rfl, Nat.le_of_ble_eq_true rfl⟩) (fun H locs hB => ?_)
            refine lv_if_eq (tgt := 61) hx hb dX7_readCond_45 (by decide) (fun c26 => ?_) (fun c26 => ?_)
            · replace hv := y_br_t hv c26
              exact b61 x5 h24 _ _ _ hB (lv_sub hl [0, 1, 2, 3, 5] rfl) _ hv kw12
            · replace hv := y_br_f hv c26
              refine lv_aload_n hx hb dX7_readCond_48 rfl (lv_at hl 0 rfl) ?_
              refine lv_iconst (v := (4 : Int32)) hx hb dX7_readCond_49 (by decide) ?_
              refine lv_iconst (v := (0 : Int32)) hx hb dX7_readCond_50 (by decide) ?_
              obtain ⟨g33, hv⟩ := y_gd_e hv
              obtain ⟨⟨r28, h32⟩, c27, hv⟩ := y_bi_e hv
              refine z_thI hc hB (z_runV hc hB 7 (mm_X7_put hSK l ad o0 (4 : Int32) (0 : Int32) h24 c27) md_X7_put qmX7_47 g33 (by decide) rfl rfl rfl ⟨by simp only [rm_X7_readCond, rm_X7_put]; omega, by simp only [rm_X7_readCond, rm_X7_put]; omega⟩ rfl hl.1 rfl (Nat.le_of_ble_eq_true rfl) dX7_readCond_51 ⟨Nat.le_of_ble_eq_true rfl, Nat.le_of_ble_eq_true rfl⟩) (fun H locs hB => ?_)
              refine lv_if_eq (tgt := 61) hx hb dX7_readCond_54 (by decide) (fun c34 => ?_) (fun c34 => ?_)
              · replace hv := y_br_t hv c34
                exact b61 x5 h32 _ _ _ hB (lv_sub hl [0, 1, 2, 3, 5] rfl) _ hv kw12
              · replace hv := y_br_f hv c34
                refine lv_iconst (v := (1 : Int32)) hx hb dX7_readCond_57 (by decide) ?_
                refine lv_goto (tgt := 62) hx hb dX7_readCond_58 (by decide) ?_
                exact b62 x5 (1 : Int32) h32 _ _ _ hB (lv_sub hl [0, 1, 2, 3, 5] rfl) _ hv kw12
  rw [← kt] at hv
  refine lv_aload_n hx hb dX7_readCond_0 rfl (lv_at hl 0 rfl) ?_
  refine lv_aload_n hx hb dX7_readCond_1 rfl (lv_at hl 1 rfl) ?_
  refine lv_aload_n hx hb dX7_readCond_2 rfl (lv_at hl 2 rfl) ?_
  refine lv_iload_n hx hb dX7_readCond_3 rfl (lv_at hl 3 rfl) ?_
  obtain ⟨g41, hv⟩ := y_gd_e hv
  obtain ⟨⟨r36, h40⟩, c35, hv⟩ := y_bi_e hv
  refine z_thI hc hB (z_runV hc hB 7 (mh_X7_readAll hSK l ad d rc hrc o0 o1 o2 x3 h c35) md_X7_readAll qmX7_31 g41 (by decide) rfl rfl rfl ⟨by simp only [rm_X7_readCond, rm_X7_readAll]; omega, by simp only [rm_X7_readCond, rm_X7_readAll]; omega⟩ rfl hl.1 rfl (Nat.le_of_ble_eq_true rfl) dX7_readCond_4 ⟨Nat.le_of_ble_eq_true rfl, Nat.le_of_ble_eq_true rfl⟩) (fun H locs hB => ?_)
  refine lv_istore (lv' := [(4, .int r36), (0, .ref (ad o0)), (1, .ref (ad o1)), (2, .ref (ad o2)), (3, .int x3)]) hx hb dX7_readCond_7 hl (by decide) rfl (fun ls hl => ?_)
  refine lv_iconst (v := (0 : Int32)) hx hb dX7_readCond_9 (by decide) ?_
  refine lv_istore (lv' := [(5, .int (0 : Int32)), (4, .int r36), (0, .ref (ad o0)), (1, .ref (ad o1)), (2, .ref (ad o2)), (3, .int x3)]) hx hb dX7_readCond_10 hl (by decide) rfl (fun ls hl => ?_)
  obtain ⟨n, hv⟩ := y_lp_e hv
  exact L12 n r36 (0 : Int32) h40 _ _ _ hB (lv_sub hl [2, 3, 4, 5, 1, 0] rfl) _ hv kt
theorem dX7_readOne_0 : decode cX7_readOne 0 = .ok (.aload_n 1, 1) := by decide +kernel
theorem dX7_readOne_1 : decode cX7_readOne 1 = .ok (.getfield 57, 3) := by decide +kernel
theorem dX7_readOne_4 : decode cX7_readOne 4 = .ok (.astore 4, 2) := by decide +kernel
theorem dX7_readOne_6 : decode cX7_readOne 6 = .ok (.aload_n 1, 1) := by decide +kernel
theorem dX7_readOne_7 : decode cX7_readOne 7 = .ok (.getfield 60, 3) := by decide +kernel
theorem dX7_readOne_10 : decode cX7_readOne 10 = .ok (.bipush 40, 2) := by decide +kernel
theorem dX7_readOne_12 : decode cX7_readOne 12 = .ok (.if_icmp .ne 7, 3) := by decide +kernel
theorem dX7_readOne_15 : decode cX7_readOne 15 = .ok (.iconst 1, 1) := by decide +kernel
theorem dX7_readOne_16 : decode cX7_readOne 16 = .ok (.goto 4, 3) := by decide +kernel
theorem dX7_readOne_19 : decode cX7_readOne 19 = .ok (.iconst 0, 1) := by decide +kernel
theorem dX7_readOne_20 : decode cX7_readOne 20 = .ok (.istore 5, 2) := by decide +kernel
theorem dX7_readOne_22 : decode cX7_readOne 22 = .ok (.iload 5, 2) := by decide +kernel
theorem dX7_readOne_24 : decode cX7_readOne 24 = .ok (.ifCond .ne 17, 3) := by decide +kernel
theorem dX7_readOne_27 : decode cX7_readOne 27 = .ok (.aload 4, 2) := by decide +kernel
theorem dX7_readOne_29 : decode cX7_readOne 29 = .ok (.invokestatic 64, 3) := by decide +kernel
theorem dX7_readOne_32 : decode cX7_readOne 32 = .ok (.ifCond .ne 9, 3) := by decide +kernel
theorem dX7_readOne_35 : decode cX7_readOne 35 = .ok (.aload_n 1, 1) := by decide +kernel
theorem dX7_readOne_36 : decode cX7_readOne 36 = .ok (.iconst 1, 1) := by decide +kernel
theorem dX7_readOne_37 : decode cX7_readOne 37 = .ok (.invokevirtual 67, 3) := by decide +kernel
theorem dX7_readOne_40 : decode cX7_readOne 40 = .ok (.ireturn, 1) := by decide +kernel
theorem dX7_readOne_41 : decode cX7_readOne 41 = .ok (.aload_n 0, 1) := by decide +kernel
theorem dX7_readOne_42 : decode cX7_readOne 42 = .ok (.getfield 71, 3) := by decide +kernel
theorem dX7_readOne_45 : decode cX7_readOne 45 = .ok (.bipush 20, 2) := by decide +kernel
theorem dX7_readOne_47 : decode cX7_readOne 47 = .ok (.if_icmp .ge 9, 3) := by decide +kernel
theorem dX7_readOne_50 : decode cX7_readOne 50 = .ok (.iload_n 3, 1) := by decide +kernel
theorem dX7_readOne_51 : decode cX7_readOne 51 = .ok (.bipush 8, 2) := by decide +kernel
theorem dX7_readOne_53 : decode cX7_readOne 53 = .ok (.if_icmp .le 9, 3) := by decide +kernel
theorem dX7_readOne_56 : decode cX7_readOne 56 = .ok (.aload_n 1, 1) := by decide +kernel
theorem dX7_readOne_57 : decode cX7_readOne 57 = .ok (.iconst 4, 1) := by decide +kernel
theorem dX7_readOne_58 : decode cX7_readOne 58 = .ok (.invokevirtual 67, 3) := by decide +kernel
theorem dX7_readOne_61 : decode cX7_readOne 61 = .ok (.ireturn, 1) := by decide +kernel
theorem dX7_readOne_62 : decode cX7_readOne 62 = .ok (.aload_n 0, 1) := by decide +kernel
theorem dX7_readOne_63 : decode cX7_readOne 63 = .ok (.dup, 1) := by decide +kernel
theorem dX7_readOne_64 : decode cX7_readOne 64 = .ok (.getfield 71, 3) := by decide +kernel
theorem dX7_readOne_67 : decode cX7_readOne 67 = .ok (.iconst 1, 1) := by decide +kernel
theorem dX7_readOne_68 : decode cX7_readOne 68 = .ok (.iadd, 1) := by decide +kernel
theorem dX7_readOne_69 : decode cX7_readOne 69 = .ok (.putfield 71, 3) := by decide +kernel
theorem dX7_readOne_72 : decode cX7_readOne 72 = .ok (.aload_n 1, 1) := by decide +kernel
theorem dX7_readOne_73 : decode cX7_readOne 73 = .ok (.invokevirtual 44, 3) := by decide +kernel
theorem dX7_readOne_76 : decode cX7_readOne 76 = .ok (.iload 5, 2) := by decide +kernel
theorem dX7_readOne_78 : decode cX7_readOne 78 = .ok (.ifCond .eq 30, 3) := by decide +kernel
theorem dX7_readOne_81 : decode cX7_readOne 81 = .ok (.aload_n 0, 1) := by decide +kernel
theorem dX7_readOne_82 : decode cX7_readOne 82 = .ok (.aload_n 1, 1) := by decide +kernel
theorem dX7_readOne_83 : decode cX7_readOne 83 = .ok (.aload_n 2, 1) := by decide +kernel
theorem dX7_readOne_84 : decode cX7_readOne 84 = .ok (.iload_n 3, 1) := by decide +kernel
theorem dX7_readOne_85 : decode cX7_readOne 85 = .ok (.iconst 1, 1) := by decide +kernel
theorem dX7_readOne_86 : decode cX7_readOne 86 = .ok (.iadd, 1) := by decide +kernel
theorem dX7_readOne_87 : decode cX7_readOne 87 = .ok (.invokevirtual 21, 3) := by decide +kernel
theorem dX7_readOne_90 : decode cX7_readOne 90 = .ok (.ifCond .eq 16, 3) := by decide +kernel
theorem dX7_readOne_93 : decode cX7_readOne 93 = .ok (.aload_n 1, 1) := by decide +kernel
theorem dX7_readOne_94 : decode cX7_readOne 94 = .ok (.bipush 41, 2) := by decide +kernel
theorem dX7_readOne_96 : decode cX7_readOne 96 = .ok (.invokevirtual 74, 3) := by decide +kernel
theorem dX7_readOne_99 : decode cX7_readOne 99 = .ok (.ifCond .eq 7, 3) := by decide +kernel
theorem dX7_readOne_102 : decode cX7_readOne 102 = .ok (.iconst 1, 1) := by decide +kernel
theorem dX7_readOne_103 : decode cX7_readOne 103 = .ok (.goto 4, 3) := by decide +kernel
theorem dX7_readOne_106 : decode cX7_readOne 106 = .ok (.iconst 0, 1) := by decide +kernel
theorem dX7_readOne_107 : decode cX7_readOne 107 = .ok (.ireturn, 1) := by decide +kernel
theorem dX7_readOne_108 : decode cX7_readOne 108 = .ok (.aload 4, 2) := by decide +kernel
theorem dX7_readOne_110 : decode cX7_readOne 110 = .ok (.getstatic 77, 3) := by decide +kernel
theorem dX7_readOne_113 : decode cX7_readOne 113 = .ok (.if_acmp .ne 30, 3) := by decide +kernel
theorem dX7_readOne_116 : decode cX7_readOne 116 = .ok (.aload_n 0, 1) := by decide +kernel
theorem dX7_readOne_117 : decode cX7_readOne 117 = .ok (.aload_n 1, 1) := by decide +kernel
theorem dX7_readOne_118 : decode cX7_readOne 118 = .ok (.aload_n 2, 1) := by decide +kernel
theorem dX7_readOne_119 : decode cX7_readOne 119 = .ok (.iload_n 3, 1) := by decide +kernel
theorem dX7_readOne_120 : decode cX7_readOne 120 = .ok (.iconst 1, 1) := by decide +kernel
theorem dX7_readOne_121 : decode cX7_readOne 121 = .ok (.iadd, 1) := by decide +kernel
theorem dX7_readOne_122 : decode cX7_readOne 122 = .ok (.invokevirtual 51, 3) := by decide +kernel
theorem dX7_readOne_125 : decode cX7_readOne 125 = .ok (.ifCond .eq 16, 3) := by decide +kernel
theorem dX7_readOne_128 : decode cX7_readOne 128 = .ok (.aload_n 0, 1) := by decide +kernel
theorem dX7_readOne_129 : decode cX7_readOne 129 = .ok (.iconst 2, 1) := by decide +kernel
theorem dX7_readOne_130 : decode cX7_readOne 130 = .ok (.iconst 0, 1) := by decide +kernel
theorem dX7_readOne_131 : decode cX7_readOne 131 = .ok (.invokevirtual 47, 3) := by decide +kernel
theorem dX7_readOne_134 : decode cX7_readOne 134 = .ok (.ifCond .eq 7, 3) := by decide +kernel
theorem dX7_readOne_137 : decode cX7_readOne 137 = .ok (.iconst 1, 1) := by decide +kernel
theorem dX7_readOne_138 : decode cX7_readOne 138 = .ok (.goto 4, 3) := by decide +kernel
theorem dX7_readOne_141 : decode cX7_readOne 141 = .ok (.iconst 0, 1) := by decide +kernel
theorem dX7_readOne_142 : decode cX7_readOne 142 = .ok (.ireturn, 1) := by decide +kernel
theorem dX7_readOne_143 : decode cX7_readOne 143 = .ok (.aload 4, 2) := by decide +kernel
theorem dX7_readOne_145 : decode cX7_readOne 145 = .ok (.getstatic 80, 3) := by decide +kernel
theorem dX7_readOne_148 : decode cX7_readOne 148 = .ok (.if_acmp .ne 13, 3) := by decide +kernel
theorem dX7_readOne_151 : decode cX7_readOne 151 = .ok (.aload_n 0, 1) := by decide +kernel
theorem dX7_readOne_152 : decode cX7_readOne 152 = .ok (.iconst 0, 1) := by decide +kernel
theorem dX7_readOne_153 : decode cX7_readOne 153 = .ok (.aload_n 2, 1) := by decide +kernel
theorem dX7_readOne_154 : decode cX7_readOne 154 = .ok (.invokevirtual 83, 3) := by decide +kernel
theorem dX7_readOne_157 : decode cX7_readOne 157 = .ok (.invokevirtual 47, 3) := by decide +kernel
theorem dX7_readOne_160 : decode cX7_readOne 160 = .ok (.ireturn, 1) := by decide +kernel
theorem dX7_readOne_161 : decode cX7_readOne 161 = .ok (.aload 4, 2) := by decide +kernel
theorem dX7_readOne_163 : decode cX7_readOne 163 = .ok (.getstatic 89, 3) := by decide +kernel
theorem dX7_readOne_166 : decode cX7_readOne 166 = .ok (.if_acmp .ne 10, 3) := by decide +kernel
theorem dX7_readOne_169 : decode cX7_readOne 169 = .ok (.aload_n 0, 1) := by decide +kernel
theorem dX7_readOne_170 : decode cX7_readOne 170 = .ok (.iconst 1, 1) := by decide +kernel
theorem dX7_readOne_171 : decode cX7_readOne 171 = .ok (.iconst 0, 1) := by decide +kernel
theorem dX7_readOne_172 : decode cX7_readOne 172 = .ok (.invokevirtual 47, 3) := by decide +kernel
theorem dX7_readOne_175 : decode cX7_readOne 175 = .ok (.ireturn, 1) := by decide +kernel
theorem dX7_readOne_176 : decode cX7_readOne 176 = .ok (.aload 4, 2) := by decide +kernel
theorem dX7_readOne_178 : decode cX7_readOne 178 = .ok (.getstatic 92, 3) := by decide +kernel
theorem dX7_readOne_181 : decode cX7_readOne 181 = .ok (.if_acmp .ne 12, 3) := by decide +kernel
theorem dX7_readOne_184 : decode cX7_readOne 184 = .ok (.aload_n 0, 1) := by decide +kernel
theorem dX7_readOne_185 : decode cX7_readOne 185 = .ok (.aload_n 1, 1) := by decide +kernel
theorem dX7_readOne_186 : decode cX7_readOne 186 = .ok (.aload_n 2, 1) := by decide +kernel
theorem dX7_readOne_187 : decode cX7_readOne 187 = .ok (.invokevirtual 95, 3) := by decide +kernel
theorem dX7_readOne_190 : decode cX7_readOne 190 = .ok (.goto 11, 3) := by decide +kernel
theorem dX7_readOne_193 : decode cX7_readOne 193 = .ok (.aload_n 0, 1) := by decide +kernel
theorem dX7_readOne_194 : decode cX7_readOne 194 = .ok (.aload_n 1, 1) := by decide +kernel
theorem dX7_readOne_195 : decode cX7_readOne 195 = .ok (.aload_n 2, 1) := by decide +kernel
theorem dX7_readOne_196 : decode cX7_readOne 196 = .ok (.aload 4, 2) := by decide +kernel
theorem dX7_readOne_198 : decode cX7_readOne 198 = .ok (.invokevirtual 99, 3) := by decide +kernel
theorem dX7_readOne_201 : decode cX7_readOne 201 = .ok (.ireturn, 1) := by decide +kernel
noncomputable def fX7_readOne_b56 (rc : Nat → Nat → Nat → Int32 → z_T → Option (Int32 × z_T)) (o1 : Nat) (h : z_T) : Option (Int32 × z_T) :=
  y_gd (z_ok h o1 6) <|
  y_bi (fX6_fail o1 (4 : Int32) h) fun ⟨r2, h6⟩ =>
  y_gd (y_b r2) <|
  some (r2, h6)
noncomputable def fX7_readOne_b106 (rc : Nat → Nat → Nat → Int32 → z_T → Option (Int32 × z_T))  (h : z_T) : Option (Int32 × z_T) :=
  some ((0 : Int32), h)
noncomputable def fX7_readOne_b141 (rc : Nat → Nat → Nat → Int32 → z_T → Option (Int32 × z_T))  (h : z_T) : Option (Int32 × z_T) :=
  some ((0 : Int32), h)
noncomputable def fX7_readOne_b41 (rc : Nat → Nat → Nat → Int32 → z_T → Option (Int32 × z_T)) (o0 : Nat) (o1 : Nat) (o2 : Nat) (x3 : Int32) (e4 : Nat) (x5 : Int32) (h : z_T) : Option (Int32 × z_T) :=
  y_gd (z_ok h o0 7) <|
  y_br ((20 : Int32) ≤ (z_I h o0 4))
    (fX7_readOne_b56 rc o1 h)
    (y_br (x3 ≤ (8 : Int32))
      (y_nm (z_sI h o0 4 ((z_I h o0 4) + (1 : Int32))) fun h12 =>
      y_gd (z_ok h12 o1 6) <|
      y_bi (fX6_advance o1 h12) fun h14 =>
      y_br (x5 = 0)
        (y_gd (decide (e4 < 23)) <|
        y_br (e4 = 16)
          (y_gd (z_ok h14 o0 7) <|
          y_bi (rc o0 o1 o2 (x3 + (1 : Int32)) h14) fun ⟨r61, h65⟩ =>
          y_br (r61 = 0)
            (fX7_readOne_b141 rc h65)
            (y_gd (z_ok h65 o0 7) <|
            y_bi (fX7_put o0 (2 : Int32) (0 : Int32) h65) fun ⟨r69, h73⟩ =>
            y_br (r69 = 0)
              (fX7_readOne_b141 rc h73)
              (some ((1 : Int32), h73))))
          (y_br (e4 = 17)
            (y_gd (z_ok h14 o2 0) <|
            y_bi (fX0_goodTests o2 h14) fun r47 =>
            y_gd (z_ok h14 o0 7) <|
            y_bi (fX7_put o0 (0 : Int32) r47 h14) fun ⟨r53, h57⟩ =>
            y_gd (y_b r53) <|
            some (r53, h57))
            (y_br (e4 = 19)
              (y_gd (z_ok h14 o0 7) <|
              y_bi (fX7_put o0 (1 : Int32) (0 : Int32) h14) fun ⟨r39, h43⟩ =>
              y_gd (y_b r39) <|
              some (r39, h43))
              (y_br (e4 = 18)
                (y_gd (z_ok h14 o0 7) <|
                y_bi (fX7_readKept o0 o1 o2 h14) fun ⟨r31, h35⟩ =>
                y_gd (y_b r31) <|
                some (r31, h35))
                (y_gd (z_ok h14 o0 7) <|
                y_bi (fX7_readOrder o0 o1 o2 e4 h14) fun ⟨r23, h27⟩ =>
                y_gd (y_b r23) <|
                some (r23, h27))))))
        (y_gd (z_ok h14 o0 7) <|
        y_bi (fX7_readCond rc o0 o1 o2 (x3 + (1 : Int32)) h14) fun ⟨r77, h81⟩ =>
        y_br (r77 = 0)
          (fX7_readOne_b106 rc h81)
          (y_gd (z_ok h81 o1 6) <|
          y_bi (fX6_take o1 (41 : Int32) h81) fun ⟨r85, h89⟩ =>
          y_br (r85 = 0)
            (fX7_readOne_b106 rc h89)
            (some ((1 : Int32), h89)))))
      (fX7_readOne_b56 rc o1 h))
noncomputable def fX7_readOne_b20 (rc : Nat → Nat → Nat → Int32 → z_T → Option (Int32 × z_T)) (o0 : Nat) (o1 : Nat) (o2 : Nat) (x3 : Int32) (e4 : Nat) (s0 : Int32) (h : z_T) : Option (Int32 × z_T) :=
  y_br (s0 = 0)
    (y_bi (fX7_beginsOne e4) fun r94 =>
    y_br (r94 = 0)
      (y_gd (z_ok h o1 6) <|
      y_bi (fX6_fail o1 (1 : Int32) h) fun ⟨r100, h104⟩ =>
      y_gd (y_b r100) <|
      some (r100, h104))
      (fX7_readOne_b41 rc o0 o1 o2 x3 e4 s0 h))
    (fX7_readOne_b41 rc o0 o1 o2 x3 e4 s0 h)
noncomputable def fX7_readOne_s (rc : Nat → Nat → Nat → Int32 → z_T → Option (Int32 × z_T)) (o0 : Nat) (o1 : Nat) (o2 : Nat) (x3 : Int32) (h : z_T) : Option (Int32 × z_T) :=
  y_gd (z_ok h o1 6) <|
  y_bi (z_R h o1 7) fun ob108 =>
  y_br ((z_I h o1 4) = (40 : Int32))
    (fX7_readOne_b20 rc o0 o1 o2 x3 ob108 (1 : Int32) h)
    (fX7_readOne_b20 rc o0 o1 o2 x3 ob108 (0 : Int32) h)
set_option maxHeartbeats 4000000 in
set_option maxRecDepth 100000 in
theorem mh_X7_readOne {G : z_Gt} (hSK : z_SK (z_S G)) (l : Launch) (ad : Nat → Nat) (d : Nat) (rc : Nat → Nat → Nat → Int32 → z_T → Option (Int32 × z_T)) (hrc : ∀ (o0 : Nat) (o1 : Nat) (o2 : Nat) (x3 : Int32) (h : z_T) {r0 : Int32} {h9 : z_T}, rc o0 o1 o2 x3 h = some (r0, h9) → z_Mi G (z_S G) l yX7_readOne cX7_readOne 6 (.boolean) (rm_X7_readOne d) 0 0 [.ref (ad o0), .ref (ad o1), .ref (ad o2), .int x3] ad h h9 r0) (o0 : Nat) (o1 : Nat) (o2 : Nat) (x3 : Int32) (h : z_T) {r0 : Int32} {h9 : z_T} (hv : fX7_readOne_s rc o0 o1 o2 x3 h = some (r0, h9)) : z_Mi G (z_S G) l yX7_readOne cX7_readOne 6 (.boolean) (rm_X7_readOne (d + 1)) 0 0 [.ref (ad o0), .ref (ad o1), .ref (ad o2), .int x3] ad h h9 r0 := by
  refine z_ofW hSK (by decide) (Nat.le_of_ble_eq_true rfl) ?_
  intro p e s m args below meth c ls hc hr hnm hB hl
  have hx := hc.1.1
  have hb := hc.1.2.1
  have hown := hc.1.2.2.2.1
  have hts := hc.1.2.2.2.2
  replace hc : z_C G (z_S G) ad (z_n h) p m c cX7_readOne 6 s args RX7 meth := hc
  replace hown : s.vm.findClass RX7 = some m.cls := hown
  replace hl : lv_has ls 6 [(0, .ref (ad o0)), (1, .ref (ad o1)), (2, .ref (ad o2)), (3, .int x3)] := hl
  show W p l e (rm_X7_readOne (d + 1)) s m args below meth c s.heap [] 0 0 (MQ below (z_Qi G ad h9 (z_n h) s.heap.size r0) args s 0 0 (z_A ad (z_n h) s.heap.size)) (F0 m 0 ls [])
  obtain ⟨rs, kt⟩ : ∃ rs : Int32 × z_T, rs = (r0, h9) := ⟨_, rfl⟩
  generalize hn0 : z_n h = n0 at hc hB ⊢
  have b56 : ∀ (h : z_T) (H : Heap) (locs : List Loc) (ls : Array Slot), z_B G ad n0 s h H locs → lv_has ls 6 [(1, .ref (ad o1))] → ∀ w, fX7_readOne_b56 rc o1 h = some w → w = (r0, h9) → W p l e (rm_X7_readOne (d + 1)) s m args below meth c H locs 0 0 (MQ below (z_Qi G ad h9 n0 s.heap.size r0) args s 0 0 (z_A ad n0 s.heap.size)) (F0 m 56 ls []) := by
    intro h H locs ls hB hl w hv kb
    refine lv_aload_n hx hb dX7_readOne_56 rfl (lv_at hl 0 rfl) ?_
    refine lv_iconst (v := (4 : Int32)) hx hb dX7_readOne_57 (by decide) ?_
    obtain ⟨g7, hv⟩ := y_gd_e hv
    obtain ⟨⟨r2, h6⟩, c1, hv⟩ := y_bi_e hv
    refine z_thI hc hB (z_runV hc hB 6 (mm_X6_fail hSK l ad o1 (4 : Int32) h c1) md_X6_fail qmX7_67 g7 (by decide) rfl rfl rfl ⟨by simp only [rm_X7_readOne, rm_X6_fail]; omega, by simp only [rm_X7_readOne, rm_X6_fail]; omega⟩ rfl hl.1 rfl (Nat.le_of_ble_eq_true rfl) dX7_readOne_58 ⟨Nat.le_of_ble_eq_true rfl, Nat.le_of_ble_eq_true rfl⟩) (fun H locs hB => ?_)
    obtain ⟨y8, hv⟩ := y_gd_e hv
    replace hv := Option.some.inj hv
    subst hv
    obtain ⟨e1, e2⟩ := y_pr kb
    rw [← e1, ← e2]
    exact z_zret hc hB hr (y_b_n y8) dX7_readOne_61
  have b106 : ∀ (h : z_T) (H : Heap) (locs : List Loc) (ls : Array Slot), z_B G ad n0 s h H locs → lv_has ls 6 [] → ∀ w, fX7_readOne_b106 rc h = some w → w = (r0, h9) → W p l e (rm_X7_readOne (d + 1)) s m args below meth c H locs 0 0 (MQ below (z_Qi G ad h9 n0 s.heap.size r0) args s 0 0 (z_A ad n0 s.heap.size)) (F0 m 106 ls []) := by
    intro h H locs ls hB hl w hv kb
    refine lv_iconst (v := (0 : Int32)) hx hb dX7_readOne_106 (by decide) ?_
    replace hv := Option.some.inj hv
    subst hv
    obtain ⟨e1, e2⟩ := y_pr kb
    rw [← e1, ← e2]
    exact z_zret hc hB hr rfl dX7_readOne_107
  have b141 : ∀ (h : z_T) (H : Heap) (locs : List Loc) (ls : Array Slot), z_B G ad n0 s h H locs → lv_has ls 6 [] → ∀ w, fX7_readOne_b141 rc h = some w → w = (r0, h9) → W p l e (rm_X7_readOne (d + 1)) s m args below meth c H locs 0 0 (MQ below (z_Qi G ad h9 n0 s.heap.size r0) args s 0 0 (z_A ad n0 s.heap.size)) (F0 m 141 ls []) := by
    intro h H locs ls hB hl w hv kb
    refine lv_iconst (v := (0 : Int32)) hx hb dX7_readOne_141 (by decide) ?_
    replace hv := Option.some.inj hv
    subst hv
    obtain ⟨e1, e2⟩ := y_pr kb
    rw [← e1, ← e2]
    exact z_zret hc hB hr rfl dX7_readOne_142
  have b41 : ∀ (e4 : Nat) (x5 : Int32) (h : z_T) (H : Heap) (locs : List Loc) (ls : Array Slot), z_B G ad n0 s h H locs → lv_has ls 6 [(0, .ref (ad o0)), (1, .ref (ad o1)), (2, .ref (ad o2)), (3, .int x3), (4, .ref (G.2.2.2.1 e4)), (5, .int x5)] → ∀ w, fX7_readOne_b41 rc o0 o1 o2 x3 e4 x5 h = some w → w = (r0, h9) → W p l e (rm_X7_readOne (d + 1)) s m args below meth c H locs 0 0 (MQ below (z_Qi G ad h9 n0 s.heap.size r0) args s 0 0 (z_A ad n0 s.heap.size)) (F0 m 41 ls []) := by
    intro e4 x5 h H locs ls hB hl w hv kb
    refine lv_aload_n hx hb dX7_readOne_41 rfl (lv_at hl 0 rfl) ?_
    obtain ⟨g9, hv⟩ := y_gd_e hv
    refine z_getI hc hB 7 4 g9 (by decide) (by decide) rfl (z_l1 hc qfX7_71) dX7_readOne_42 ?_
    refine lv_bipush (v := (20 : Int32)) hx hb dX7_readOne_45 (by decide) ?_
    refine lv_icmp_ge (tgt := 56) hx hb dX7_readOne_47 (by decide) (fun c10 => ?_) (fun c10 => ?_)
    · replace hv := y_br_t hv c10
      exact b56 h _ _ _ hB (lv_sub hl [1] rfl) _ hv kb
    · replace hv := y_br_f hv c10
      refine lv_iload_n hx hb dX7_readOne_50 rfl (lv_at hl 3 rfl) ?_
      refine lv_bipush (v := (8 : Int32)) hx hb dX7_readOne_51 (by decide) ?_
      refine lv_icmp_le (tgt := 62) hx hb dX7_readOne_53 (by decide) (fun c11 => ?_) (fun c11 => ?_)
      · replace hv := y_br_t hv c11
        refine lv_aload_n hx hb dX7_readOne_62 rfl (lv_at hl 0 rfl) ?_
        refine lv_dup hx hb dX7_readOne_63 rfl ?_
        refine z_getI hc hB 7 4 g9 (by decide) (by decide) rfl (z_l1 hc qfX7_71) dX7_readOne_64 ?_
        refine lv_iconst (v := (1 : Int32)) hx hb dX7_readOne_67 (by decide) ?_
        refine lv_iadd hx hb dX7_readOne_68 ?_
        obtain ⟨h12, eh12, hv⟩ := y_nm_e hv
        refine y_putI hc hB 7 4 eh12 g9 (z_l1 hc qfX7_71) dX7_readOne_69 (by decide) (by decide) rfl rfl rfl rfl (fun H locs hB => ?_)
        refine lv_aload_n hx hb dX7_readOne_72 rfl (lv_at hl 1 rfl) ?_
        obtain ⟨g15, hv⟩ := y_gd_e hv
        obtain ⟨h14, c13, hv⟩ := y_bi_e hv
        refine z_thV hc hB (z_runV hc hB 6 (mm_X6_advance hSK l ad o1 h12 c13) md_X6_advance qmX7_44 g15 (by decide) rfl rfl rfl ⟨by simp only [rm_X7_readOne, rm_X6_advance]; omega, by simp only [rm_X7_readOne, rm_X6_advance]; omega⟩ rfl hl.1 rfl (Nat.le_of_ble_eq_true rfl) dX7_readOne_73 ⟨Nat.le_of_ble_eq_true rfl, Nat.le_of_ble_eq_true rfl⟩) (fun H locs hB => ?_)
        refine lv_iload hx hb dX7_readOne_76 (lv_at hl 5 rfl) ?_
        refine lv_if_eq (tgt := 108) hx hb dX7_readOne_78 (by decide) (fun c16 => ?_) (fun c16 => ?_)
        · replace hv := y_br_t hv c16
          refine lv_aload hx hb dX7_readOne_108 (lv_at hl 4 rfl) ?_
          refine z_gets hc hB (hc.2.1.2.2.2.1.1 16 (by decide)) qfX7_77 dX7_readOne_110 ?_
          obtain ⟨g17, hv⟩ := y_gd_e hv
          refine z_acmpN (tgt := 143) hc (z_lt g17) (by decide) dX7_readOne_113 (by decide) (fun c18 => ?_) (fun c18 => ?_)
          · replace hv := y_br_f hv c18
            refine lv_aload hx hb dX7_readOne_143 (lv_at hl 4 rfl) ?_
            refine z_gets hc hB (hc.2.1.2.2.2.1.1 17 (by decide)) qfX7_80 dX7_readOne_145 ?_
            refine z_acmpN (tgt := 161) hc (z_lt g17) (by decide) dX7_readOne_148 (by decide) (fun c19 => ?_) (fun c19 => ?_)
            · replace hv := y_br_f hv c19
              refine lv_aload hx hb dX7_readOne_161 (lv_at hl 4 rfl) ?_
              refine z_gets hc hB (hc.2.1.2.2.2.1.1 19 (by decide)) qfX7_89 dX7_readOne_163 ?_
              refine z_acmpN (tgt := 176) hc (z_lt g17) (by decide) dX7_readOne_166 (by decide) (fun c20 => ?_) (fun c20 => ?_)
              · replace hv := y_br_f hv c20
                refine lv_aload hx hb dX7_readOne_176 (lv_at hl 4 rfl) ?_
                refine z_gets hc hB (hc.2.1.2.2.2.1.1 18 (by decide)) qfX7_92 dX7_readOne_178 ?_
                refine z_acmpN (tgt := 193) hc (z_lt g17) (by decide) dX7_readOne_181 (by decide) (fun c21 => ?_) (fun c21 => ?_)
                · replace hv := y_br_f hv c21
                  refine lv_aload_n hx hb dX7_readOne_193 rfl (lv_at hl 0 rfl) ?_
                  refine lv_aload_n hx hb dX7_readOne_194 rfl (lv_at hl 1 rfl) ?_
                  refine lv_aload_n hx hb dX7_readOne_195 rfl (lv_at hl 2 rfl) ?_
                  refine lv_aload hx hb dX7_readOne_196 (lv_at hl 4 rfl) ?_
                  obtain ⟨g28, hv⟩ := y_gd_e hv
                  obtain ⟨⟨r23, h27⟩, c22, hv⟩ := y_bi_e hv
                  refine z_thI hc hB (z_runV hc hB 7 (mm_X7_readOrder hSK l ad o0 o1 o2 e4 h14 c22) md_X7_readOrder qmX7_99 g28 (by decide) rfl rfl rfl ⟨by simp only [rm_X7_readOne, rm_X7_readOrder]; omega, by simp only [rm_X7_readOne, rm_X7_readOrder]; omega⟩ rfl hl.1 rfl (Nat.le_of_ble_eq_true rfl) dX7_readOne_198 ⟨Nat.le_of_ble_eq_true rfl, Nat.le_of_ble_eq_true rfl⟩) (fun H locs hB => ?_)
                  obtain ⟨y29, hv⟩ := y_gd_e hv
                  replace hv := Option.some.inj hv
                  subst hv
                  obtain ⟨e1, e2⟩ := y_pr kb
                  rw [← e1, ← e2]
                  exact z_zret hc hB hr (y_b_n y29) dX7_readOne_201
                · replace hv := y_br_t hv c21
                  refine lv_aload_n hx hb dX7_readOne_184 rfl (lv_at hl 0 rfl) ?_
                  refine lv_aload_n hx hb dX7_readOne_185 rfl (lv_at hl 1 rfl) ?_
                  refine lv_aload_n hx hb dX7_readOne_186 rfl (lv_at hl 2 rfl) ?_
                  obtain ⟨g36, hv⟩ := y_gd_e hv
                  obtain ⟨⟨r31, h35⟩, c30, hv⟩ := y_bi_e hv
                  refine z_thI hc hB (z_runV hc hB 7 (mm_X7_readKept hSK l ad o0 o1 o2 h14 c30) md_X7_readKept qmX7_95 g36 (by decide) rfl rfl rfl ⟨by simp only [rm_X7_readOne, rm_X7_readKept]; omega, by simp only [rm_X7_readOne, rm_X7_readKept]; omega⟩ rfl hl.1 rfl (Nat.le_of_ble_eq_true rfl) dX7_readOne_187 ⟨Nat.le_of_ble_eq_true rfl, Nat.le_of_ble_eq_true rfl⟩) (fun H locs hB => ?_)
                  refine lv_goto (tgt := 201) hx hb dX7_readOne_190 (by decide) ?_
                  obtain ⟨y37, hv⟩ := y_gd_e hv
                  replace hv := Option.some.inj hv
                  subst hv
                  obtain ⟨e1, e2⟩ := y_pr kb
                  rw [← e1, ← e2]
                  exact z_zret hc hB hr (y_b_n y37) dX7_readOne_201
              · replace hv := y_br_t hv c20
                refine lv_aload_n hx hb dX7_readOne_169 rfl (lv_at hl 0 rfl) ?_
                refine lv_iconst (v := (1 : Int32)) hx hb dX7_readOne_170 (by decide) ?_
                refine lv_iconst (v := (0 : Int32)) hx hb dX7_readOne_171 (by decide) ?_
                obtain ⟨g44, hv⟩ := y_gd_e hv
                obtain ⟨⟨r39, h43⟩, c38, hv⟩ := y_bi_e hv
                refine z_thI hc hB (z_runV hc hB 7 (mm_X7_put hSK l ad o0 (1 : Int32) (0 : Int32) h14 c38) md_X7_put qmX7_47 g44 (by decide) rfl rfl rfl ⟨by simp only [rm_X7_readOne, rm_X7_put]; omega, by simp only [rm_X7_readOne, rm_X7_put]; omega⟩ rfl hl.1 rfl (Nat.le_of_ble_eq_true rfl) dX7_readOne_172 ⟨Nat.le_of_ble_eq_true rfl, Nat.le_of_ble_eq_true rfl⟩) (fun H locs hB => ?_)
                obtain ⟨y45, hv⟩ := y_gd_e hv
                replace hv := Option.some.inj hv
                subst hv
                obtain ⟨e1, e2⟩ := y_pr kb
                rw [← e1, ← e2]
                exact z_zret hc hB hr (y_b_n y45) dX7_readOne_175
            · replace hv := y_br_t hv c19
              refine lv_aload_n hx hb dX7_readOne_151 rfl (lv_at hl 0 rfl) ?_
              refine lv_iconst (v := (0 : Int32)) hx hb dX7_readOne_152 (by decide) ?_
              refine lv_aload_n hx hb dX7_readOne_153 rfl (lv_at hl 2 rfl) ?_
              obtain ⟨g51, hv⟩ := y_gd_e hv
              obtain ⟨r47, c46, hv⟩ := y_bi_e hv
              refine z_thI hc hB (z_runV hc hB 0 (mm_X0_goodTests hSK l ad o2 h14 c46) md_X0_goodTests qmX7_83 g51 (by decide) rfl rfl rfl ⟨by simp only [rm_X7_readOne, rm_X0_goodTests]; omega, by simp only [rm_X7_readOne, rm_X0_goodTests]; omega⟩ rfl hl.1 rfl (Nat.le_of_ble_eq_true rfl) dX7_readOne_154 ⟨Nat.le_of_ble_eq_true rfl, Nat.le_of_ble_eq_true rfl⟩) (fun H locs hB => ?_)
              obtain ⟨g58, hv⟩ := y_gd_e hv
              obtain ⟨⟨r53, h57⟩, c52, hv⟩ := y_bi_e hv
              refine z_thI hc hB (z_runV hc hB 7 (mm_X7_put hSK l ad o0 (0 : Int32) r47 h14 c52) md_X7_put qmX7_47 g58 (by decide) rfl rfl rfl ⟨by simp only [rm_X7_readOne, rm_X7_put]; omega, by simp only [rm_X7_readOne, rm_X7_put]; omega⟩ rfl hl.1 rfl (Nat.le_of_ble_eq_true rfl) dX7_readOne_157 ⟨Nat.le_of_ble_eq_true rfl, Nat.le_of_ble_eq_true rfl⟩) (fun H locs hB => ?_)
              obtain ⟨y59, hv⟩ := y_gd_e hv
              replace hv := Option.some.inj hv
              subst hv
              obtain ⟨e1, e2⟩ := y_pr kb
              rw [← e1, ← e2]
              exact z_zret hc hB hr (y_b_n y59) dX7_readOne_160
          · replace hv := y_br_t hv c18
            refine lv_aload_n hx hb dX7_readOne_116 rfl (lv_at hl 0 rfl) ?_
            refine lv_aload_n hx hb dX7_readOne_117 rfl (lv_at hl 1 rfl) ?_
            refine lv_aload_n hx hb dX7_readOne_118 rfl (lv_at hl 2 rfl) ?_
            refine lv_iload_n hx hb dX7_readOne_119 rfl (lv_at hl 3 rfl) ?_
            refine lv_iconst (v := (1 : Int32)) hx hb dX7_readOne_120 (by decide) ?_
            refine lv_iadd hx hb dX7_readOne_121 ?_
            obtain ⟨g66, hv⟩ := y_gd_e hv
            obtain ⟨⟨r61, h65⟩, c60, hv⟩ := y_bi_e hv
            refine z_thI hc hB (z_runV hc hB 7 (hrc o0 o1 o2 (x3 + (1 : Int32)) h14 c60) md_X7_readOne qmX7_51 g66 (by decide) rfl rfl rfl ⟨by simp only [rm_X7_readOne, rm_X7_readOne]; omega, by simp only [rm_X7_readOne, rm_X7_readOne]; omega⟩ rfl hl.1 rfl (Nat.le_of_ble_eq_true rfl) dX7_readOne_122 ⟨Nat.le_of_ble_eq_true rfl, Nat.le_of_ble_eq_true rfl⟩) (fun H locs hB => ?_)
            refine lv_if_eq (tgt := 141) hx hb dX7_readOne_125 (by decide) (fun c67 => ?_) (fun c67 => ?_)
            · replace hv := y_br_t hv c67
              exact b141 h65 _ _ _ hB (lv_sub hl [] rfl) _ hv kb
            · replace hv := y_br_f hv c67
              refine lv_aload_n hx hb dX7_readOne_128 rfl (lv_at hl 0 rfl) ?_
              refine lv_iconst (v := (2 : Int32)) hx hb dX7_readOne_129 (by decide) ?_
              refine lv_iconst (v := (0 : Int32)) hx hb dX7_readOne_130 (by decide) ?_
              obtain ⟨g74, hv⟩ := y_gd_e hv
              obtain ⟨⟨r69, h73⟩, c68, hv⟩ := y_bi_e hv
              refine z_thI hc hB (z_runV hc hB 7 (mm_X7_put hSK l ad o0 (2 : Int32) (0 : Int32) h65 c68) md_X7_put qmX7_47 g74 (by decide) rfl rfl rfl ⟨by simp only [rm_X7_readOne, rm_X7_put]; omega, by simp only [rm_X7_readOne, rm_X7_put]; omega⟩ rfl hl.1 rfl (Nat.le_of_ble_eq_true rfl) dX7_readOne_131 ⟨Nat.le_of_ble_eq_true rfl, Nat.le_of_ble_eq_true rfl⟩) (fun H locs hB => ?_)
              refine lv_if_eq (tgt := 141) hx hb dX7_readOne_134 (by decide) (fun c75 => ?_) (fun c75 => ?_)
              · replace hv := y_br_t hv c75
                exact b141 h73 _ _ _ hB (lv_sub hl [] rfl) _ hv kb
              · replace hv := y_br_f hv c75
                refine lv_iconst (v := (1 : Int32)) hx hb dX7_readOne_137 (by decide) ?_
                refine lv_goto (tgt := 142) hx hb dX7_readOne_138 (by decide) ?_
                replace hv := Option.some.inj hv
                subst hv
                obtain ⟨e1, e2⟩ := y_pr kb
                rw [← e1, ← e2]
                exact z_zret hc hB hr rfl dX7_readOne_142
        · replace hv := y_br_f hv c16
          refine lv_aload_n hx hb dX7_readOne_81 rfl (lv_at hl 0 rfl) ?_
          refine lv_aload_n hx hb dX7_readOne_82 rfl (lv_at hl 1 rfl) ?_
          refine lv_aload_n hx hb dX7_readOne_83 rfl (lv_at hl 2 rfl) ?_
          refine lv_iload_n hx hb dX7_readOne_84 rfl (lv_at hl 3 rfl) ?_
          refine lv_iconst (v := (1 : Int32)) hx hb dX7_readOne_85 (by decide) ?_
          refine lv_iadd hx hb dX7_readOne_86 ?_
          obtain ⟨g82, hv⟩ := y_gd_e hv
          obtain ⟨⟨r77, h81⟩, c76, hv⟩ := y_bi_e hv
          refine z_thI hc hB (z_runV hc hB 7 (mh_X7_readCond hSK l ad d rc hrc o0 o1 o2 (x3 + (1 : Int32)) h14 c76) md_X7_readCond qmX7_21 g82 (by decide) rfl rfl rfl ⟨by simp only [rm_X7_readOne, rm_X7_readCond]; omega, by simp only [rm_X7_readOne, rm_X7_readCond]; omega⟩ rfl hl.1 rfl (Nat.le_of_ble_eq_true rfl) dX7_readOne_87 ⟨Nat.le_of_ble_eq_true rfl, Nat.le_of_ble_eq_true rfl⟩) (fun H locs hB => ?_)
          refine lv_if_eq (tgt := 106) hx hb dX7_readOne_90 (by decide) (fun c83 => ?_) (fun c83 => ?_)
          · replace hv := y_br_t hv c83
            exact b106 h81 _ _ _ hB (lv_sub hl [] rfl) _ hv kb
          · replace hv := y_br_f hv c83
            refine lv_aload_n hx hb dX7_readOne_93 rfl (lv_at hl 1 rfl) ?_
            refine lv_bipush (v := (41 : Int32)) hx hb dX7_readOne_94 (by decide) ?_
            obtain ⟨g90, hv⟩ := y_gd_e hv
            obtain ⟨⟨r85, h89⟩, c84, hv⟩ := y_bi_e hv
            refine z_thI hc hB (z_runV hc hB 6 (mm_X6_take hSK l ad o1 (41 : Int32) h81 c84) md_X6_take qmX7_74 g90 (by decide) rfl rfl rfl ⟨by simp only [rm_X7_readOne, rm_X6_take]; omega, by simp only [rm_X7_readOne, rm_X6_take]; omega⟩ rfl hl.1 rfl (Nat.le_of_ble_eq_true rfl) dX7_readOne_96 ⟨Nat.le_of_ble_eq_true rfl, Nat.le_of_ble_eq_true rfl⟩) (fun H locs hB => ?_)
            refine lv_if_eq (tgt := 106) hx hb dX7_readOne_99 (by decide) (fun c91 => ?_) (fun c91 => ?_)
            · replace hv := y_br_t hv c91
              exact b106 h89 _ _ _ hB (lv_sub hl [] rfl) _ hv kb
            · replace hv := y_br_f hv c91
              refine lv_iconst (v := (1 : Int32)) hx hb dX7_readOne_102 (by decide) ?_
              refine lv_goto (tgt := 107) hx hb dX7_readOne_103 (by decide) ?_
              replace hv := Option.some.inj hv
              subst hv
              obtain ⟨e1, e2⟩ := y_pr kb
              rw [← e1, ← e2]
              exact z_zret hc hB hr rfl dX7_readOne_107
      · replace hv := y_br_f hv c11
        exact b56 h _ _ _ hB (lv_sub hl [1] rfl) _ hv kb
  have b20 : ∀ (e4 : Nat) (s0 : Int32) (h : z_T) (H : Heap) (locs : List Loc) (ls : Array Slot), z_B G ad n0 s h H locs → lv_has ls 6 [(0, .ref (ad o0)), (1, .ref (ad o1)), (2, .ref (ad o2)), (3, .int x3), (4, .ref (G.2.2.2.1 e4))] → ∀ w, fX7_readOne_b20 rc o0 o1 o2 x3 e4 s0 h = some w → w = (r0, h9) → W p l e (rm_X7_readOne (d + 1)) s m args below meth c H locs 0 0 (MQ below (z_Qi G ad h9 n0 s.heap.size r0) args s 0 0 (z_A ad n0 s.heap.size)) (F0 m 20 ls [.int s0]) := by
    intro e4 s0 h H locs ls hB hl w hv kb
    refine lv_istore (lv' := [(5, .int s0), (0, .ref (ad o0)), (1, .ref (ad o1)), (2, .ref (ad o2)), (3, .int x3), (4, .ref (G.2.2.2.1 e4))]) hx hb dX7_readOne_20 hl (by decide) rfl (fun ls hl => ?_)
    refine lv_iload hx hb dX7_readOne_22 (lv_at hl 0 rfl) ?_
    refine lv_if_ne (tgt := 41) hx hb dX7_readOne_24 (by decide) (fun c92 => ?_) (fun c92 => ?_)
    · replace hv := y_br_f hv c92
      exact b41 e4 s0 h _ _ _ hB (lv_sub hl [1, 2, 3, 4, 5, 0] rfl) _ hv kb
    · replace hv := y_br_t hv c92
      refine lv_aload hx hb dX7_readOne_27 (lv_at hl 5 rfl) ?_
      obtain ⟨r94, c93, hv⟩ := y_bi_e hv
      refine z_thI hc hB (z_runS hc hB (mm_X7_beginsOne hSK l ad e4 h c93) md_X7_beginsOne qmX7_64 rfl rfl ⟨by simp only [rm_X7_readOne, rm_X7_beginsOne]; omega, by simp only [rm_X7_readOne, rm_X7_beginsOne]; omega⟩ rfl hl.1 rfl (Nat.le_of_ble_eq_true rfl) dX7_readOne_29 ⟨Nat.le_of_ble_eq_true rfl, Nat.le_of_ble_eq_true rfl⟩) (fun H locs hB => ?_)
      refine lv_if_ne (tgt := 41) hx hb dX7_readOne_32 (by decide) (fun c98 => ?_) (fun c98 => ?_)
      · replace hv := y_br_f hv c98
        exact b41 e4 s0 h _ _ _ hB (lv_sub hl [1, 2, 3, 4, 5, 0] rfl) _ hv kb
      · replace hv := y_br_t hv c98
        refine lv_aload_n hx hb dX7_readOne_35 rfl (lv_at hl 2 rfl) ?_
        refine lv_iconst (v := (1 : Int32)) hx hb dX7_readOne_36 (by decide) ?_
        obtain ⟨g105, hv⟩ := y_gd_e hv
        obtain ⟨⟨r100, h104⟩, c99, hv⟩ := y_bi_e hv
        refine z_thI hc hB (z_runV hc hB 6 (mm_X6_fail hSK l ad o1 (1 : Int32) h c99) md_X6_fail qmX7_67 g105 (by decide) rfl rfl rfl ⟨by simp only [rm_X7_readOne, rm_X6_fail]; omega, by simp only [rm_X7_readOne, rm_X6_fail]; omega⟩ rfl hl.1 rfl (Nat.le_of_ble_eq_true rfl) dX7_readOne_37 ⟨Nat.le_of_ble_eq_true rfl, Nat.le_of_ble_eq_true rfl⟩) (fun H locs hB => ?_)
        obtain ⟨y106, hv⟩ := y_gd_e hv
        replace hv := Option.some.inj hv
        subst hv
        obtain ⟨e1, e2⟩ := y_pr kb
        rw [← e1, ← e2]
        exact z_zret hc hB hr (y_b_n y106) dX7_readOne_40
  rw [← kt] at hv
  refine lv_aload_n hx hb dX7_readOne_0 rfl (lv_at hl 1 rfl) ?_
  obtain ⟨g107, hv⟩ := y_gd_e hv
  obtain ⟨ob108, eob108, hv⟩ := y_bi_e hv
  refine z_getE hc hB 6 7 g107 eob108 (by decide) (by decide) rfl (z_l2 hc qfX7_57) dX7_readOne_1 ?_
  refine lv_astore (lv' := [(4, .ref (G.2.2.2.1 ob108)), (0, .ref (ad o0)), (1, .ref (ad o1)), (2, .ref (ad o2)), (3, .int x3)]) hx hb dX7_readOne_4 hl (by decide) rfl (fun ls hl => ?_)
  refine lv_aload_n hx hb dX7_readOne_6 rfl (lv_at hl 2 rfl) ?_
  refine z_getI hc hB 6 4 g107 (by decide) (by decide) rfl (z_l2 hc qfX7_60) dX7_readOne_7 ?_
  refine lv_bipush (v := (40 : Int32)) hx hb dX7_readOne_10 (by decide) ?_
  refine lv_icmp_ne (tgt := 19) hx hb dX7_readOne_12 (by decide) (fun c109 => ?_) (fun c109 => ?_)
  · replace hv := y_br_f hv c109
    refine lv_iconst (v := (0 : Int32)) hx hb dX7_readOne_19 (by decide) ?_
    exact b20 ob108 (0 : Int32) h _ _ _ hB (lv_sub hl [1, 2, 3, 4, 0] rfl) _ hv kt
  · replace hv := y_br_t hv c109
    refine lv_iconst (v := (1 : Int32)) hx hb dX7_readOne_15 (by decide) ?_
    refine lv_goto (tgt := 20) hx hb dX7_readOne_16 (by decide) ?_
    exact b20 ob108 (1 : Int32) h _ _ _ hB (lv_sub hl [1, 2, 3, 4, 0] rfl) _ hv kt
noncomputable def fX7_readOne : Nat → Nat → Nat → Nat → Int32 → z_T → Option (Int32 × z_T)
  | 0, _, _, _, _, _ => none
  | d + 1, o0, o1, o2, x3, h => fX7_readOne_s (fX7_readOne d) o0 o1 o2 x3 h
theorem mm_X7_readOne {G : z_Gt} (hSK : z_SK (z_S G)) (l : Launch) (ad : Nat → Nat) : ∀ (d : Nat) (o0 : Nat) (o1 : Nat) (o2 : Nat) (x3 : Int32) (h : z_T) {r0 : Int32} {h9 : z_T}, fX7_readOne d o0 o1 o2 x3 h = some (r0, h9) → z_Mi G (z_S G) l yX7_readOne cX7_readOne 6 (.boolean) (rm_X7_readOne d) 0 0 [.ref (ad o0), .ref (ad o1), .ref (ad o2), .int x3] ad h h9 r0
  | 0, o0, o1, o2, x3, h, _, _, hv => by cases hv
  | d + 1, o0, o1, o2, x3, h, _, _, hv => mh_X7_readOne hSK l ad d (fX7_readOne d) (fun o0 o1 o2 x3 h => fun hv => mm_X7_readOne hSK l ad d o0 o1 o2 x3 h hv) o0 o1 o2 x3 h hv
theorem qmX7_25 : Cond.methodLink RX7 25 yX6_takeEnd ∈ z_ws := List.mem_filter.mpr ⟨List.mem_append_right _ (List.mem_of_getElem? (i := 1035) (by decide +kernel)), rfl⟩
theorem qc_X6_takeEnd : Cond.code yX6_takeEnd cX6_takeEnd 1 (some .boolean) ∈ z_ws := List.mem_filter.mpr ⟨List.mem_append_right _ (List.mem_of_getElem? (i := 814) (by decide +kernel)), rfl⟩
theorem qi_X6_takeEnd : Cond.instanceMethod yX6_takeEnd ∈ z_ws := List.mem_filter.mpr ⟨List.mem_append_right _ (List.mem_of_getElem? (i := 812) (by decide +kernel)), rfl⟩
theorem qs_X6_takeEnd : Cond.selects RX6 yX6_takeEnd yX6_takeEnd ∈ z_ws := List.mem_filter.mpr ⟨List.mem_append_right _ (List.mem_of_getElem? (i := 813) (by decide +kernel)), rfl⟩
theorem md_X6_takeEnd : z_mdV yX6_takeEnd cX6_takeEnd 1 (some .boolean) 0 := ⟨⟨qn_RX6, qc_X6_takeEnd, ⟨by decide +kernel, by decide +kernel, by decide +kernel⟩⟩, qi_X6_takeEnd, qs_X6_takeEnd⟩
theorem dX7_readWhole_0 : decode cX7_readWhole 0 = .ok (.aload_n 0, 1) := by decide +kernel
theorem dX7_readWhole_1 : decode cX7_readWhole 1 = .ok (.aload_n 1, 1) := by decide +kernel
theorem dX7_readWhole_2 : decode cX7_readWhole 2 = .ok (.aload_n 2, 1) := by decide +kernel
theorem dX7_readWhole_3 : decode cX7_readWhole 3 = .ok (.iconst 1, 1) := by decide +kernel
theorem dX7_readWhole_4 : decode cX7_readWhole 4 = .ok (.invokevirtual 21, 3) := by decide +kernel
theorem dX7_readWhole_7 : decode cX7_readWhole 7 = .ok (.ifCond .eq 14, 3) := by decide +kernel
theorem dX7_readWhole_10 : decode cX7_readWhole 10 = .ok (.aload_n 1, 1) := by decide +kernel
theorem dX7_readWhole_11 : decode cX7_readWhole 11 = .ok (.invokevirtual 25, 3) := by decide +kernel
theorem dX7_readWhole_14 : decode cX7_readWhole 14 = .ok (.ifCond .eq 7, 3) := by decide +kernel
theorem dX7_readWhole_17 : decode cX7_readWhole 17 = .ok (.iconst 1, 1) := by decide +kernel
theorem dX7_readWhole_18 : decode cX7_readWhole 18 = .ok (.goto 4, 3) := by decide +kernel
theorem dX7_readWhole_21 : decode cX7_readWhole 21 = .ok (.iconst 0, 1) := by decide +kernel
theorem dX7_readWhole_22 : decode cX7_readWhole 22 = .ok (.ireturn, 1) := by decide +kernel
abbrev rm_X7_readWhole : Room := { frames := 41, cells := 0, slots := 0, locals := 1021 }
noncomputable def fX7_readWhole_b21  (h : z_T) : Option (Int32 × z_T) :=
  some ((0 : Int32), h)
noncomputable def fX7_readWhole (o0 : Nat) (o1 : Nat) (o2 : Nat) (h : z_T) : Option (Int32 × z_T) :=
  y_gd (z_ok h o0 7) <|
  y_bi (fX7_readCond (fX7_readOne 10) o0 o1 o2 (1 : Int32) h) fun ⟨r2, h6⟩ =>
  y_br (r2 = 0)
    (fX7_readWhole_b21 h6)
    (y_gd (z_ok h6 o1 6) <|
    y_bi (fX6_takeEnd o1 h6) fun ⟨r10, h14⟩ =>
    y_br (r10 = 0)
      (fX7_readWhole_b21 h14)
      (some ((1 : Int32), h14)))
set_option maxHeartbeats 4000000 in
set_option maxRecDepth 100000 in
theorem mm_X7_readWhole {G : z_Gt} (hSK : z_SK (z_S G)) (l : Launch) (ad : Nat → Nat) (o0 : Nat) (o1 : Nat) (o2 : Nat) (h : z_T) {r0 : Int32} {h9 : z_T} (hv : fX7_readWhole o0 o1 o2 h = some (r0, h9)) : z_Mi G (z_S G) l yX7_readWhole cX7_readWhole 3 (.boolean) rm_X7_readWhole 0 0 [.ref (ad o0), .ref (ad o1), .ref (ad o2)] ad h h9 r0 := by
  refine z_ofW hSK (by decide) (Nat.le_of_ble_eq_true rfl) ?_
  intro p e s m args below meth c ls hc hr hnm hB hl
  have hx := hc.1.1
  have hb := hc.1.2.1
  have hown := hc.1.2.2.2.1
  have hts := hc.1.2.2.2.2
  replace hc : z_C G (z_S G) ad (z_n h) p m c cX7_readWhole 3 s args RX7 meth := hc
  replace hown : s.vm.findClass RX7 = some m.cls := hown
  replace hl : lv_has ls 3 [(0, .ref (ad o0)), (1, .ref (ad o1)), (2, .ref (ad o2))] := hl
  show W p l e rm_X7_readWhole s m args below meth c s.heap [] 0 0 (MQ below (z_Qi G ad h9 (z_n h) s.heap.size r0) args s 0 0 (z_A ad (z_n h) s.heap.size)) (F0 m 0 ls [])
  obtain ⟨rs, kt⟩ : ∃ rs : Int32 × z_T, rs = (r0, h9) := ⟨_, rfl⟩
  generalize hn0 : z_n h = n0 at hc hB ⊢
  have b21 : ∀ (h : z_T) (H : Heap) (locs : List Loc) (ls : Array Slot), z_B G ad n0 s h H locs → lv_has ls 3 [] → ∀ w, fX7_readWhole_b21 h = some w → w = (r0, h9) → W p l e rm_X7_readWhole s m args below meth c H locs 0 0 (MQ below (z_Qi G ad h9 n0 s.heap.size r0) args s 0 0 (z_A ad n0 s.heap.size)) (F0 m 21 ls []) := by
    intro h H locs ls hB hl w hv kb
    refine lv_iconst (v := (0 : Int32)) hx hb dX7_readWhole_21 (by decide) ?_
    replace hv := Option.some.inj hv
    subst hv
    obtain ⟨e1, e2⟩ := y_pr kb
    rw [← e1, ← e2]
    exact z_zret hc hB hr rfl dX7_readWhole_22
  rw [← kt] at hv
  refine lv_aload_n hx hb dX7_readWhole_0 rfl (lv_at hl 0 rfl) ?_
  refine lv_aload_n hx hb dX7_readWhole_1 rfl (lv_at hl 1 rfl) ?_
  refine lv_aload_n hx hb dX7_readWhole_2 rfl (lv_at hl 2 rfl) ?_
  refine lv_iconst (v := (1 : Int32)) hx hb dX7_readWhole_3 (by decide) ?_
  obtain ⟨g7, hv⟩ := y_gd_e hv
  obtain ⟨⟨r2, h6⟩, c1, hv⟩ := y_bi_e hv
  refine z_thI hc hB (z_runV hc hB 7 (mh_X7_readCond hSK l ad 10 (fX7_readOne 10) (mm_X7_readOne hSK l ad 10) o0 o1 o2 (1 : Int32) h c1) md_X7_readCond qmX7_21 g7 (by decide) rfl rfl rfl ⟨Nat.le_of_ble_eq_true rfl, Nat.le_of_ble_eq_true rfl⟩ rfl hl.1 rfl (Nat.le_of_ble_eq_true rfl) dX7_readWhole_4 ⟨Nat.le_of_ble_eq_true rfl, Nat.le_of_ble_eq_true rfl⟩) (fun H locs hB => ?_)
  refine lv_if_eq (tgt := 21) hx hb dX7_readWhole_7 (by decide) (fun c8 => ?_) (fun c8 => ?_)
  · replace hv := y_br_t hv c8
    exact b21 h6 _ _ _ hB (lv_sub hl [] rfl) _ hv kt
  · replace hv := y_br_f hv c8
    refine lv_aload_n hx hb dX7_readWhole_10 rfl (lv_at hl 1 rfl) ?_
    obtain ⟨g15, hv⟩ := y_gd_e hv
    obtain ⟨⟨r10, h14⟩, c9, hv⟩ := y_bi_e hv
    refine z_thI hc hB (z_runV hc hB 6 (mm_X6_takeEnd hSK l ad o1 h6 c9) md_X6_takeEnd qmX7_25 g15 (by decide) rfl rfl rfl ⟨Nat.le_of_ble_eq_true rfl, Nat.le_of_ble_eq_true rfl⟩ rfl hl.1 rfl (Nat.le_of_ble_eq_true rfl) dX7_readWhole_11 ⟨Nat.le_of_ble_eq_true rfl, Nat.le_of_ble_eq_true rfl⟩) (fun H locs hB => ?_)
    refine lv_if_eq (tgt := 21) hx hb dX7_readWhole_14 (by decide) (fun c16 => ?_) (fun c16 => ?_)
    · replace hv := y_br_t hv c16
      exact b21 h14 _ _ _ hB (lv_sub hl [] rfl) _ hv kt
    · replace hv := y_br_f hv c16
      refine lv_iconst (v := (1 : Int32)) hx hb dX7_readWhole_17 (by decide) ?_
      refine lv_goto (tgt := 22) hx hb dX7_readWhole_18 (by decide) ?_
      replace hv := Option.some.inj hv
      subst hv
      obtain ⟨e1, e2⟩ := y_pr kt
      rw [← e1, ← e2]
      exact z_zret hc hB hr rfl dX7_readWhole_22
theorem qmX7_149 : Cond.methodLink RX7 149 yX2_timesAsked ∈ z_ws := List.mem_filter.mpr ⟨List.mem_append_right _ (List.mem_of_getElem? (i := 1047) (by decide +kernel)), rfl⟩
theorem dX7_askedIn_0 : decode cX7_askedIn 0 = .ok (.iconst 0, 1) := by decide +kernel
theorem dX7_askedIn_1 : decode cX7_askedIn 1 = .ok (.istore_n 1, 1) := by decide +kernel
theorem dX7_askedIn_2 : decode cX7_askedIn 2 = .ok (.iconst 0, 1) := by decide +kernel
theorem dX7_askedIn_3 : decode cX7_askedIn 3 = .ok (.istore_n 2, 1) := by decide +kernel
theorem dX7_askedIn_4 : decode cX7_askedIn 4 = .ok (.iload_n 2, 1) := by decide +kernel
theorem dX7_askedIn_5 : decode cX7_askedIn 5 = .ok (.bipush 8, 2) := by decide +kernel
theorem dX7_askedIn_7 : decode cX7_askedIn 7 = .ok (.if_icmp .ge 23, 3) := by decide +kernel
theorem dX7_askedIn_10 : decode cX7_askedIn 10 = .ok (.aload_n 0, 1) := by decide +kernel
theorem dX7_askedIn_11 : decode cX7_askedIn 11 = .ok (.iload_n 2, 1) := by decide +kernel
theorem dX7_askedIn_12 : decode cX7_askedIn 12 = .ok (.invokevirtual 149, 3) := by decide +kernel
theorem dX7_askedIn_15 : decode cX7_askedIn 15 = .ok (.ifCond .le 9, 3) := by decide +kernel
theorem dX7_askedIn_18 : decode cX7_askedIn 18 = .ok (.iload_n 1, 1) := by decide +kernel
theorem dX7_askedIn_19 : decode cX7_askedIn 19 = .ok (.iconst 1, 1) := by decide +kernel
theorem dX7_askedIn_20 : decode cX7_askedIn 20 = .ok (.iload_n 2, 1) := by decide +kernel
theorem dX7_askedIn_21 : decode cX7_askedIn 21 = .ok (.ishl, 1) := by decide +kernel
theorem dX7_askedIn_22 : decode cX7_askedIn 22 = .ok (.ior, 1) := by decide +kernel
theorem dX7_askedIn_23 : decode cX7_askedIn 23 = .ok (.istore_n 1, 1) := by decide +kernel
theorem dX7_askedIn_24 : decode cX7_askedIn 24 = .ok (.iinc 2 1, 3) := by decide +kernel
theorem dX7_askedIn_27 : decode cX7_askedIn 27 = .ok (.goto (-23), 3) := by decide +kernel
theorem dX7_askedIn_30 : decode cX7_askedIn 30 = .ok (.iload_n 1, 1) := by decide +kernel
theorem dX7_askedIn_31 : decode cX7_askedIn 31 = .ok (.ireturn, 1) := by decide +kernel
abbrev rm_X7_askedIn : Room := { frames := 1, cells := 0, slots := 0, locals := 21 }
noncomputable def fX7_askedIn_b24 (o0 : Nat) (x1 : Int32) (x2 : Int32) (h : z_T) : Option ((Int32 × Int32) ⊕ (Int32)) :=
  y_nm (x2 + 1) fun v1 =>
  some (.inl (x1, v1))
noncomputable def fX7_askedIn_b4_i (o0 : Nat) (h : z_T) (x1 : Int32) (x2 : Int32) : Option ((Int32 × Int32) ⊕ (Int32)) :=
  y_br ((8 : Int32) ≤ x2)
    (y_mp <|
    some x1)
    (y_gd (z_ok h o0 2) <|
    y_bi (fX2_timesAsked o0 x2 h) fun r5 =>
    y_br (r5 ≤ 0)
      (fX7_askedIn_b24 o0 x1 x2 h)
      (y_nm ((x1 ||| ((1 : Int32) <<< (x2 &&& 31)))) fun v11 =>
      fX7_askedIn_b24 o0 v11 x2 h))
noncomputable def fX7_askedIn_b4 (o0 : Nat) (x1 : Int32) (x2 : Int32) (h : z_T) : Option (Int32) := y_lp (fun q : Int32 × Int32 => fX7_askedIn_b4_i o0 h q.1 q.2) (x1, x2)
noncomputable def fX7_askedIn (o0 : Nat) (h : z_T) : Option (Int32) :=
  fX7_askedIn_b4 o0 (0 : Int32) (0 : Int32) h
set_option maxHeartbeats 4000000 in
set_option maxRecDepth 100000 in
theorem mm_X7_askedIn {G : z_Gt} (hSK : z_SK (z_S G)) (l : Launch) (ad : Nat → Nat) (o0 : Nat) (h : z_T) {r0 : Int32} (hv : fX7_askedIn o0 h = some r0) : z_Mi G (z_S G) l yX7_askedIn cX7_askedIn 3 (.int) rm_X7_askedIn 0 0 [.ref (ad o0)] ad h h r0 := by
  refine z_ofW hSK (by decide) (Nat.le_of_ble_eq_true rfl) ?_
  intro p e s m args below meth c ls hc hr hnm hB hl
  have hx := hc.1.1
  have hb := hc.1.2.1
  have hown := hc.1.2.2.2.1
  have hts := hc.1.2.2.2.2
  replace hc : z_C G (z_S G) ad (z_n h) p m c cX7_askedIn 3 s args RX7 meth := hc
  replace hown : s.vm.findClass RX7 = some m.cls := hown
  replace hl : lv_has ls 3 [(0, .ref (ad o0))] := hl
  show W p l e rm_X7_askedIn s m args below meth c s.heap [] 0 0 (MQ below (z_Qi G ad h (z_n h) s.heap.size r0) args s 0 0 (z_A ad (z_n h) s.heap.size)) (F0 m 0 ls [])
  obtain ⟨rs, kt⟩ : ∃ rs : Int32, rs = r0 := ⟨_, rfl⟩
  generalize hn0 : z_n h = n0 at hc hB ⊢
  have L4 : ∀ (nn4 : Nat) (x1 : Int32) (x2 : Int32) (H : Heap) (locs : List Loc) (ls : Array Slot), z_B G ad n0 s h H locs → lv_has ls 3 [(0, .ref (ad o0)), (1, .int x1), (2, .int x2)] → ∀ vv4, y_lpN (fun q : Int32 × Int32 => fX7_askedIn_b4_i o0 h q.1 q.2) nn4 (x1, x2) = some vv4 → vv4 = r0 → W p l e rm_X7_askedIn s m args below meth c H locs 0 0 (MQ below (z_Qi G ad h n0 s.heap.size r0) args s 0 0 (z_A ad n0 s.heap.size)) (F0 m 4 ls []) := by
    intro nn4
    induction nn4 with
    | zero => intro x1 x2 H locs ls hB hl vv4 hv kv4; exact absurd hv (fun q => y_lpN_0 q)
    | succ nn4 ih4 =>
      intro x1 x2 H locs ls hB hl vv4 hv kv4
      obtain ⟨w, hq, kw4⟩ := y_lpN_e hv
      clear hv
      have hv : fX7_askedIn_b4_i o0 h x1 x2 = some w := hq
      clear hq
      have b24 : ∀ (x1 : Int32) (x2 : Int32) (H : Heap) (locs : List Loc) (ls : Array Slot), z_B G ad n0 s h H locs → lv_has ls 3 [(0, .ref (ad o0)), (1, .int x1), (2, .int x2)] → ∀ w, fX7_askedIn_b24 o0 x1 x2 h = some w → y_lq (fun q : Int32 × Int32 => fX7_askedIn_b4_i o0 h q.1 q.2) nn4 vv4 w → W p l e rm_X7_askedIn s m args below meth c H locs 0 0 (MQ below (z_Qi G ad h n0 s.heap.size r0) args s 0 0 (z_A ad n0 s.heap.size)) (F0 m 24 ls []) := by
        intro x1 x2 H locs ls hB hl w hv kw4
        obtain ⟨v1, ev1, hv⟩ := y_nm_e hv
        refine lv_iinc (v := v1) (lv' := [(2, .int v1), (0, .ref (ad o0)), (1, .int x1)]) hx hb dX7_askedIn_24 hl (k := 2) rfl (by rw [ev1]; rfl) (by decide) rfl (fun ls hl => ?_)
        refine lv_goto (tgt := 4) hx hb dX7_askedIn_27 (by decide) ?_
        replace hv := Option.some.inj hv
        subst hv
        exact ih4 x1 v1 _ _ _ hB (lv_sub hl [1, 2, 0] rfl) _ kw4 kv4
      refine lv_iload_n hx hb dX7_askedIn_4 rfl (lv_at hl 2 rfl) ?_
      refine lv_bipush (v := (8 : Int32)) hx hb dX7_askedIn_5 (by decide) ?_
      refine lv_icmp_ge (tgt := 30) hx hb dX7_askedIn_7 (by decide) (fun c2 => ?_) (fun c2 => ?_)
      · replace hv := y_br_t hv c2
        obtain ⟨t3, hq, ew⟩ := y_mp_e hv
        clear hv; subst ew
        replace kw4 : t3 = _ := kw4
        subst kw4
        have hv := hq
        clear hq
        refine lv_iload_n hx hb dX7_askedIn_30 rfl (lv_at hl 1 rfl) ?_
        replace hv := Option.some.inj hv
        subst hv
        rw [← kv4]
        exact z_iret hc hB hr dX7_askedIn_31
      · replace hv := y_br_f hv c2
        refine lv_aload_n hx hb dX7_askedIn_10 rfl (lv_at hl 0 rfl) ?_
        refine lv_iload_n hx hb dX7_askedIn_11 rfl (lv_at hl 2 rfl) ?_
        obtain ⟨g9, hv⟩ := y_gd_e hv
        obtain ⟨r5, c4, hv⟩ := y_bi_e hv
        refine z_thI hc hB (z_runV hc hB 2 (mm_X2_timesAsked hSK l ad o0 x2 h c4) md_X2_timesAsked qmX7_149 g9 (by decide) rfl rfl rfl ⟨Nat.le_of_ble_eq_true rfl, Nat.le_of_ble_eq_true rfl⟩ rfl hl.1 rfl (Nat.le_of_ble_eq_true rfl) dX7_askedIn_12 ⟨Nat.le_of_ble_eq_true rfl, Nat.le_of_ble_eq_true rfl⟩) (fun H locs hB => ?_)
        refine lv_if_le (tgt := 24) hx hb dX7_askedIn_15 (by decide) (fun c10 => ?_) (fun c10 => ?_)
        · replace hv := y_br_t hv c10
          exact b24 x1 x2 _ _ _ hB (lv_sub hl [0, 1, 2] rfl) _ hv kw4
        · replace hv := y_br_f hv c10
          refine lv_iload_n hx hb dX7_askedIn_18 rfl (lv_at hl 1 rfl) ?_
          refine lv_iconst (v := (1 : Int32)) hx hb dX7_askedIn_19 (by decide) ?_
          refine lv_iload_n hx hb dX7_askedIn_20 rfl (lv_at hl 2 rfl) ?_
          refine lv_ishl hx hb dX7_askedIn_21 ?_
          refine lv_ior hx hb dX7_askedIn_22 ?_
          obtain ⟨v11, ev11, hv⟩ := y_nm_e hv
          rw [← ev11]
          refine lv_istore_n (lv' := [(1, .int v11), (0, .ref (ad o0)), (2, .int x2)]) hx hb dX7_askedIn_23 rfl hl (by decide) rfl (fun ls hl => ?_)
          exact b24 v11 x2 _ _ _ hB (lv_sub hl [1, 0, 2] rfl) _ hv kw4
  rw [← kt] at hv
  refine lv_iconst (v := (0 : Int32)) hx hb dX7_askedIn_0 (by decide) ?_
  refine lv_istore_n (lv' := [(1, .int (0 : Int32)), (0, .ref (ad o0))]) hx hb dX7_askedIn_1 rfl hl (by decide) rfl (fun ls hl => ?_)
  refine lv_iconst (v := (0 : Int32)) hx hb dX7_askedIn_2 (by decide) ?_
  refine lv_istore_n (lv' := [(2, .int (0 : Int32)), (1, .int (0 : Int32)), (0, .ref (ad o0))]) hx hb dX7_askedIn_3 rfl hl (by decide) rfl (fun ls hl => ?_)
  obtain ⟨n, hv⟩ := y_lp_e hv
  exact L4 n (0 : Int32) (0 : Int32) _ _ _ hB (lv_sub hl [2, 1, 0] rfl) _ hv kt
theorem qfX7_143 : Cond.fieldLinkNest RX7 143 "DreamTests$Night" "book" "LDreamTests$Book;" "DreamTests" ∈ z_nw := List.mem_filter.mpr ⟨List.mem_of_getElem? (i := 165) (by decide +kernel), rfl⟩
theorem qmX7_139 : Cond.methodLink RX7 139 yX7_askedIn ∈ z_ws := List.mem_filter.mpr ⟨List.mem_append_right _ (List.mem_of_getElem? (i := 1044) (by decide +kernel)), rfl⟩
theorem qc_X7_askedIn : Cond.code yX7_askedIn cX7_askedIn 3 (some .int) ∈ z_ws := List.mem_filter.mpr ⟨List.mem_append_right _ (List.mem_of_getElem? (i := 1046) (by decide +kernel)), rfl⟩
theorem qs_X7_askedIn : Cond.static yX7_askedIn ∈ z_ws := List.mem_filter.mpr ⟨List.mem_append_right _ (List.mem_of_getElem? (i := 1045) (by decide +kernel)), rfl⟩
theorem md_X7_askedIn : z_mdS yX7_askedIn cX7_askedIn 3 (some .int) 1 := ⟨⟨qn_RX7, qc_X7_askedIn, ⟨by decide +kernel, by decide +kernel, by decide +kernel⟩⟩, qs_X7_askedIn⟩
theorem dX7_testsOf_0 : decode cX7_testsOf 0 = .ok (.iconst 0, 1) := by decide +kernel
theorem dX7_testsOf_1 : decode cX7_testsOf 1 = .ok (.istore_n 2, 1) := by decide +kernel
theorem dX7_testsOf_2 : decode cX7_testsOf 2 = .ok (.iconst 0, 1) := by decide +kernel
theorem dX7_testsOf_3 : decode cX7_testsOf 3 = .ok (.istore_n 3, 1) := by decide +kernel
theorem dX7_testsOf_4 : decode cX7_testsOf 4 = .ok (.iload_n 3, 1) := by decide +kernel
theorem dX7_testsOf_5 : decode cX7_testsOf 5 = .ok (.aload_n 0, 1) := by decide +kernel
theorem dX7_testsOf_6 : decode cX7_testsOf 6 = .ok (.getfield 136, 3) := by decide +kernel
theorem dX7_testsOf_9 : decode cX7_testsOf 9 = .ok (.if_icmp .ge 179, 3) := by decide +kernel
theorem dX7_testsOf_12 : decode cX7_testsOf 12 = .ok (.iload_n 3, 1) := by decide +kernel
theorem dX7_testsOf_13 : decode cX7_testsOf 13 = .ok (.aload_n 0, 1) := by decide +kernel
theorem dX7_testsOf_14 : decode cX7_testsOf 14 = .ok (.getfield 11, 3) := by decide +kernel
theorem dX7_testsOf_17 : decode cX7_testsOf 17 = .ok (.arraylength, 1) := by decide +kernel
theorem dX7_testsOf_18 : decode cX7_testsOf 18 = .ok (.if_icmp .ge 170, 3) := by decide +kernel
theorem dX7_testsOf_21 : decode cX7_testsOf 21 = .ok (.aload_n 0, 1) := by decide +kernel
theorem dX7_testsOf_22 : decode cX7_testsOf 22 = .ok (.getfield 11, 3) := by decide +kernel
theorem dX7_testsOf_25 : decode cX7_testsOf 25 = .ok (.iload_n 3, 1) := by decide +kernel
theorem dX7_testsOf_26 : decode cX7_testsOf 26 = .ok (.iaload, 1) := by decide +kernel
theorem dX7_testsOf_27 : decode cX7_testsOf 27 = .ok (.ifCond .eq 13, 3) := by decide +kernel
theorem dX7_testsOf_30 : decode cX7_testsOf 30 = .ok (.aload_n 0, 1) := by decide +kernel
theorem dX7_testsOf_31 : decode cX7_testsOf 31 = .ok (.getfield 11, 3) := by decide +kernel
theorem dX7_testsOf_34 : decode cX7_testsOf 34 = .ok (.iload_n 3, 1) := by decide +kernel
theorem dX7_testsOf_35 : decode cX7_testsOf 35 = .ok (.iaload, 1) := by decide +kernel
theorem dX7_testsOf_36 : decode cX7_testsOf 36 = .ok (.iconst 1, 1) := by decide +kernel
theorem dX7_testsOf_37 : decode cX7_testsOf 37 = .ok (.if_icmp .ne 46, 3) := by decide +kernel
theorem dX7_testsOf_40 : decode cX7_testsOf 40 = .ok (.iload_n 2, 1) := by decide +kernel
theorem dX7_testsOf_41 : decode cX7_testsOf 41 = .ok (.aload_n 0, 1) := by decide +kernel
theorem dX7_testsOf_42 : decode cX7_testsOf 42 = .ok (.getfield 18, 3) := by decide +kernel
theorem dX7_testsOf_45 : decode cX7_testsOf 45 = .ok (.arraylength, 1) := by decide +kernel
theorem dX7_testsOf_46 : decode cX7_testsOf 46 = .ok (.if_icmp .ge 136, 3) := by decide +kernel
theorem dX7_testsOf_49 : decode cX7_testsOf 49 = .ok (.aload_n 0, 1) := by decide +kernel
theorem dX7_testsOf_50 : decode cX7_testsOf 50 = .ok (.getfield 18, 3) := by decide +kernel
theorem dX7_testsOf_53 : decode cX7_testsOf 53 = .ok (.iload_n 2, 1) := by decide +kernel
theorem dX7_testsOf_54 : decode cX7_testsOf 54 = .ok (.aload_n 0, 1) := by decide +kernel
theorem dX7_testsOf_55 : decode cX7_testsOf 55 = .ok (.getfield 11, 3) := by decide +kernel
theorem dX7_testsOf_58 : decode cX7_testsOf 58 = .ok (.iload_n 3, 1) := by decide +kernel
theorem dX7_testsOf_59 : decode cX7_testsOf 59 = .ok (.iaload, 1) := by decide +kernel
theorem dX7_testsOf_60 : decode cX7_testsOf 60 = .ok (.ifCond .ne 12, 3) := by decide +kernel
theorem dX7_testsOf_63 : decode cX7_testsOf 63 = .ok (.aload_n 0, 1) := by decide +kernel
theorem dX7_testsOf_64 : decode cX7_testsOf 64 = .ok (.getfield 15, 3) := by decide +kernel
theorem dX7_testsOf_67 : decode cX7_testsOf 67 = .ok (.iload_n 3, 1) := by decide +kernel
theorem dX7_testsOf_68 : decode cX7_testsOf 68 = .ok (.iaload, 1) := by decide +kernel
theorem dX7_testsOf_69 : decode cX7_testsOf 69 = .ok (.goto 7, 3) := by decide +kernel
theorem dX7_testsOf_72 : decode cX7_testsOf 72 = .ok (.aload_n 1, 1) := by decide +kernel
theorem dX7_testsOf_73 : decode cX7_testsOf 73 = .ok (.invokestatic 139, 3) := by decide +kernel
theorem dX7_testsOf_76 : decode cX7_testsOf 76 = .ok (.iastore, 1) := by decide +kernel
theorem dX7_testsOf_77 : decode cX7_testsOf 77 = .ok (.iinc 2 1, 3) := by decide +kernel
theorem dX7_testsOf_80 : decode cX7_testsOf 80 = .ok (.goto 102, 3) := by decide +kernel
theorem dX7_testsOf_83 : decode cX7_testsOf 83 = .ok (.aload_n 0, 1) := by decide +kernel
theorem dX7_testsOf_84 : decode cX7_testsOf 84 = .ok (.getfield 11, 3) := by decide +kernel
theorem dX7_testsOf_87 : decode cX7_testsOf 87 = .ok (.iload_n 3, 1) := by decide +kernel
theorem dX7_testsOf_88 : decode cX7_testsOf 88 = .ok (.iaload, 1) := by decide +kernel
theorem dX7_testsOf_89 : decode cX7_testsOf 89 = .ok (.iconst 2, 1) := by decide +kernel
theorem dX7_testsOf_90 : decode cX7_testsOf 90 = .ok (.if_icmp .ne 29, 3) := by decide +kernel
theorem dX7_testsOf_93 : decode cX7_testsOf 93 = .ok (.iload_n 2, 1) := by decide +kernel
theorem dX7_testsOf_94 : decode cX7_testsOf 94 = .ok (.iconst 1, 1) := by decide +kernel
theorem dX7_testsOf_95 : decode cX7_testsOf 95 = .ok (.if_icmp .lt 87, 3) := by decide +kernel
theorem dX7_testsOf_98 : decode cX7_testsOf 98 = .ok (.aload_n 0, 1) := by decide +kernel
theorem dX7_testsOf_99 : decode cX7_testsOf 99 = .ok (.getfield 18, 3) := by decide +kernel
theorem dX7_testsOf_102 : decode cX7_testsOf 102 = .ok (.iload_n 2, 1) := by decide +kernel
theorem dX7_testsOf_103 : decode cX7_testsOf 103 = .ok (.iconst 1, 1) := by decide +kernel
theorem dX7_testsOf_104 : decode cX7_testsOf 104 = .ok (.isub, 1) := by decide +kernel
theorem dX7_testsOf_105 : decode cX7_testsOf 105 = .ok (.aload_n 0, 1) := by decide +kernel
theorem dX7_testsOf_106 : decode cX7_testsOf 106 = .ok (.getfield 18, 3) := by decide +kernel
theorem dX7_testsOf_109 : decode cX7_testsOf 109 = .ok (.iload_n 2, 1) := by decide +kernel
theorem dX7_testsOf_110 : decode cX7_testsOf 110 = .ok (.iconst 1, 1) := by decide +kernel
theorem dX7_testsOf_111 : decode cX7_testsOf 111 = .ok (.isub, 1) := by decide +kernel
theorem dX7_testsOf_112 : decode cX7_testsOf 112 = .ok (.iaload, 1) := by decide +kernel
theorem dX7_testsOf_113 : decode cX7_testsOf 113 = .ok (.iconst (-1), 1) := by decide +kernel
theorem dX7_testsOf_114 : decode cX7_testsOf 114 = .ok (.ixor, 1) := by decide +kernel
theorem dX7_testsOf_115 : decode cX7_testsOf 115 = .ok (.iastore, 1) := by decide +kernel
theorem dX7_testsOf_116 : decode cX7_testsOf 116 = .ok (.goto 66, 3) := by decide +kernel
theorem dX7_testsOf_119 : decode cX7_testsOf 119 = .ok (.iload_n 2, 1) := by decide +kernel
theorem dX7_testsOf_120 : decode cX7_testsOf 120 = .ok (.iconst 2, 1) := by decide +kernel
theorem dX7_testsOf_121 : decode cX7_testsOf 121 = .ok (.if_icmp .lt 61, 3) := by decide +kernel
theorem dX7_testsOf_124 : decode cX7_testsOf 124 = .ok (.iinc 2 (-1), 3) := by decide +kernel
theorem dX7_testsOf_127 : decode cX7_testsOf 127 = .ok (.aload_n 0, 1) := by decide +kernel
theorem dX7_testsOf_128 : decode cX7_testsOf 128 = .ok (.getfield 18, 3) := by decide +kernel
theorem dX7_testsOf_131 : decode cX7_testsOf 131 = .ok (.iload_n 2, 1) := by decide +kernel
theorem dX7_testsOf_132 : decode cX7_testsOf 132 = .ok (.iconst 1, 1) := by decide +kernel
theorem dX7_testsOf_133 : decode cX7_testsOf 133 = .ok (.isub, 1) := by decide +kernel
theorem dX7_testsOf_134 : decode cX7_testsOf 134 = .ok (.iaload, 1) := by decide +kernel
theorem dX7_testsOf_135 : decode cX7_testsOf 135 = .ok (.aload_n 0, 1) := by decide +kernel
theorem dX7_testsOf_136 : decode cX7_testsOf 136 = .ok (.getfield 18, 3) := by decide +kernel
theorem dX7_testsOf_139 : decode cX7_testsOf 139 = .ok (.iload_n 2, 1) := by decide +kernel
theorem dX7_testsOf_140 : decode cX7_testsOf 140 = .ok (.iaload, 1) := by decide +kernel
theorem dX7_testsOf_141 : decode cX7_testsOf 141 = .ok (.iand, 1) := by decide +kernel
theorem dX7_testsOf_142 : decode cX7_testsOf 142 = .ok (.istore 4, 2) := by decide +kernel
theorem dX7_testsOf_144 : decode cX7_testsOf 144 = .ok (.aload_n 0, 1) := by decide +kernel
theorem dX7_testsOf_145 : decode cX7_testsOf 145 = .ok (.getfield 18, 3) := by decide +kernel
theorem dX7_testsOf_148 : decode cX7_testsOf 148 = .ok (.iload_n 2, 1) := by decide +kernel
theorem dX7_testsOf_149 : decode cX7_testsOf 149 = .ok (.iconst 1, 1) := by decide +kernel
theorem dX7_testsOf_150 : decode cX7_testsOf 150 = .ok (.isub, 1) := by decide +kernel
theorem dX7_testsOf_151 : decode cX7_testsOf 151 = .ok (.aload_n 0, 1) := by decide +kernel
theorem dX7_testsOf_152 : decode cX7_testsOf 152 = .ok (.getfield 11, 3) := by decide +kernel
theorem dX7_testsOf_155 : decode cX7_testsOf 155 = .ok (.iload_n 3, 1) := by decide +kernel
theorem dX7_testsOf_156 : decode cX7_testsOf 156 = .ok (.iaload, 1) := by decide +kernel
theorem dX7_testsOf_157 : decode cX7_testsOf 157 = .ok (.iconst 3, 1) := by decide +kernel
theorem dX7_testsOf_158 : decode cX7_testsOf 158 = .ok (.if_icmp .ne 8, 3) := by decide +kernel
theorem dX7_testsOf_161 : decode cX7_testsOf 161 = .ok (.iload 4, 2) := by decide +kernel
theorem dX7_testsOf_163 : decode cX7_testsOf 163 = .ok (.goto 18, 3) := by decide +kernel
theorem dX7_testsOf_166 : decode cX7_testsOf 166 = .ok (.aload_n 0, 1) := by decide +kernel
theorem dX7_testsOf_167 : decode cX7_testsOf 167 = .ok (.getfield 18, 3) := by decide +kernel
theorem dX7_testsOf_170 : decode cX7_testsOf 170 = .ok (.iload_n 2, 1) := by decide +kernel
theorem dX7_testsOf_171 : decode cX7_testsOf 171 = .ok (.iconst 1, 1) := by decide +kernel
theorem dX7_testsOf_172 : decode cX7_testsOf 172 = .ok (.isub, 1) := by decide +kernel
theorem dX7_testsOf_173 : decode cX7_testsOf 173 = .ok (.iaload, 1) := by decide +kernel
theorem dX7_testsOf_174 : decode cX7_testsOf 174 = .ok (.aload_n 0, 1) := by decide +kernel
theorem dX7_testsOf_175 : decode cX7_testsOf 175 = .ok (.getfield 18, 3) := by decide +kernel
theorem dX7_testsOf_178 : decode cX7_testsOf 178 = .ok (.iload_n 2, 1) := by decide +kernel
theorem dX7_testsOf_179 : decode cX7_testsOf 179 = .ok (.iaload, 1) := by decide +kernel
theorem dX7_testsOf_180 : decode cX7_testsOf 180 = .ok (.ior, 1) := by decide +kernel
theorem dX7_testsOf_181 : decode cX7_testsOf 181 = .ok (.iastore, 1) := by decide +kernel
theorem dX7_testsOf_182 : decode cX7_testsOf 182 = .ok (.iinc 3 1, 3) := by decide +kernel
theorem dX7_testsOf_185 : decode cX7_testsOf 185 = .ok (.goto (-181), 3) := by decide +kernel
theorem dX7_testsOf_188 : decode cX7_testsOf 188 = .ok (.aload_n 0, 1) := by decide +kernel
theorem dX7_testsOf_189 : decode cX7_testsOf 189 = .ok (.getfield 18, 3) := by decide +kernel
theorem dX7_testsOf_192 : decode cX7_testsOf 192 = .ok (.iconst 0, 1) := by decide +kernel
theorem dX7_testsOf_193 : decode cX7_testsOf 193 = .ok (.iaload, 1) := by decide +kernel
theorem dX7_testsOf_194 : decode cX7_testsOf 194 = .ok (.iconst 1, 1) := by decide +kernel
theorem dX7_testsOf_195 : decode cX7_testsOf 195 = .ok (.aload_n 1, 1) := by decide +kernel
theorem dX7_testsOf_196 : decode cX7_testsOf 196 = .ok (.getfield 143, 3) := by decide +kernel
theorem dX7_testsOf_199 : decode cX7_testsOf 199 = .ok (.getfield 127, 3) := by decide +kernel
theorem dX7_testsOf_202 : decode cX7_testsOf 202 = .ok (.ishl, 1) := by decide +kernel
theorem dX7_testsOf_203 : decode cX7_testsOf 203 = .ok (.iconst 1, 1) := by decide +kernel
theorem dX7_testsOf_204 : decode cX7_testsOf 204 = .ok (.isub, 1) := by decide +kernel
theorem dX7_testsOf_205 : decode cX7_testsOf 205 = .ok (.iand, 1) := by decide +kernel
theorem dX7_testsOf_206 : decode cX7_testsOf 206 = .ok (.ireturn, 1) := by decide +kernel
abbrev rm_X7_testsOf : Room := { frames := 2, cells := 0, slots := 0, locals := 43 }
noncomputable def fX7_testsOf_b188 (o0 : Nat) (o1 : Nat) (h : z_T) : Option (Int32 × z_T) :=
  y_gd (z_ok h o0 7) <|
  y_bi (z_R h o0 2) fun ob2 =>
  y_gd (z_ok h ob2 13) <|
  y_gd (z_ix (0 : Int32) (z_N h ob2)) <|
  y_gd (z_ok h o1 2) <|
  y_bi (z_R h o1 0) fun ob6 =>
  y_gd (z_ok h ob6 0) <|
  some (((z_I h ob2 (0 : Int32).toNatClampNeg) &&& (((1 : Int32) <<< ((z_I h ob6 1) &&& 31)) - (1 : Int32))), h)
noncomputable def fX7_testsOf_b182 (o0 : Nat) (o1 : Nat) (x2 : Int32) (x3 : Int32) (h : z_T) : Option ((Int32 × Int32 × z_T) ⊕ (Int32 × z_T)) :=
  y_nm (x3 + 1) fun v8 =>
  some (.inl (x2, v8, h))
noncomputable def fX7_testsOf_b76 (o0 : Nat) (o1 : Nat) (x2 : Int32) (x3 : Int32) (s0 : Nat) (s1 : Int32) (s2 : Int32) (h : z_T) : Option ((Int32 × Int32 × z_T) ⊕ (Int32 × z_T)) :=
  y_gd (z_ok h s0 13) <|
  y_gd (z_ix s1 (z_N h s0)) <|
  y_nm (z_sI h s0 s1.toNatClampNeg s2) fun h11 =>
  y_nm (x2 + 1) fun v12 =>
  fX7_testsOf_b182 o0 o1 v12 x3 h11
noncomputable def fX7_testsOf_b40 (o0 : Nat) (o1 : Nat) (x2 : Int32) (x3 : Int32) (h : z_T) : Option ((Int32 × Int32 × z_T) ⊕ (Int32 × z_T)) :=
  y_gd (z_ok h o0 7) <|
  y_bi (z_R h o0 2) fun ob14 =>
  y_gd (z_ok h ob14 13) <|
  y_br ((nI (z_N h ob14)) ≤ x2)
    (fX7_testsOf_b182 o0 o1 x2 x3 h)
    (y_bi (z_R h o0 0) fun ob17 =>
    y_gd (z_ok h ob17 13) <|
    y_gd (z_ix x3 (z_N h ob17)) <|
    y_br ((z_I h ob17 x3.toNatClampNeg) = 0)
      (y_bi (z_R h o0 1) fun ob26 =>
      y_gd (z_ok h ob26 13) <|
      y_gd (z_ix x3 (z_N h ob26)) <|
      fX7_testsOf_b76 o0 o1 x2 x3 ob14 x2 (z_I h ob26 x3.toNatClampNeg) h)
      (y_bi (fX7_askedIn o1 h) fun r22 =>
      fX7_testsOf_b76 o0 o1 x2 x3 ob14 x2 r22 h))
noncomputable def fX7_testsOf_b181 (o0 : Nat) (o1 : Nat) (x2 : Int32) (x3 : Int32) (s0 : Nat) (s1 : Int32) (s2 : Int32) (h : z_T) : Option ((Int32 × Int32 × z_T) ⊕ (Int32 × z_T)) :=
  y_gd (z_ok h s0 13) <|
  y_gd (z_ix s1 (z_N h s0)) <|
  y_nm (z_sI h s0 s1.toNatClampNeg s2) fun h31 =>
  fX7_testsOf_b182 o0 o1 x2 x3 h31
noncomputable def fX7_testsOf_b4_i (o0 : Nat) (o1 : Nat) (x2 : Int32) (x3 : Int32) (h : z_T) : Option ((Int32 × Int32 × z_T) ⊕ (Int32 × z_T)) :=
  y_gd (z_ok h o0 7) <|
  y_br ((z_I h o0 3) ≤ x3)
    (y_mp <|
    fX7_testsOf_b188 o0 o1 h)
    (y_bi (z_R h o0 0) fun ob35 =>
    y_gd (z_ok h ob35 13) <|
    y_br ((nI (z_N h ob35)) ≤ x3)
      (y_mp <|
      fX7_testsOf_b188 o0 o1 h)
      (y_gd (z_ix x3 (z_N h ob35)) <|
      y_br ((z_I h ob35 x3.toNatClampNeg) = 0)
        (fX7_testsOf_b40 o0 o1 x2 x3 h)
        (y_gd (z_ix x3 (z_N h ob35)) <|
        y_br ((z_I h ob35 x3.toNatClampNeg) = (1 : Int32))
          (fX7_testsOf_b40 o0 o1 x2 x3 h)
          (y_gd (z_ix x3 (z_N h ob35)) <|
          y_br ((z_I h ob35 x3.toNatClampNeg) = (2 : Int32))
            (y_br (x2 < (1 : Int32))
              (fX7_testsOf_b182 o0 o1 x2 x3 h)
              (y_bi (z_R h o0 2) fun ob57 =>
              y_gd (z_ok h ob57 13) <|
              y_gd (z_ix (x2 - (1 : Int32)) (z_N h ob57)) <|
              y_gd (z_ix (x2 - (1 : Int32)) (z_N h ob57)) <|
              y_nm (z_sI h ob57 (x2 - (1 : Int32)).toNatClampNeg ((z_I h ob57 (x2 - (1 : Int32)).toNatClampNeg) ^^^ (-1 : Int32))) fun h61 =>
              fX7_testsOf_b182 o0 o1 x2 x3 h61))
            (y_br (x2 < (2 : Int32))
              (fX7_testsOf_b182 o0 o1 x2 x3 h)
              (y_nm (x2 + (-1)) fun v46 =>
              y_bi (z_R h o0 2) fun ob47 =>
              y_gd (z_ok h ob47 13) <|
              y_gd (z_ix (v46 - (1 : Int32)) (z_N h ob47)) <|
              y_gd (z_ix v46 (z_N h ob47)) <|
              y_nm (((z_I h ob47 (v46 - (1 : Int32)).toNatClampNeg) &&& (z_I h ob47 v46.toNatClampNeg))) fun v51 =>
              y_gd (z_ix x3 (z_N h ob35)) <|
              y_br ((z_I h ob35 x3.toNatClampNeg) = (3 : Int32))
                (fX7_testsOf_b181 o0 o1 v46 x3 ob47 (v46 - (1 : Int32)) v51 h)
                (y_gd (z_ix (v46 - (1 : Int32)) (z_N h ob47)) <|
                y_gd (z_ix v46 (z_N h ob47)) <|
                fX7_testsOf_b181 o0 o1 v46 x3 ob47 (v46 - (1 : Int32)) ((z_I h ob47 (v46 - (1 : Int32)).toNatClampNeg) ||| (z_I h ob47 v46.toNatClampNeg)) h)))))))
noncomputable def fX7_testsOf_b4 (o0 : Nat) (o1 : Nat) (x2 : Int32) (x3 : Int32) (h : z_T) : Option (Int32 × z_T) := y_lp (fun q : Int32 × Int32 × z_T => fX7_testsOf_b4_i o0 o1 q.1 q.2.1 q.2.2) (x2, x3, h)
noncomputable def fX7_testsOf (o0 : Nat) (o1 : Nat) (h : z_T) : Option (Int32 × z_T) :=
  fX7_testsOf_b4 o0 o1 (0 : Int32) (0 : Int32) h
set_option maxHeartbeats 4000000 in
set_option maxRecDepth 100000 in
theorem mm_X7_testsOf {G : z_Gt} (hSK : z_SK (z_S G)) (l : Launch) (ad : Nat → Nat) (o0 : Nat) (o1 : Nat) (h : z_T) {r0 : Int32} {h9 : z_T} (hv : fX7_testsOf o0 o1 h = some (r0, h9)) : z_Mi G (z_S G) l yX7_testsOf cX7_testsOf 5 (.int) rm_X7_testsOf 0 0 [.ref (ad o0), .ref (ad o1)] ad h h9 r0 := by
  refine z_ofW hSK (by decide) (Nat.le_of_ble_eq_true rfl) ?_
  intro p e s m args below meth c ls hc hr hnm hB hl
  have hx := hc.1.1
  have hb := hc.1.2.1
  have hown := hc.1.2.2.2.1
  have hts := hc.1.2.2.2.2
  replace hc : z_C G (z_S G) ad (z_n h) p m c cX7_testsOf 5 s args RX7 meth := hc
  replace hown : s.vm.findClass RX7 = some m.cls := hown
  replace hl : lv_has ls 5 [(0, .ref (ad o0)), (1, .ref (ad o1))] := hl
  show W p l e rm_X7_testsOf s m args below meth c s.heap [] 0 0 (MQ below (z_Qi G ad h9 (z_n h) s.heap.size r0) args s 0 0 (z_A ad (z_n h) s.heap.size)) (F0 m 0 ls [])
  obtain ⟨rs, kt⟩ : ∃ rs : Int32 × z_T, rs = (r0, h9) := ⟨_, rfl⟩
  generalize hn0 : z_n h = n0 at hc hB ⊢
  have b188 : ∀ (h : z_T) (H : Heap) (locs : List Loc) (ls : Array Slot), z_B G ad n0 s h H locs → lv_has ls 5 [(0, .ref (ad o0)), (1, .ref (ad o1))] → ∀ w, fX7_testsOf_b188 o0 o1 h = some w → w = (r0, h9) → W p l e rm_X7_testsOf s m args below meth c H locs 0 0 (MQ below (z_Qi G ad h9 n0 s.heap.size r0) args s 0 0 (z_A ad n0 s.heap.size)) (F0 m 188 ls []) := by
    intro h H locs ls hB hl w hv kb
    refine lv_aload_n hx hb dX7_testsOf_188 rfl (lv_at hl 0 rfl) ?_
    obtain ⟨g1, hv⟩ := y_gd_e hv
    obtain ⟨ob2, eob2, hv⟩ := y_bi_e hv
    refine z_getR hc hB 7 2 g1 eob2 (by decide) (by decide) rfl (z_l1 hc qfX7_18) dX7_testsOf_189 ?_
    refine lv_iconst (v := (0 : Int32)) hx hb dX7_testsOf_192 (by decide) ?_
    obtain ⟨g3, hv⟩ := y_gd_e hv
    obtain ⟨i4, hv⟩ := y_gd_e hv
    refine z_iald hc hB g3 i4 dX7_testsOf_193 ?_
    refine lv_iconst (v := (1 : Int32)) hx hb dX7_testsOf_194 (by decide) ?_
    refine lv_aload_n hx hb dX7_testsOf_195 rfl (lv_at hl 1 rfl) ?_
    obtain ⟨g5, hv⟩ := y_gd_e hv
    obtain ⟨ob6, eob6, hv⟩ := y_bi_e hv
    refine z_getR hc hB 2 0 g5 eob6 (by decide) (by decide) rfl (z_l2 hc qfX7_143) dX7_testsOf_196 ?_
    obtain ⟨g7, hv⟩ := y_gd_e hv
    refine z_getI hc hB 0 1 g7 (by decide) (by decide) rfl (z_l2 hc qfX7_127) dX7_testsOf_199 ?_
    refine lv_ishl hx hb dX7_testsOf_202 ?_
    refine lv_iconst (v := (1 : Int32)) hx hb dX7_testsOf_203 (by decide) ?_
    refine lv_isub hx hb dX7_testsOf_204 ?_
    refine lv_iand hx hb dX7_testsOf_205 ?_
    replace hv := Option.some.inj hv
    subst hv
    obtain ⟨e1, e2⟩ := y_pr kb
    rw [← e1, ← e2]
    exact z_iret hc hB hr dX7_testsOf_206
  have L4 : ∀ (nn4 : Nat) (x2 : Int32) (x3 : Int32) (h : z_T) (H : Heap) (locs : List Loc) (ls : Array Slot), z_B G ad n0 s h H locs → lv_has ls 5 [(0, .ref (ad o0)), (1, .ref (ad o1)), (2, .int x2), (3, .int x3)] → ∀ vv4, y_lpN (fun q : Int32 × Int32 × z_T => fX7_testsOf_b4_i o0 o1 q.1 q.2.1 q.2.2) nn4 (x2, x3, h) = some vv4 → vv4 = (r0, h9) → W p l e rm_X7_testsOf s m args below meth c H locs 0 0 (MQ below (z_Qi G ad h9 n0 s.heap.size r0) args s 0 0 (z_A ad n0 s.heap.size)) (F0 m 4 ls []) := by
    intro nn4
    induction nn4 with
    | zero => intro x2 x3 h H locs ls hB hl vv4 hv kv4; exact absurd hv (fun q => y_lpN_0 q)
    | succ nn4 ih4 =>
      intro x2 x3 h H locs ls hB hl vv4 hv kv4
      obtain ⟨w, hq, kw4⟩ := y_lpN_e hv
      clear hv
      have hv : fX7_testsOf_b4_i o0 o1 x2 x3 h = some w := hq
      clear hq
      have b182 : ∀ (x2 : Int32) (x3 : Int32) (h : z_T) (H : Heap) (locs : List Loc) (ls : Array Slot), z_B G ad n0 s h H locs → lv_has ls 5 [(0, .ref (ad o0)), (1, .ref (ad o1)), (2, .int x2), (3, .int x3)] → ∀ w, fX7_testsOf_b182 o0 o1 x2 x3 h = some w → y_lq (fun q : Int32 × Int32 × z_T => fX7_testsOf_b4_i o0 o1 q.1 q.2.1 q.2.2) nn4 vv4 w → W p l e rm_X7_testsOf s m args below meth c H locs 0 0 (MQ below (z_Qi G ad h9 n0 s.heap.size r0) args s 0 0 (z_A ad n0 s.heap.size)) (F0 m 182 ls []) := by
        intro x2 x3 h H locs ls hB hl w hv kw4
        obtain ⟨v8, ev8, hv⟩ := y_nm_e hv
        refine lv_iinc (v := v8) (lv' := [(3, .int v8), (0, .ref (ad o0)), (1, .ref (ad o1)), (2, .int x2)]) hx hb dX7_testsOf_182 hl (k := 3) rfl (by rw [ev8]; rfl) (by decide) rfl (fun ls hl => ?_)
        refine lv_goto (tgt := 4) hx hb dX7_testsOf_185 (by decide) ?_
        replace hv := Option.some.inj hv
        subst hv
        exact ih4 x2 v8 h _ _ _ hB (lv_sub hl [1, 2, 3, 0] rfl) _ kw4 kv4
      have b76 : ∀ (x2 : Int32) (x3 : Int32) (s0 : Nat) (s1 : Int32) (s2 : Int32) (h : z_T) (H : Heap) (locs : List Loc) (ls : Array Slot), z_B G ad n0 s h H locs → lv_has ls 5 [(0, .ref (ad o0)), (1, .ref (ad o1)), (2, .int x2), (3, .int x3)] → ∀ w, fX7_testsOf_b76 o0 o1 x2 x3 s0 s1 s2 h = some w → y_lq (fun q : Int32 × Int32 × z_T => fX7_testsOf_b4_i o0 o1 q.1 q.2.1 q.2.2) nn4 vv4 w → W p l e rm_X7_testsOf s m args below meth c H locs 0 0 (MQ below (z_Qi G ad h9 n0 s.heap.size r0) args s 0 0 (z_A ad n0 s.heap.size)) (F0 m 76 ls [.int s2, .int s1, .ref (ad s0)]) := by
        intro x2 x3 s0 s1 s2 h H locs ls hB hl w hv kw4
        obtain ⟨g9, hv⟩ := y_gd_e hv
        obtain ⟨i10, hv⟩ := y_gd_e hv
        obtain ⟨h11, eh11, hv⟩ := y_nm_e hv
        refine y_iast hc hB eh11 g9 i10 dX7_testsOf_76 (fun H locs hB => ?_)
        obtain ⟨v12, ev12, hv⟩ := y_nm_e hv
        refine lv_iinc (v := v12) (lv' := [(2, .int v12), (0, .ref (ad o0)), (1, .ref (ad o1)), (3, .int x3)]) hx hb dX7_testsOf_77 hl (k := 2) rfl (by rw [ev12]; rfl) (by decide) rfl (fun ls hl => ?_)
        refine lv_goto (tgt := 182) hx hb dX7_testsOf_80 (by decide) ?_
        exact b182 v12 x3 h11 _ _ _ hB (lv_sub hl [1, 2, 0, 3] rfl) _ hv kw4
      have b40 : ∀ (x2 : Int32) (x3 : Int32) (h : z_T) (H : Heap) (locs : List Loc) (ls : Array Slot), z_B G ad n0 s h H locs → lv_has ls 5 [(0, .ref (ad o0)), (1, .ref (ad o1)), (2, .int x2), (3, .int x3)] → ∀ w, fX7_testsOf_b40 o0 o1 x2 x3 h = some w → y_lq (fun q : Int32 × Int32 × z_T => fX7_testsOf_b4_i o0 o1 q.1 q.2.1 q.2.2) nn4 vv4 w → W p l e rm_X7_testsOf s m args below meth c H locs 0 0 (MQ below (z_Qi G ad h9 n0 s.heap.size r0) args s 0 0 (z_A ad n0 s.heap.size)) (F0 m 40 ls []) := by
        intro x2 x3 h H locs ls hB hl w hv kw4
        refine lv_iload_n hx hb dX7_testsOf_40 rfl (lv_at hl 2 rfl) ?_
        refine lv_aload_n hx hb dX7_testsOf_41 rfl (lv_at hl 0 rfl) ?_
        obtain ⟨g13, hv⟩ := y_gd_e hv
        obtain ⟨ob14, eob14, hv⟩ := y_bi_e hv
        refine z_getR hc hB 7 2 g13 eob14 (by decide) (by decide) rfl (z_l1 hc qfX7_18) dX7_testsOf_42 ?_
        obtain ⟨g15, hv⟩ := y_gd_e hv
        refine z_alen hc hB 13 (by decide) (by decide) g15 dX7_testsOf_45 ?_
        refine lv_icmp_ge (tgt := 182) hx hb dX7_testsOf_46 (by decide) (fun c16 => ?_) (fun c16 => ?_)
        · replace hv := y_br_t hv c16
          exact b182 x2 x3 h _ _ _ hB (lv_sub hl [0, 1, 2, 3] rfl) _ hv kw4
        · replace hv := y_br_f hv c16
          refine lv_aload_n hx hb dX7_testsOf_49 rfl (lv_at hl 0 rfl) ?_
          refine z_getR hc hB 7 2 g13 eob14 (by decide) (by decide) rfl (z_l1 hc qfX7_18) dX7_testsOf_50 ?_
          refine lv_iload_n hx hb dX7_testsOf_53 rfl (lv_at hl 2 rfl) ?_
          refine lv_aload_n hx hb dX7_testsOf_54 rfl (lv_at hl 0 rfl) ?_
          obtain ⟨ob17, eob17, hv⟩ := y_bi_e hv
          refine z_getR hc hB 7 0 g13 eob17 (by decide) (by decide) rfl (z_l1 hc qfX7_11) dX7_testsOf_55 ?_
          refine lv_iload_n hx hb dX7_testsOf_58 rfl (lv_at hl 3 rfl) ?_
          obtain ⟨g18, hv⟩ := y_gd_e hv
          obtain ⟨i19, hv⟩ := y_gd_e hv
          refine z_iald hc hB g18 i19 dX7_testsOf_59 ?_
          refine lv_if_ne (tgt := 72) hx hb dX7_testsOf_60 (by decide) (fun c20 => ?_) (fun c20 => ?_)
          · replace hv := y_br_f hv c20
            refine lv_aload_n hx hb dX7_testsOf_72 rfl (lv_at hl 1 rfl) ?_
            obtain ⟨r22, c21, hv⟩ := y_bi_e hv
            refine z_thI hc hB (z_runS hc hB (mm_X7_askedIn hSK l ad o1 h c21) md_X7_askedIn qmX7_139 rfl rfl ⟨Nat.le_of_ble_eq_true rfl, Nat.le_of_ble_eq_true rfl⟩ rfl hl.1 rfl (Nat.le_of_ble_eq_true rfl) dX7_testsOf_73 ⟨Nat.le_of_ble_eq_true rfl, Nat.le_of_ble_eq_true rfl⟩) (fun H locs hB => ?_)
            exact b76 x2 x3 ob14 x2 r22 h _ _ _ hB (lv_sub hl [0, 1, 2, 3] rfl) _ hv kw4
          · replace hv := y_br_t hv c20
            refine lv_aload_n hx hb dX7_testsOf_63 rfl (lv_at hl 0 rfl) ?_
            obtain ⟨ob26, eob26, hv⟩ := y_bi_e hv
            refine z_getR hc hB 7 1 g13 eob26 (by decide) (by decide) rfl (z_l1 hc qfX7_15) dX7_testsOf_64 ?_
            refine lv_iload_n hx hb dX7_testsOf_67 rfl (lv_at hl 3 rfl) ?_
            obtain ⟨g27, hv⟩ := y_gd_e hv
            obtain ⟨i28, hv⟩ := y_gd_e hv
            refine z_iald hc hB g27 i28 dX7_testsOf_68 ?_
            refine lv_goto (tgt := 76) hx hb dX7_testsOf_69 (by decide) ?_
            exact b76 x2 x3 ob14 x2 (z_I h ob26 x3.toNatClampNeg) h _ _ _ hB (lv_sub hl [0, 1, 2, 3] rfl) _ hv kw4
      have b181 : ∀ (x2 : Int32) (x3 : Int32) (s0 : Nat) (s1 : Int32) (s2 : Int32) (h : z_T) (H : Heap) (locs : List Loc) (ls : Array Slot), z_B G ad n0 s h H locs → lv_has ls 5 [(0, .ref (ad o0)), (1, .ref (ad o1)), (2, .int x2), (3, .int x3)] → ∀ w, fX7_testsOf_b181 o0 o1 x2 x3 s0 s1 s2 h = some w → y_lq (fun q : Int32 × Int32 × z_T => fX7_testsOf_b4_i o0 o1 q.1 q.2.1 q.2.2) nn4 vv4 w → W p l e rm_X7_testsOf s m args below meth c H locs 0 0 (MQ below (z_Qi G ad h9 n0 s.heap.size r0) args s 0 0 (z_A ad n0 s.heap.size)) (F0 m 181 ls [.int s2, .int s1, .ref (ad s0)]) := by
        intro x2 x3 s0 s1 s2 h H locs ls hB hl w hv kw4
        obtain ⟨g29, hv⟩ := y_gd_e hv
        obtain ⟨i30, hv⟩ := y_gd_e hv
        obtain ⟨h31, eh31, hv⟩ := y_nm_e hv
        refine y_iast hc hB eh31 g29 i30 dX7_testsOf_181 (fun H locs hB => ?_)
        exact b182 x2 x3 h31 _ _ _ hB (lv_sub hl [0, 1, 2, 3] rfl) _ hv kw4
      refine lv_iload_n hx hb dX7_testsOf_4 rfl (lv_at hl 3 rfl) ?_
      refine lv_aload_n hx hb dX7_testsOf_5 rfl (lv_at hl 0 rfl) ?_
      obtain ⟨g32, hv⟩ := y_gd_e hv
      refine z_getI hc hB 7 3 g32 (by decide) (by decide) rfl (z_l1 hc qfX7_136) dX7_testsOf_6 ?_
      refine lv_icmp_ge (tgt := 188) hx hb dX7_testsOf_9 (by decide) (fun c33 => ?_) (fun c33 => ?_)
      · replace hv := y_br_t hv c33
        obtain ⟨t34, hq, ew⟩ := y_mp_e hv
        clear hv; subst ew
        replace kw4 : t34 = _ := kw4
        subst kw4
        have hv := hq
        clear hq
        exact b188 h _ _ _ hB (lv_sub hl [0, 1] rfl) _ hv kv4
      · replace hv := y_br_f hv c33
        refine lv_iload_n hx hb dX7_testsOf_12 rfl (lv_at hl 3 rfl) ?_
        refine lv_aload_n hx hb dX7_testsOf_13 rfl (lv_at hl 0 rfl) ?_
        obtain ⟨ob35, eob35, hv⟩ := y_bi_e hv
        refine z_getR hc hB 7 0 g32 eob35 (by decide) (by decide) rfl (z_l1 hc qfX7_11) dX7_testsOf_14 ?_
        obtain ⟨g36, hv⟩ := y_gd_e hv
        refine z_alen hc hB 13 (by decide) (by decide) g36 dX7_testsOf_17 ?_
        refine lv_icmp_ge (tgt := 188) hx hb dX7_testsOf_18 (by decide) (fun c37 => ?_) (fun c37 => ?_)
        · replace hv := y_br_t hv c37
          obtain ⟨t38, hq, ew⟩ := y_mp_e hv
          clear hv; subst ew
          replace kw4 : t38 = _ := kw4
          subst kw4
          have hv := hq
          clear hq
          exact b188 h _ _ _ hB (lv_sub hl [0, 1] rfl) _ hv kv4
        · replace hv := y_br_f hv c37
          refine lv_aload_n hx hb dX7_testsOf_21 rfl (lv_at hl 0 rfl) ?_
          refine z_getR hc hB 7 0 g32 eob35 (by decide) (by decide) rfl (z_l1 hc qfX7_11) dX7_testsOf_22 ?_
          refine lv_iload_n hx hb dX7_testsOf_25 rfl (lv_at hl 3 rfl) ?_
          obtain ⟨i39, hv⟩ := y_gd_e hv
          refine z_iald hc hB g36 i39 dX7_testsOf_26 ?_
          refine lv_if_eq (tgt := 40) hx hb dX7_testsOf_27 (by decide) (fun c40 => ?_) (fun c40 => ?_)
          · replace hv := y_br_t hv c40
            exact b40 x2 x3 h _ _ _ hB (lv_sub hl [0, 1, 2, 3] rfl) _ hv kw4
          · replace hv := y_br_f hv c40
            refine lv_aload_n hx hb dX7_testsOf_30 rfl (lv_at hl 0 rfl) ?_
            refine z_getR hc hB 7 0 g32 eob35 (by decide) (by decide) rfl (z_l1 hc qfX7_11) dX7_testsOf_31 ?_
            refine lv_iload_n hx hb dX7_testsOf_34 rfl (lv_at hl 3 rfl) ?_
            obtain ⟨i41, hv⟩ := y_gd_e hv
            refine z_iald hc hB g36 i41 dX7_testsOf_35 ?_
            refine lv_iconst (v := (1 : Int32)) hx hb dX7_testsOf_36 (by decide) ?_
            refine lv_icmp_ne (tgt := 83) hx hb dX7_testsOf_37 (by decide) (fun c42 => ?_) (fun c42 => ?_)
            · replace hv := y_br_f hv c42
              refine lv_aload_n hx hb dX7_testsOf_83 rfl (lv_at hl 0 rfl) ?_
              refine z_getR hc hB 7 0 g32 eob35 (by decide) (by decide) rfl (z_l1 hc qfX7_11) dX7_testsOf_84 ?_
              refine lv_iload_n hx hb dX7_testsOf_87 rfl (lv_at hl 3 rfl) ?_
              obtain ⟨i43, hv⟩ := y_gd_e hv
              refine z_iald hc hB g36 i43 dX7_testsOf_88 ?_
              refine lv_iconst (v := (2 : Int32)) hx hb dX7_testsOf_89 (by decide) ?_
              refine lv_icmp_ne (tgt := 119) hx hb dX7_testsOf_90 (by decide) (fun c44 => ?_) (fun c44 => ?_)
              · replace hv := y_br_f hv c44
                refine lv_iload_n hx hb dX7_testsOf_119 rfl (lv_at hl 2 rfl) ?_
                refine lv_iconst (v := (2 : Int32)) hx hb dX7_testsOf_120 (by decide) ?_
                refine lv_icmp_lt (tgt := 182) hx hb dX7_testsOf_121 (by decide) (fun c45 => ?_) (fun c45 => ?_)
                · replace hv := y_br_t hv c45
                  exact b182 x2 x3 h _ _ _ hB (lv_sub hl [0, 1, 2, 3] rfl) _ hv kw4
                · replace hv := y_br_f hv c45
                  obtain ⟨v46, ev46, hv⟩ := y_nm_e hv
                  refine lv_iinc (v := v46) (lv' := [(2, .int v46), (0, .ref (ad o0)), (1, .ref (ad o1)), (3, .int x3)]) hx hb dX7_testsOf_124 hl (k := 2) rfl (by rw [ev46]; rfl) (by decide) rfl (fun ls hl => ?_)
                  refine lv_aload_n hx hb dX7_testsOf_127 rfl (lv_at hl 1 rfl) ?_
                  obtain ⟨ob47, eob47, hv⟩ := y_bi_e hv
                  refine z_getR hc hB 7 2 g32 eob47 (by decide) (by decide) rfl (z_l1 hc qfX7_18) dX7_testsOf_128 ?_
                  refine lv_iload_n hx hb dX7_testsOf_131 rfl (lv_at hl 0 rfl) ?_
                  refine lv_iconst (v := (1 : Int32)) hx hb dX7_testsOf_132 (by decide) ?_
                  refine lv_isub hx hb dX7_testsOf_133 ?_
                  obtain ⟨g48, hv⟩ := y_gd_e hv
                  obtain ⟨i49, hv⟩ := y_gd_e hv
                  refine z_iald hc hB g48 i49 dX7_testsOf_134 ?_
                  refine lv_aload_n hx hb dX7_testsOf_135 rfl (lv_at hl 1 rfl) ?_
                  refine z_getR hc hB 7 2 g32 eob47 (by decide) (by decide) rfl (z_l1 hc qfX7_18) dX7_testsOf_136 ?_
                  refine lv_iload_n hx hb dX7_testsOf_139 rfl (lv_at hl 0 rfl) ?_
                  obtain ⟨i50, hv⟩ := y_gd_e hv
                  refine z_iald hc hB g48 i50 dX7_testsOf_140 ?_
                  refine lv_iand hx hb dX7_testsOf_141 ?_
                  obtain ⟨v51, ev51, hv⟩ := y_nm_e hv
                  rw [← ev51]
                  refine lv_istore (lv' := [(4, .int v51), (2, .int v46), (0, .ref (ad o0)), (1, .ref (ad o1)), (3, .int x3)]) hx hb dX7_testsOf_142 hl (by decide) rfl (fun ls hl => ?_)
                  refine lv_aload_n hx hb dX7_testsOf_144 rfl (lv_at hl 2 rfl) ?_
                  refine z_getR hc hB 7 2 g32 eob47 (by decide) (by decide) rfl (z_l1 hc qfX7_18) dX7_testsOf_145 ?_
                  refine lv_iload_n hx hb dX7_testsOf_148 rfl (lv_at hl 1 rfl) ?_
                  refine lv_iconst (v := (1 : Int32)) hx hb dX7_testsOf_149 (by decide) ?_
                  refine lv_isub hx hb dX7_testsOf_150 ?_
                  refine lv_aload_n hx hb dX7_testsOf_151 rfl (lv_at hl 2 rfl) ?_
                  refine z_getR hc hB 7 0 g32 eob35 (by decide) (by decide) rfl (z_l1 hc qfX7_11) dX7_testsOf_152 ?_
                  refine lv_iload_n hx hb dX7_testsOf_155 rfl (lv_at hl 4 rfl) ?_
                  obtain ⟨i52, hv⟩ := y_gd_e hv
                  refine z_iald hc hB g36 i52 dX7_testsOf_156 ?_
                  refine lv_iconst (v := (3 : Int32)) hx hb dX7_testsOf_157 (by decide) ?_
                  refine lv_icmp_ne (tgt := 166) hx hb dX7_testsOf_158 (by decide) (fun c53 => ?_) (fun c53 => ?_)
                  · replace hv := y_br_f hv c53
                    refine lv_aload_n hx hb dX7_testsOf_166 rfl (lv_at hl 2 rfl) ?_
                    refine z_getR hc hB 7 2 g32 eob47 (by decide) (by decide) rfl (z_l1 hc qfX7_18) dX7_testsOf_167 ?_
                    refine lv_iload_n hx hb dX7_testsOf_170 rfl (lv_at hl 1 rfl) ?_
                    refine lv_iconst (v := (1 : Int32)) hx hb dX7_testsOf_171 (by decide) ?_
                    refine lv_isub hx hb dX7_testsOf_172 ?_
                    obtain ⟨i54, hv⟩ := y_gd_e hv
                    refine z_iald hc hB g48 i54 dX7_testsOf_173 ?_
                    refine lv_aload_n hx hb dX7_testsOf_174 rfl (lv_at hl 2 rfl) ?_
                    refine z_getR hc hB 7 2 g32 eob47 (by decide) (by decide) rfl (z_l1 hc qfX7_18) dX7_testsOf_175 ?_
                    refine lv_iload_n hx hb dX7_testsOf_178 rfl (lv_at hl 1 rfl) ?_
                    obtain ⟨i55, hv⟩ := y_gd_e hv
                    refine z_iald hc hB g48 i55 dX7_testsOf_179 ?_
                    refine lv_ior hx hb dX7_testsOf_180 ?_
                    exact b181 v46 x3 ob47 (v46 - (1 : Int32)) ((z_I h ob47 (v46 - (1 : Int32)).toNatClampNeg) ||| (z_I h ob47 v46.toNatClampNeg)) h _ _ _ hB (lv_sub hl [2, 3, 1, 4] rfl) _ hv kw4
                  · replace hv := y_br_t hv c53
                    refine lv_iload hx hb dX7_testsOf_161 (lv_at hl 0 rfl) ?_
                    refine lv_goto (tgt := 181) hx hb dX7_testsOf_163 (by decide) ?_
                    exact b181 v46 x3 ob47 (v46 - (1 : Int32)) v51 h _ _ _ hB (lv_sub hl [2, 3, 1, 4] rfl) _ hv kw4
              · replace hv := y_br_t hv c44
                refine lv_iload_n hx hb dX7_testsOf_93 rfl (lv_at hl 2 rfl) ?_
                refine lv_iconst (v := (1 : Int32)) hx hb dX7_testsOf_94 (by decide) ?_
                refine lv_icmp_lt (tgt := 182) hx hb dX7_testsOf_95 (by decide) (fun c56 => ?_) (fun c56 => ?_)
                · replace hv := y_br_t hv c56
                  exact b182 x2 x3 h _ _ _ hB (lv_sub hl [0, 1, 2, 3] rfl) _ hv kw4
                · replace hv := y_br_f hv c56
                  refine lv_aload_n hx hb dX7_testsOf_98 rfl (lv_at hl 0 rfl) ?_
                  obtain ⟨ob57, eob57, hv⟩ := y_bi_e hv
                  refine z_getR hc hB 7 2 g32 eob57 (by decide) (by decide) rfl (z_l1 hc qfX7_18) dX7_testsOf_99 ?_
                  refine lv_iload_n hx hb dX7_testsOf_102 rfl (lv_at hl 2 rfl) ?_
                  refine lv_iconst (v := (1 : Int32)) hx hb dX7_testsOf_103 (by decide) ?_
                  refine lv_isub hx hb dX7_testsOf_104 ?_
                  refine lv_aload_n hx hb dX7_testsOf_105 rfl (lv_at hl 0 rfl) ?_
                  refine z_getR hc hB 7 2 g32 eob57 (by decide) (by decide) rfl (z_l1 hc qfX7_18) dX7_testsOf_106 ?_
                  refine lv_iload_n hx hb dX7_testsOf_109 rfl (lv_at hl 2 rfl) ?_
                  refine lv_iconst (v := (1 : Int32)) hx hb dX7_testsOf_110 (by decide) ?_
                  refine lv_isub hx hb dX7_testsOf_111 ?_
                  obtain ⟨g58, hv⟩ := y_gd_e hv
                  obtain ⟨i59, hv⟩ := y_gd_e hv
                  refine z_iald hc hB g58 i59 dX7_testsOf_112 ?_
                  refine lv_iconst (v := (-1 : Int32)) hx hb dX7_testsOf_113 (by decide) ?_
                  refine lv_ixor hx hb dX7_testsOf_114 ?_
                  obtain ⟨i60, hv⟩ := y_gd_e hv
                  obtain ⟨h61, eh61, hv⟩ := y_nm_e hv
                  refine y_iast hc hB eh61 g58 i60 dX7_testsOf_115 (fun H locs hB => ?_)
                  refine lv_goto (tgt := 182) hx hb dX7_testsOf_116 (by decide) ?_
                  exact b182 x2 x3 h61 _ _ _ hB (lv_sub hl [0, 1, 2, 3] rfl) _ hv kw4
            · replace hv := y_br_t hv c42
              exact b40 x2 x3 h _ _ _ hB (lv_sub hl [0, 1, 2, 3] rfl) _ hv kw4
  rw [← kt] at hv
  refine lv_iconst (v := (0 : Int32)) hx hb dX7_testsOf_0 (by decide) ?_
  refine lv_istore_n (lv' := [(2, .int (0 : Int32)), (0, .ref (ad o0)), (1, .ref (ad o1))]) hx hb dX7_testsOf_1 rfl hl (by decide) rfl (fun ls hl => ?_)
  refine lv_iconst (v := (0 : Int32)) hx hb dX7_testsOf_2 (by decide) ?_
  refine lv_istore_n (lv' := [(3, .int (0 : Int32)), (2, .int (0 : Int32)), (0, .ref (ad o0)), (1, .ref (ad o1))]) hx hb dX7_testsOf_3 rfl hl (by decide) rfl (fun ls hl => ?_)
  obtain ⟨n, hv⟩ := y_lp_e hv
  exact L4 n (0 : Int32) (0 : Int32) h _ _ _ hB (lv_sub hl [2, 3, 1, 0] rfl) _ hv kt
theorem qmX8_1 : Cond.methodLink RX8 1 objectInit ∈ z_ws := List.mem_filter.mpr ⟨List.mem_append_right _ (List.mem_of_getElem? (i := 147) (by decide +kernel)), rfl⟩
theorem qlX8_7 : Cond.classLink RX8 7 "DreamTests$Night" ∈ z_ws := List.mem_filter.mpr ⟨List.mem_append_right _ (List.mem_of_getElem? (i := 148) (by decide +kernel)), rfl⟩
theorem qmX8_9 : Cond.methodLink RX8 9 yX2_init ∈ z_ws := List.mem_filter.mpr ⟨List.mem_append_right _ (List.mem_of_getElem? (i := 150) (by decide +kernel)), rfl⟩
theorem qfX8_12 : Cond.fieldLink RX8 12 "DreamTests$State" "night" "LDreamTests$Night;" ∈ z_ws := List.mem_filter.mpr ⟨List.mem_append_right _ (List.mem_of_getElem? (i := 186) (by decide +kernel)), rfl⟩
theorem dX8_init_0 : decode cX8_init 0 = .ok (.aload_n 0, 1) := by decide +kernel
theorem dX8_init_1 : decode cX8_init 1 = .ok (.invokespecial 1, 3) := by decide +kernel
theorem dX8_init_4 : decode cX8_init 4 = .ok (.aload_n 0, 1) := by decide +kernel
theorem dX8_init_5 : decode cX8_init 5 = .ok (.new 7, 3) := by decide +kernel
theorem dX8_init_8 : decode cX8_init 8 = .ok (.dup, 1) := by decide +kernel
theorem dX8_init_9 : decode cX8_init 9 = .ok (.aload_n 1, 1) := by decide +kernel
theorem dX8_init_10 : decode cX8_init 10 = .ok (.invokespecial 9, 3) := by decide +kernel
theorem dX8_init_13 : decode cX8_init 13 = .ok (.putfield 12, 3) := by decide +kernel
theorem dX8_init_16 : decode cX8_init 16 = .ok (.return_, 1) := by decide +kernel
abbrev rm_X8_init : Room := { frames := 3, cells := 4, slots := 33, locals := 64 }
noncomputable def fX8_init (o0 : Nat) (o1 : Nat) (h : z_T) : Option (z_T) :=
  y_nm (z_n h) fun ob1 =>
  y_nm (z_al h 2 0) fun h2 =>
  y_bi (fX2_init ob1 o1 h2) fun h5 =>
  y_gd (z_ok h5 o0 8) <|
  y_gd (z_ok h5 ob1 2) <|
  y_nm (z_sR h5 o0 0 (some ob1)) fun h8 =>
  some h8
set_option maxHeartbeats 4000000 in
set_option maxRecDepth 100000 in
theorem mm_X8_init {G : z_Gt} (hSK : z_SK (z_S G)) (l : Launch) (ad : Nat → Nat) (o0 : Nat) (o1 : Nat) (h : z_T) {h9 : z_T} (hv : fX8_init o0 o1 h = some h9) : z_Mv G (z_S G) l yX8_init cX8_init 2 rm_X8_init 4 33 [.ref (ad o0), .ref (ad o1)] ad h h9 := by
  refine z_ofW hSK (by decide) (Nat.le_of_ble_eq_true rfl) ?_
  intro p e s m args below meth c ls hc hr hnm hB hl
  have hx := hc.1.1
  have hb := hc.1.2.1
  have hown := hc.1.2.2.2.1
  have hts := hc.1.2.2.2.2
  replace hc : z_C G (z_S G) ad (z_n h) p m c cX8_init 2 s args RX8 meth := hc
  replace hown : s.vm.findClass RX8 = some m.cls := hown
  replace hl : lv_has ls 2 [(0, .ref (ad o0)), (1, .ref (ad o1))] := hl
  show W p l e rm_X8_init s m args below meth c s.heap [] 0 0 (MQ below (z_Qv G ad h9 (z_n h) s.heap.size) args s 4 33 (z_A ad (z_n h) s.heap.size)) (F0 m 0 ls [])
  obtain ⟨rs, kt⟩ : ∃ rs : z_T, rs = h9 := ⟨_, rfl⟩
  generalize hn0 : z_n h = n0 at hc hB ⊢
  rw [← kt] at hv
  refine lv_aload_n hx hb dX8_init_0 rfl (lv_at hl 0 rfl) ?_
  refine z_objI hc qmX8_1 q_objInst q_objCode hl.1 ⟨Nat.le_of_ble_eq_true rfl, Nat.le_of_ble_eq_true rfl⟩ dX8_init_1 ?_
  refine lv_aload_n hx hb dX8_init_4 rfl (lv_at hl 0 rfl) ?_
  obtain ⟨ob1, eob1, hv⟩ := y_nm_e hv
  obtain ⟨h2, eh2, hv⟩ := y_nm_e hv
  refine z_new hc hB 2 eh2 (by decide) qlX8_7 qi_DreamTests_Night qn_RX2 (Nat.le_of_ble_eq_true rfl) (Nat.le_of_ble_eq_true rfl) dX8_init_5 (fun H hB => ?_)
  rw [← eob1]
  have g3 : z_ok h2 ob1 2 = true := by rw [eh2, eob1]; exact z_al_ok
  refine lv_dup hx hb dX8_init_8 rfl ?_
  refine lv_aload_n hx hb dX8_init_9 rfl (lv_at hl 1 rfl) ?_
  obtain ⟨h5, c4, hv⟩ := y_bi_e hv
  refine z_thV hc hB (z_runI (rest := [.ref (ad ob1), .ref (ad o0)]) hc hB (mm_X2_init hSK l ad ob1 o1 h2 c4) md_X2_init qmX8_9 rfl rfl ⟨Nat.le_of_ble_eq_true rfl, Nat.le_of_ble_eq_true rfl⟩ rfl hl.1 rfl (Nat.le_of_ble_eq_true rfl) dX8_init_10 ⟨Nat.le_of_ble_eq_true rfl, Nat.le_of_ble_eq_true rfl⟩) (fun H locs hB => ?_)
  obtain ⟨g6, hv⟩ := y_gd_e hv
  obtain ⟨g7, hv⟩ := y_gd_e hv
  obtain ⟨h8, eh8, hv⟩ := y_nm_e hv
  refine z_putF hc hB 8 0 (r := (some ob1)) rfl (z_hrS (k := 2) g7) eh8 g6 qfX8_12 dX8_init_13 hnm (by decide) (by decide) rfl rfl rfl (fun r => by cases r <;> rfl) (fun r => by cases r <;> rfl) (fun H locs hB => ?_)
  replace hv := Option.some.inj hv
  subst hv
  rw [← kt]
  exact z_vret hc hB hr dX8_init_16
theorem qmX8_18 : Cond.methodLink RX8 18 yX2_begin ∈ z_ws := List.mem_filter.mpr ⟨List.mem_append_right _ (List.mem_of_getElem? (i := 452) (by decide +kernel)), rfl⟩
theorem qfX8_21 : Cond.fieldLink RX8 21 "DreamTests$State" "tree" "LDreamTests$Tree;" ∈ z_ws := List.mem_filter.mpr ⟨List.mem_append_right _ (List.mem_of_getElem? (i := 188) (by decide +kernel)), rfl⟩
theorem qfX8_25 : Cond.fieldLink RX8 25 "DreamTests$State" "sentence" "LDreamTests$Sentence;" ∈ z_ws := List.mem_filter.mpr ⟨List.mem_append_right _ (List.mem_of_getElem? (i := 190) (by decide +kernel)), rfl⟩
theorem dX8_begin_0 : decode cX8_begin 0 = .ok (.aload_n 0, 1) := by decide +kernel
theorem dX8_begin_1 : decode cX8_begin 1 = .ok (.getfield 12, 3) := by decide +kernel
theorem dX8_begin_4 : decode cX8_begin 4 = .ok (.aload_n 1, 1) := by decide +kernel
theorem dX8_begin_5 : decode cX8_begin 5 = .ok (.invokevirtual 18, 3) := by decide +kernel
theorem dX8_begin_8 : decode cX8_begin 8 = .ok (.aload_n 0, 1) := by decide +kernel
theorem dX8_begin_9 : decode cX8_begin 9 = .ok (.aconst_null, 1) := by decide +kernel
theorem dX8_begin_10 : decode cX8_begin 10 = .ok (.putfield 21, 3) := by decide +kernel
theorem dX8_begin_13 : decode cX8_begin 13 = .ok (.aload_n 0, 1) := by decide +kernel
theorem dX8_begin_14 : decode cX8_begin 14 = .ok (.aconst_null, 1) := by decide +kernel
theorem dX8_begin_15 : decode cX8_begin 15 = .ok (.putfield 25, 3) := by decide +kernel
theorem dX8_begin_18 : decode cX8_begin 18 = .ok (.return_, 1) := by decide +kernel
abbrev rm_X8_begin : Room := { frames := 2, cells := 0, slots := 0, locals := 43 }
noncomputable def fX8_begin (o0 : Nat) (o1 : Nat) (h : z_T) : Option (z_T) :=
  y_gd (z_ok h o0 8) <|
  y_bi (z_R h o0 0) fun ob2 =>
  y_gd (z_ok h ob2 2) <|
  y_bi (fX2_begin ob2 o1 h) fun h4 =>
  y_gd (z_ok h4 o0 8) <|
  y_nm (z_sR h4 o0 1 none) fun h7 =>
  y_nm (z_sR h7 o0 2 none) fun h8 =>
  some h8
set_option maxHeartbeats 4000000 in
set_option maxRecDepth 100000 in
theorem mm_X8_begin {G : z_Gt} (hSK : z_SK (z_S G)) (l : Launch) (ad : Nat → Nat) (o0 : Nat) (o1 : Nat) (h : z_T) {h9 : z_T} (hv : fX8_begin o0 o1 h = some h9) : z_Mv G (z_S G) l yX8_begin cX8_begin 2 rm_X8_begin 0 0 [.ref (ad o0), .ref (ad o1)] ad h h9 := by
  refine z_ofW hSK (by decide) (Nat.le_of_ble_eq_true rfl) ?_
  intro p e s m args below meth c ls hc hr hnm hB hl
  have hx := hc.1.1
  have hb := hc.1.2.1
  have hown := hc.1.2.2.2.1
  have hts := hc.1.2.2.2.2
  replace hc : z_C G (z_S G) ad (z_n h) p m c cX8_begin 2 s args RX8 meth := hc
  replace hown : s.vm.findClass RX8 = some m.cls := hown
  replace hl : lv_has ls 2 [(0, .ref (ad o0)), (1, .ref (ad o1))] := hl
  show W p l e rm_X8_begin s m args below meth c s.heap [] 0 0 (MQ below (z_Qv G ad h9 (z_n h) s.heap.size) args s 0 0 (z_A ad (z_n h) s.heap.size)) (F0 m 0 ls [])
  obtain ⟨rs, kt⟩ : ∃ rs : z_T, rs = h9 := ⟨_, rfl⟩
  generalize hn0 : z_n h = n0 at hc hB ⊢
  rw [← kt] at hv
  refine lv_aload_n hx hb dX8_begin_0 rfl (lv_at hl 0 rfl) ?_
  obtain ⟨g1, hv⟩ := y_gd_e hv
  obtain ⟨ob2, eob2, hv⟩ := y_bi_e hv
  refine z_getR hc hB 8 0 g1 eob2 (by decide) (by decide) rfl (z_l1 hc qfX8_12) dX8_begin_1 ?_
  refine lv_aload_n hx hb dX8_begin_4 rfl (lv_at hl 1 rfl) ?_
  obtain ⟨g5, hv⟩ := y_gd_e hv
  obtain ⟨h4, c3, hv⟩ := y_bi_e hv
  refine z_thV hc hB (z_runV hc hB 2 (mm_X2_begin hSK l ad ob2 o1 h c3) md_X2_begin qmX8_18 g5 (by decide) rfl rfl rfl ⟨Nat.le_of_ble_eq_true rfl, Nat.le_of_ble_eq_true rfl⟩ rfl hl.1 rfl (Nat.le_of_ble_eq_true rfl) dX8_begin_5 ⟨Nat.le_of_ble_eq_true rfl, Nat.le_of_ble_eq_true rfl⟩) (fun H locs hB => ?_)
  refine lv_aload_n hx hb dX8_begin_8 rfl (lv_at hl 0 rfl) ?_
  refine lv_null hx hb dX8_begin_9 ?_
  obtain ⟨g6, hv⟩ := y_gd_e hv
  obtain ⟨h7, eh7, hv⟩ := y_nm_e hv
  refine z_putN hc hB 8 1 (r := none) rfl z_hrN eh7 g6 (z_l1 hc qfX8_21) dX8_begin_10 (by decide) (by decide) rfl rfl (fun r => by cases r <;> rfl) (fun r => by cases r <;> rfl) (fun H locs hB => ?_)
  refine lv_aload_n hx hb dX8_begin_13 rfl (lv_at hl 0 rfl) ?_
  refine lv_null hx hb dX8_begin_14 ?_
  obtain ⟨h8, eh8, hv⟩ := y_nm_e hv
  refine z_putN hc hB 8 2 (r := none) rfl z_hrN eh8 (by rw [eh7]; exact g6) (z_l1 hc qfX8_25) dX8_begin_15 (by decide) (by decide) rfl rfl (fun r => by cases r <;> rfl) (fun r => by cases r <;> rfl) (fun H locs hB => ?_)
  replace hv := Option.some.inj hv
  subst hv
  rw [← kt]
  exact z_vret hc hB hr dX8_begin_18
theorem qmX8_29 : Cond.methodLink RX8 29 yX2_copy ∈ z_ws := List.mem_filter.mpr ⟨List.mem_append_right _ (List.mem_of_getElem? (i := 1059) (by decide +kernel)), rfl⟩
theorem dX8_copy_0 : decode cX8_copy 0 = .ok (.aload_n 0, 1) := by decide +kernel
theorem dX8_copy_1 : decode cX8_copy 1 = .ok (.getfield 12, 3) := by decide +kernel
theorem dX8_copy_4 : decode cX8_copy 4 = .ok (.aload_n 1, 1) := by decide +kernel
theorem dX8_copy_5 : decode cX8_copy 5 = .ok (.getfield 12, 3) := by decide +kernel
theorem dX8_copy_8 : decode cX8_copy 8 = .ok (.invokevirtual 29, 3) := by decide +kernel
theorem dX8_copy_11 : decode cX8_copy 11 = .ok (.aload_n 0, 1) := by decide +kernel
theorem dX8_copy_12 : decode cX8_copy 12 = .ok (.aload_n 1, 1) := by decide +kernel
theorem dX8_copy_13 : decode cX8_copy 13 = .ok (.getfield 21, 3) := by decide +kernel
theorem dX8_copy_16 : decode cX8_copy 16 = .ok (.putfield 21, 3) := by decide +kernel
theorem dX8_copy_19 : decode cX8_copy 19 = .ok (.aload_n 0, 1) := by decide +kernel
theorem dX8_copy_20 : decode cX8_copy 20 = .ok (.aload_n 1, 1) := by decide +kernel
theorem dX8_copy_21 : decode cX8_copy 21 = .ok (.getfield 25, 3) := by decide +kernel
theorem dX8_copy_24 : decode cX8_copy 24 = .ok (.putfield 25, 3) := by decide +kernel
theorem dX8_copy_27 : decode cX8_copy 27 = .ok (.return_, 1) := by decide +kernel
abbrev rm_X8_copy : Room := { frames := 2, cells := 0, slots := 0, locals := 81 }
noncomputable def fX8_copy (o0 : Nat) (o1 : Nat) (h : z_T) : Option (z_T) :=
  y_gd (z_ok h o0 8) <|
  y_bi (z_R h o0 0) fun ob2 =>
  y_gd (z_ok h o1 8) <|
  y_bi (z_R h o1 0) fun ob4 =>
  y_gd (z_ok h ob2 2) <|
  y_bi (fX2_copy ob2 ob4 h) fun h6 =>
  y_gd (z_ok h6 o1 8) <|
  y_gd (z_ok h6 o0 8) <|
  y_nm (z_sR h6 o0 1 (z_R h6 o1 1)) fun h10 =>
  y_nm (z_sR h10 o0 2 (z_R h10 o1 2)) fun h11 =>
  some h11
set_option maxHeartbeats 4000000 in
set_option maxRecDepth 100000 in
theorem mm_X8_copy {G : z_Gt} (hSK : z_SK (z_S G)) (l : Launch) (ad : Nat → Nat) (o0 : Nat) (o1 : Nat) (h : z_T) {h9 : z_T} (hv : fX8_copy o0 o1 h = some h9) : z_Mv G (z_S G) l yX8_copy cX8_copy 2 rm_X8_copy 0 0 [.ref (ad o0), .ref (ad o1)] ad h h9 := by
  refine z_ofW hSK (by decide) (Nat.le_of_ble_eq_true rfl) ?_
  intro p e s m args below meth c ls hc hr hnm hB hl
  have hx := hc.1.1
  have hb := hc.1.2.1
  have hown := hc.1.2.2.2.1
  have hts := hc.1.2.2.2.2
  replace hc : z_C G (z_S G) ad (z_n h) p m c cX8_copy 2 s args RX8 meth := hc
  replace hown : s.vm.findClass RX8 = some m.cls := hown
  replace hl : lv_has ls 2 [(0, .ref (ad o0)), (1, .ref (ad o1))] := hl
  show W p l e rm_X8_copy s m args below meth c s.heap [] 0 0 (MQ below (z_Qv G ad h9 (z_n h) s.heap.size) args s 0 0 (z_A ad (z_n h) s.heap.size)) (F0 m 0 ls [])
  obtain ⟨rs, kt⟩ : ∃ rs : z_T, rs = h9 := ⟨_, rfl⟩
  generalize hn0 : z_n h = n0 at hc hB ⊢
  rw [← kt] at hv
  refine lv_aload_n hx hb dX8_copy_0 rfl (lv_at hl 0 rfl) ?_
  obtain ⟨g1, hv⟩ := y_gd_e hv
  obtain ⟨ob2, eob2, hv⟩ := y_bi_e hv
  refine z_getR hc hB 8 0 g1 eob2 (by decide) (by decide) rfl (z_l1 hc qfX8_12) dX8_copy_1 ?_
  refine lv_aload_n hx hb dX8_copy_4 rfl (lv_at hl 1 rfl) ?_
  obtain ⟨g3, hv⟩ := y_gd_e hv
  obtain ⟨ob4, eob4, hv⟩ := y_bi_e hv
  refine z_getR hc hB 8 0 g3 eob4 (by decide) (by decide) rfl (z_l1 hc qfX8_12) dX8_copy_5 ?_
  obtain ⟨g7, hv⟩ := y_gd_e hv
  obtain ⟨h6, c5, hv⟩ := y_bi_e hv
  refine z_thV hc hB (z_runV hc hB 2 (mm_X2_copy hSK l ad ob2 ob4 h c5) md_X2_copy qmX8_29 g7 (by decide) rfl rfl rfl ⟨Nat.le_of_ble_eq_true rfl, Nat.le_of_ble_eq_true rfl⟩ rfl hl.1 rfl (Nat.le_of_ble_eq_true rfl) dX8_copy_8 ⟨Nat.le_of_ble_eq_true rfl, Nat.le_of_ble_eq_true rfl⟩) (fun H locs hB => ?_)
  refine lv_aload_n hx hb dX8_copy_11 rfl (lv_at hl 0 rfl) ?_
  refine lv_aload_n hx hb dX8_copy_12 rfl (lv_at hl 1 rfl) ?_
  obtain ⟨g8, hv⟩ := y_gd_e hv
  refine z_getQ hc hB 8 1 g8 (by decide) (by decide) rfl (z_l1 hc qfX8_21) dX8_copy_13 ?_
  obtain ⟨g9, hv⟩ := y_gd_e hv
  obtain ⟨h10, eh10, hv⟩ := y_nm_e hv
  refine z_putN hc hB 8 1 (r := (z_R h6 o1 1)) rfl (z_hrQ hB g8 rfl) eh10 g9 (z_l1 hc qfX8_21) dX8_copy_16 (by decide) (by decide) rfl rfl (fun r => by cases r <;> rfl) (fun r => by cases r <;> rfl) (fun H locs hB => ?_)
  refine lv_aload_n hx hb dX8_copy_19 rfl (lv_at hl 0 rfl) ?_
  refine lv_aload_n hx hb dX8_copy_20 rfl (lv_at hl 1 rfl) ?_
  refine z_getQ hc hB 8 2 (by rw [eh10]; exact g8) (by decide) (by decide) rfl (z_l1 hc qfX8_25) dX8_copy_21 ?_
  obtain ⟨h11, eh11, hv⟩ := y_nm_e hv
  refine z_putN hc hB 8 2 (r := (z_R h10 o1 2)) rfl (z_hrQ hB (by rw [eh10]; exact g8) rfl) eh11 (by rw [eh10]; exact g9) (z_l1 hc qfX8_25) dX8_copy_24 (by decide) (by decide) rfl rfl (fun r => by cases r <;> rfl) (fun r => by cases r <;> rfl) (fun H locs hB => ?_)
  replace hv := Option.some.inj hv
  subst hv
  rw [← kt]
  exact z_vret hc hB hr dX8_copy_27
theorem qmX9_3 : Cond.methodLink RX9 3 objectInit ∈ z_ws := List.mem_filter.mpr ⟨List.mem_append_right _ (List.mem_of_getElem? (i := 785) (by decide +kernel)), rfl⟩
theorem qfX9_11 : Cond.fieldLink RX9 11 "DreamTests$Tree" "nodes" "[I" ∈ z_ws := List.mem_filter.mpr ⟨List.mem_append_right _ (List.mem_of_getElem? (i := 786) (by decide +kernel)), rfl⟩
theorem dX9_init_0 : decode cX9_init 0 = .ok (.aload_n 0, 1) := by decide +kernel
theorem dX9_init_1 : decode cX9_init 1 = .ok (.invokespecial 3, 3) := by decide +kernel
theorem dX9_init_4 : decode cX9_init 4 = .ok (.aload_n 0, 1) := by decide +kernel
theorem dX9_init_5 : decode cX9_init 5 = .ok (.bipush 32, 2) := by decide +kernel
theorem dX9_init_7 : decode cX9_init 7 = .ok (.newarray .int, 2) := by decide +kernel
theorem dX9_init_9 : decode cX9_init 9 = .ok (.putfield 11, 3) := by decide +kernel
theorem dX9_init_12 : decode cX9_init 12 = .ok (.return_, 1) := by decide +kernel
abbrev rm_X9_init : Room := { frames := 1, cells := 1, slots := 32, locals := 12 }
noncomputable def fX9_init (o0 : Nat) (h : z_T) : Option (z_T) :=
  y_nm (z_n h) fun o1 =>
  y_nm (z_al h 13 32) fun h2 =>
  y_gd (z_ok h2 o0 9) <|
  y_nm (z_sR h2 o0 0 (some o1)) fun h5 =>
  some h5
set_option maxHeartbeats 4000000 in
set_option maxRecDepth 100000 in
theorem mm_X9_init {G : z_Gt} (hSK : z_SK (z_S G)) (l : Launch) (ad : Nat → Nat) (o0 : Nat) (h : z_T) {h9 : z_T} (hv : fX9_init o0 h = some h9) : z_Mv G (z_S G) l yX9_init cX9_init 1 rm_X9_init 1 32 [.ref (ad o0)] ad h h9 := by
  refine z_ofW hSK (by decide) (Nat.le_of_ble_eq_true rfl) ?_
  intro p e s m args below meth c ls hc hr hnm hB hl
  have hx := hc.1.1
  have hb := hc.1.2.1
  have hown := hc.1.2.2.2.1
  have hts := hc.1.2.2.2.2
  replace hc : z_C G (z_S G) ad (z_n h) p m c cX9_init 1 s args RX9 meth := hc
  replace hown : s.vm.findClass RX9 = some m.cls := hown
  replace hl : lv_has ls 1 [(0, .ref (ad o0))] := hl
  show W p l e rm_X9_init s m args below meth c s.heap [] 0 0 (MQ below (z_Qv G ad h9 (z_n h) s.heap.size) args s 1 32 (z_A ad (z_n h) s.heap.size)) (F0 m 0 ls [])
  obtain ⟨rs, kt⟩ : ∃ rs : z_T, rs = h9 := ⟨_, rfl⟩
  generalize hn0 : z_n h = n0 at hc hB ⊢
  rw [← kt] at hv
  refine lv_aload_n hx hb dX9_init_0 rfl (lv_at hl 0 rfl) ?_
  refine z_objI hc qmX9_3 q_objInst q_objCode hl.1 ⟨Nat.le_of_ble_eq_true rfl, Nat.le_of_ble_eq_true rfl⟩ dX9_init_1 ?_
  refine lv_aload_n hx hb dX9_init_4 rfl (lv_at hl 0 rfl) ?_
  refine lv_bipush (v := (32 : Int32)) hx hb dX9_init_5 (by decide) ?_
  obtain ⟨o1, eo1, hv⟩ := y_nm_e hv
  obtain ⟨h2, eh2, hv⟩ := y_nm_e hv
  refine z_newarr hc hB 13 32 (n := (32 : Int32)) eh2 (by decide) (by decide) (by decide) rfl qa_int (by decide) (by decide) (Nat.le_of_ble_eq_true rfl) (Nat.le_of_ble_eq_true rfl) dX9_init_7 (fun H hB => ?_)
  rw [← eo1]
  have g3 : z_ok h2 o1 13 = true := by rw [eh2, eo1]; exact z_al_ok
  obtain ⟨g4, hv⟩ := y_gd_e hv
  obtain ⟨h5, eh5, hv⟩ := y_nm_e hv
  refine z_putF hc hB 9 0 (r := (some o1)) rfl (z_hrS (k := 13) g3) eh5 g4 qfX9_11 dX9_init_9 hnm (by decide) (by decide) rfl rfl rfl (fun r => by cases r <;> rfl) (fun r => by cases r <;> rfl) (fun H locs hB => ?_)
  replace hv := Option.some.inj hv
  subst hv
  rw [← kt]
  exact z_vret hc hB hr dX9_init_12
theorem qmX9_25 : Cond.methodLink RX9 25 yX6_fail ∈ z_ws := List.mem_filter.mpr ⟨List.mem_append_right _ (List.mem_of_getElem? (i := 802) (by decide +kernel)), rfl⟩
theorem qmX9_42 : Cond.methodLink RX9 42 yX6_advance ∈ z_ws := List.mem_filter.mpr ⟨List.mem_append_right _ (List.mem_of_getElem? (i := 808) (by decide +kernel)), rfl⟩
theorem qfX9_29 : Cond.fieldLink RX9 29 "DreamTests$Word" "UP" "LDreamTests$Word;" ∈ z_ws := List.mem_filter.mpr ⟨List.mem_append_right _ (List.mem_of_getElem? (i := 803) (by decide +kernel)), rfl⟩
theorem qmX9_35 : Cond.methodLink RX9 35 yX6_isAt ∈ z_ws := List.mem_filter.mpr ⟨List.mem_append_right _ (List.mem_of_getElem? (i := 805) (by decide +kernel)), rfl⟩
theorem qfX9_39 : Cond.fieldLink RX9 39 "DreamTests$Word" "BED" "LDreamTests$Word;" ∈ z_ws := List.mem_filter.mpr ⟨List.mem_append_right _ (List.mem_of_getElem? (i := 806) (by decide +kernel)), rfl⟩
theorem qmX9_45 : Cond.methodLink RX9 45 yX6_testHere ∈ z_ws := List.mem_filter.mpr ⟨List.mem_append_right _ (List.mem_of_getElem? (i := 809) (by decide +kernel)), rfl⟩
theorem qfX9_49 : Cond.fieldLink RX9 49 "DreamTests$Tree" "tests" "I" ∈ z_ws := List.mem_filter.mpr ⟨List.mem_append_right _ (List.mem_of_getElem? (i := 787) (by decide +kernel)), rfl⟩
theorem qmX9_53 : Cond.methodLink RX9 53 yX6_take ∈ z_ws := List.mem_filter.mpr ⟨List.mem_append_right _ (List.mem_of_getElem? (i := 810) (by decide +kernel)), rfl⟩
theorem qmX9_15 : Cond.methodLink RX9 15 yX9_readNode ∈ z_ws := List.mem_filter.mpr ⟨List.mem_append_right _ (List.mem_of_getElem? (i := 798) (by decide +kernel)), rfl⟩
theorem qn_RX9 : Cond.initialized RX9 ∈ z_ws := List.mem_filter.mpr ⟨List.mem_append_right _ (List.mem_of_getElem? (i := 24) (by decide +kernel)), rfl⟩
theorem qc_X9_readNode : Cond.code yX9_readNode cX9_readNode 8 (some .boolean) ∈ z_ws := List.mem_filter.mpr ⟨List.mem_append_right _ (List.mem_of_getElem? (i := 801) (by decide +kernel)), rfl⟩
theorem qi_X9_readNode : Cond.instanceMethod yX9_readNode ∈ z_ws := List.mem_filter.mpr ⟨List.mem_append_right _ (List.mem_of_getElem? (i := 800) (by decide +kernel)), rfl⟩
theorem qs_X9_readNode : Cond.selects RX9 yX9_readNode yX9_readNode ∈ z_ws := List.mem_filter.mpr ⟨List.mem_append_left _ (List.mem_of_getElem? (i := 13) (by decide +kernel)), rfl⟩
theorem md_X9_readNode : z_mdV yX9_readNode cX9_readNode 8 (some .boolean) 5 := ⟨⟨qn_RX9, qc_X9_readNode, ⟨by decide +kernel, by decide +kernel, by decide +kernel⟩⟩, qi_X9_readNode, qs_X9_readNode⟩
abbrev rm_X9_readNode (d : Nat) : Room := { frames := 1 * d + 5, cells := 0, slots := 0, locals := 27 * d + 117 }
theorem dX9_readNode_0 : decode cX9_readNode 0 = .ok (.iload_n 3, 1) := by decide +kernel
theorem dX9_readNode_1 : decode cX9_readNode 1 = .ok (.ifCond .lt 12, 3) := by decide +kernel
theorem dX9_readNode_4 : decode cX9_readNode 4 = .ok (.iload_n 3, 1) := by decide +kernel
theorem dX9_readNode_5 : decode cX9_readNode 5 = .ok (.aload_n 0, 1) := by decide +kernel
theorem dX9_readNode_6 : decode cX9_readNode 6 = .ok (.getfield 11, 3) := by decide +kernel
theorem dX9_readNode_9 : decode cX9_readNode 9 = .ok (.arraylength, 1) := by decide +kernel
theorem dX9_readNode_10 : decode cX9_readNode 10 = .ok (.if_icmp .lt 9, 3) := by decide +kernel
theorem dX9_readNode_13 : decode cX9_readNode 13 = .ok (.aload_n 1, 1) := by decide +kernel
theorem dX9_readNode_14 : decode cX9_readNode 14 = .ok (.iconst 4, 1) := by decide +kernel
theorem dX9_readNode_15 : decode cX9_readNode 15 = .ok (.invokevirtual 25, 3) := by decide +kernel
theorem dX9_readNode_18 : decode cX9_readNode 18 = .ok (.ireturn, 1) := by decide +kernel
theorem dX9_readNode_19 : decode cX9_readNode 19 = .ok (.aload_n 1, 1) := by decide +kernel
theorem dX9_readNode_20 : decode cX9_readNode 20 = .ok (.getstatic 29, 3) := by decide +kernel
theorem dX9_readNode_23 : decode cX9_readNode 23 = .ok (.invokevirtual 35, 3) := by decide +kernel
theorem dX9_readNode_26 : decode cX9_readNode 26 = .ok (.ifCond .ne 13, 3) := by decide +kernel
theorem dX9_readNode_29 : decode cX9_readNode 29 = .ok (.aload_n 1, 1) := by decide +kernel
theorem dX9_readNode_30 : decode cX9_readNode 30 = .ok (.getstatic 39, 3) := by decide +kernel
theorem dX9_readNode_33 : decode cX9_readNode 33 = .ok (.invokevirtual 35, 3) := by decide +kernel
theorem dX9_readNode_36 : decode cX9_readNode 36 = .ok (.ifCond .eq 31, 3) := by decide +kernel
theorem dX9_readNode_39 : decode cX9_readNode 39 = .ok (.aload_n 0, 1) := by decide +kernel
theorem dX9_readNode_40 : decode cX9_readNode 40 = .ok (.getfield 11, 3) := by decide +kernel
theorem dX9_readNode_43 : decode cX9_readNode 43 = .ok (.iload_n 3, 1) := by decide +kernel
theorem dX9_readNode_44 : decode cX9_readNode 44 = .ok (.aload_n 1, 1) := by decide +kernel
theorem dX9_readNode_45 : decode cX9_readNode 45 = .ok (.getstatic 29, 3) := by decide +kernel
theorem dX9_readNode_48 : decode cX9_readNode 48 = .ok (.invokevirtual 35, 3) := by decide +kernel
theorem dX9_readNode_51 : decode cX9_readNode 51 = .ok (.ifCond .eq 7, 3) := by decide +kernel
theorem dX9_readNode_54 : decode cX9_readNode 54 = .ok (.iconst (-1), 1) := by decide +kernel
theorem dX9_readNode_55 : decode cX9_readNode 55 = .ok (.goto 5, 3) := by decide +kernel
theorem dX9_readNode_58 : decode cX9_readNode 58 = .ok (.bipush (-2), 2) := by decide +kernel
theorem dX9_readNode_60 : decode cX9_readNode 60 = .ok (.iastore, 1) := by decide +kernel
theorem dX9_readNode_61 : decode cX9_readNode 61 = .ok (.aload_n 1, 1) := by decide +kernel
theorem dX9_readNode_62 : decode cX9_readNode 62 = .ok (.invokevirtual 42, 3) := by decide +kernel
theorem dX9_readNode_65 : decode cX9_readNode 65 = .ok (.iconst 1, 1) := by decide +kernel
theorem dX9_readNode_66 : decode cX9_readNode 66 = .ok (.ireturn, 1) := by decide +kernel
theorem dX9_readNode_67 : decode cX9_readNode 67 = .ok (.aload_n 1, 1) := by decide +kernel
theorem dX9_readNode_68 : decode cX9_readNode 68 = .ok (.aload_n 2, 1) := by decide +kernel
theorem dX9_readNode_69 : decode cX9_readNode 69 = .ok (.invokevirtual 45, 3) := by decide +kernel
theorem dX9_readNode_72 : decode cX9_readNode 72 = .ok (.istore 6, 2) := by decide +kernel
theorem dX9_readNode_74 : decode cX9_readNode 74 = .ok (.iload 6, 2) := by decide +kernel
theorem dX9_readNode_76 : decode cX9_readNode 76 = .ok (.iconst (-1), 1) := by decide +kernel
theorem dX9_readNode_77 : decode cX9_readNode 77 = .ok (.if_icmp .ne 5, 3) := by decide +kernel
theorem dX9_readNode_80 : decode cX9_readNode 80 = .ok (.iconst 0, 1) := by decide +kernel
theorem dX9_readNode_81 : decode cX9_readNode 81 = .ok (.ireturn, 1) := by decide +kernel
theorem dX9_readNode_82 : decode cX9_readNode 82 = .ok (.iload 4, 2) := by decide +kernel
theorem dX9_readNode_84 : decode cX9_readNode 84 = .ok (.iconst 1, 1) := by decide +kernel
theorem dX9_readNode_85 : decode cX9_readNode 85 = .ok (.iload 6, 2) := by decide +kernel
theorem dX9_readNode_87 : decode cX9_readNode 87 = .ok (.ishl, 1) := by decide +kernel
theorem dX9_readNode_88 : decode cX9_readNode 88 = .ok (.iand, 1) := by decide +kernel
theorem dX9_readNode_89 : decode cX9_readNode 89 = .ok (.ifCond .eq 9, 3) := by decide +kernel
theorem dX9_readNode_92 : decode cX9_readNode 92 = .ok (.aload_n 1, 1) := by decide +kernel
theorem dX9_readNode_93 : decode cX9_readNode 93 = .ok (.iconst 3, 1) := by decide +kernel
theorem dX9_readNode_94 : decode cX9_readNode 94 = .ok (.invokevirtual 25, 3) := by decide +kernel
theorem dX9_readNode_97 : decode cX9_readNode 97 = .ok (.ireturn, 1) := by decide +kernel
theorem dX9_readNode_98 : decode cX9_readNode 98 = .ok (.iload 5, 2) := by decide +kernel
theorem dX9_readNode_100 : decode cX9_readNode 100 = .ok (.iconst 4, 1) := by decide +kernel
theorem dX9_readNode_101 : decode cX9_readNode 101 = .ok (.if_icmp .lt 9, 3) := by decide +kernel
theorem dX9_readNode_104 : decode cX9_readNode 104 = .ok (.aload_n 1, 1) := by decide +kernel
theorem dX9_readNode_105 : decode cX9_readNode 105 = .ok (.iconst 4, 1) := by decide +kernel
theorem dX9_readNode_106 : decode cX9_readNode 106 = .ok (.invokevirtual 25, 3) := by decide +kernel
theorem dX9_readNode_109 : decode cX9_readNode 109 = .ok (.ireturn, 1) := by decide +kernel
theorem dX9_readNode_110 : decode cX9_readNode 110 = .ok (.aload_n 0, 1) := by decide +kernel
theorem dX9_readNode_111 : decode cX9_readNode 111 = .ok (.getfield 11, 3) := by decide +kernel
theorem dX9_readNode_114 : decode cX9_readNode 114 = .ok (.iload_n 3, 1) := by decide +kernel
theorem dX9_readNode_115 : decode cX9_readNode 115 = .ok (.iload 6, 2) := by decide +kernel
theorem dX9_readNode_117 : decode cX9_readNode 117 = .ok (.iastore, 1) := by decide +kernel
theorem dX9_readNode_118 : decode cX9_readNode 118 = .ok (.aload_n 0, 1) := by decide +kernel
theorem dX9_readNode_119 : decode cX9_readNode 119 = .ok (.dup, 1) := by decide +kernel
theorem dX9_readNode_120 : decode cX9_readNode 120 = .ok (.getfield 49, 3) := by decide +kernel
theorem dX9_readNode_123 : decode cX9_readNode 123 = .ok (.iconst 1, 1) := by decide +kernel
theorem dX9_readNode_124 : decode cX9_readNode 124 = .ok (.iadd, 1) := by decide +kernel
theorem dX9_readNode_125 : decode cX9_readNode 125 = .ok (.putfield 49, 3) := by decide +kernel
theorem dX9_readNode_128 : decode cX9_readNode 128 = .ok (.aload_n 1, 1) := by decide +kernel
theorem dX9_readNode_129 : decode cX9_readNode 129 = .ok (.invokevirtual 42, 3) := by decide +kernel
theorem dX9_readNode_132 : decode cX9_readNode 132 = .ok (.iload 4, 2) := by decide +kernel
theorem dX9_readNode_134 : decode cX9_readNode 134 = .ok (.iconst 1, 1) := by decide +kernel
theorem dX9_readNode_135 : decode cX9_readNode 135 = .ok (.iload 6, 2) := by decide +kernel
theorem dX9_readNode_137 : decode cX9_readNode 137 = .ok (.ishl, 1) := by decide +kernel
theorem dX9_readNode_138 : decode cX9_readNode 138 = .ok (.ior, 1) := by decide +kernel
theorem dX9_readNode_139 : decode cX9_readNode 139 = .ok (.istore 7, 2) := by decide +kernel
theorem dX9_readNode_141 : decode cX9_readNode 141 = .ok (.aload_n 1, 1) := by decide +kernel
theorem dX9_readNode_142 : decode cX9_readNode 142 = .ok (.bipush 40, 2) := by decide +kernel
theorem dX9_readNode_144 : decode cX9_readNode 144 = .ok (.invokevirtual 53, 3) := by decide +kernel
theorem dX9_readNode_147 : decode cX9_readNode 147 = .ok (.ifCond .eq 63, 3) := by decide +kernel
theorem dX9_readNode_150 : decode cX9_readNode 150 = .ok (.aload_n 0, 1) := by decide +kernel
theorem dX9_readNode_151 : decode cX9_readNode 151 = .ok (.aload_n 1, 1) := by decide +kernel
theorem dX9_readNode_152 : decode cX9_readNode 152 = .ok (.aload_n 2, 1) := by decide +kernel
theorem dX9_readNode_153 : decode cX9_readNode 153 = .ok (.iconst 2, 1) := by decide +kernel
theorem dX9_readNode_154 : decode cX9_readNode 154 = .ok (.iload_n 3, 1) := by decide +kernel
theorem dX9_readNode_155 : decode cX9_readNode 155 = .ok (.imul, 1) := by decide +kernel
theorem dX9_readNode_156 : decode cX9_readNode 156 = .ok (.iload 7, 2) := by decide +kernel
theorem dX9_readNode_158 : decode cX9_readNode 158 = .ok (.iload 5, 2) := by decide +kernel
theorem dX9_readNode_160 : decode cX9_readNode 160 = .ok (.iconst 1, 1) := by decide +kernel
theorem dX9_readNode_161 : decode cX9_readNode 161 = .ok (.iadd, 1) := by decide +kernel
theorem dX9_readNode_162 : decode cX9_readNode 162 = .ok (.invokevirtual 15, 3) := by decide +kernel
theorem dX9_readNode_165 : decode cX9_readNode 165 = .ok (.ifCond .eq 45, 3) := by decide +kernel
theorem dX9_readNode_168 : decode cX9_readNode 168 = .ok (.aload_n 1, 1) := by decide +kernel
theorem dX9_readNode_169 : decode cX9_readNode 169 = .ok (.bipush 59, 2) := by decide +kernel
theorem dX9_readNode_171 : decode cX9_readNode 171 = .ok (.invokevirtual 53, 3) := by decide +kernel
theorem dX9_readNode_174 : decode cX9_readNode 174 = .ok (.ifCond .eq 36, 3) := by decide +kernel
theorem dX9_readNode_177 : decode cX9_readNode 177 = .ok (.aload_n 0, 1) := by decide +kernel
theorem dX9_readNode_178 : decode cX9_readNode 178 = .ok (.aload_n 1, 1) := by decide +kernel
theorem dX9_readNode_179 : decode cX9_readNode 179 = .ok (.aload_n 2, 1) := by decide +kernel
theorem dX9_readNode_180 : decode cX9_readNode 180 = .ok (.iconst 2, 1) := by decide +kernel
theorem dX9_readNode_181 : decode cX9_readNode 181 = .ok (.iload_n 3, 1) := by decide +kernel
theorem dX9_readNode_182 : decode cX9_readNode 182 = .ok (.imul, 1) := by decide +kernel
theorem dX9_readNode_183 : decode cX9_readNode 183 = .ok (.iconst 1, 1) := by decide +kernel
theorem dX9_readNode_184 : decode cX9_readNode 184 = .ok (.iadd, 1) := by decide +kernel
theorem dX9_readNode_185 : decode cX9_readNode 185 = .ok (.iload 7, 2) := by decide +kernel
theorem dX9_readNode_187 : decode cX9_readNode 187 = .ok (.iload 5, 2) := by decide +kernel
theorem dX9_readNode_189 : decode cX9_readNode 189 = .ok (.iconst 1, 1) := by decide +kernel
theorem dX9_readNode_190 : decode cX9_readNode 190 = .ok (.iadd, 1) := by decide +kernel
theorem dX9_readNode_191 : decode cX9_readNode 191 = .ok (.invokevirtual 15, 3) := by decide +kernel
theorem dX9_readNode_194 : decode cX9_readNode 194 = .ok (.ifCond .eq 16, 3) := by decide +kernel
theorem dX9_readNode_197 : decode cX9_readNode 197 = .ok (.aload_n 1, 1) := by decide +kernel
theorem dX9_readNode_198 : decode cX9_readNode 198 = .ok (.bipush 41, 2) := by decide +kernel
theorem dX9_readNode_200 : decode cX9_readNode 200 = .ok (.invokevirtual 53, 3) := by decide +kernel
theorem dX9_readNode_203 : decode cX9_readNode 203 = .ok (.ifCond .eq 7, 3) := by decide +kernel
theorem dX9_readNode_206 : decode cX9_readNode 206 = .ok (.iconst 1, 1) := by decide +kernel
theorem dX9_readNode_207 : decode cX9_readNode 207 = .ok (.goto 4, 3) := by decide +kernel
theorem dX9_readNode_210 : decode cX9_readNode 210 = .ok (.iconst 0, 1) := by decide +kernel
theorem dX9_readNode_211 : decode cX9_readNode 211 = .ok (.ireturn, 1) := by decide +kernel
noncomputable def fX9_readNode_b13 (rc : Nat → Nat → Nat → Int32 → Int32 → Int32 → z_T → Option (Int32 × z_T)) (o1 : Nat) (h : z_T) : Option (Int32 × z_T) :=
  y_gd (z_ok h o1 6) <|
  y_bi (fX6_fail o1 (4 : Int32) h) fun ⟨r2, h6⟩ =>
  y_gd (y_b r2) <|
  some (r2, h6)
noncomputable def fX9_readNode_b60 (rc : Nat → Nat → Nat → Int32 → Int32 → Int32 → z_T → Option (Int32 × z_T)) (o1 : Nat) (s0 : Nat) (s1 : Int32) (s2 : Int32) (h : z_T) : Option (Int32 × z_T) :=
  y_gd (z_ok h s0 13) <|
  y_gd (z_ix s1 (z_N h s0)) <|
  y_nm (z_sI h s0 s1.toNatClampNeg s2) fun h11 =>
  y_gd (z_ok h11 o1 6) <|
  y_bi (fX6_advance o1 h11) fun h13 =>
  some ((1 : Int32), h13)
noncomputable def fX9_readNode_b39 (rc : Nat → Nat → Nat → Int32 → Int32 → Int32 → z_T → Option (Int32 × z_T)) (o0 : Nat) (o1 : Nat) (x3 : Int32) (h : z_T) : Option (Int32 × z_T) :=
  y_gd (z_ok h o0 9) <|
  y_bi (z_R h o0 0) fun ob16 =>
  y_gd (z_ok h o1 6) <|
  y_bi (fX6_isAt o1 12 h) fun r18 =>
  y_br (r18 = 0)
    (fX9_readNode_b60 rc o1 ob16 x3 (-2 : Int32) h)
    (fX9_readNode_b60 rc o1 ob16 x3 (-1 : Int32) h)
noncomputable def fX9_readNode_b210 (rc : Nat → Nat → Nat → Int32 → Int32 → Int32 → z_T → Option (Int32 × z_T))  (h : z_T) : Option (Int32 × z_T) :=
  some ((0 : Int32), h)
noncomputable def fX9_readNode_s (rc : Nat → Nat → Nat → Int32 → Int32 → Int32 → z_T → Option (Int32 × z_T)) (o0 : Nat) (o1 : Nat) (o2 : Nat) (x3 : Int32) (x4 : Int32) (x5 : Int32) (h : z_T) : Option (Int32 × z_T) :=
  y_br (x3 < 0)
    (fX9_readNode_b13 rc o1 h)
    (y_gd (z_ok h o0 9) <|
    y_bi (z_R h o0 0) fun ob26 =>
    y_gd (z_ok h ob26 13) <|
    y_br (x3 < (nI (z_N h ob26)))
      (y_gd (z_ok h o1 6) <|
      y_bi (fX6_isAt o1 12 h) fun r30 =>
      y_br (r30 = 0)
        (y_bi (fX6_isAt o1 13 h) fun r37 =>
        y_br (r37 = 0)
          (y_bi (fX6_testHere o1 o2 h) fun ⟨r43, h47⟩ =>
          y_br (r43 = (-1 : Int32))
            (some ((0 : Int32), h47))
            (y_br ((x4 &&& ((1 : Int32) <<< (r43 &&& 31))) = 0)
              (y_br (x5 < (4 : Int32))
                (y_gd (z_ok h47 o0 9) <|
                y_bi (z_R h47 o0 0) fun ob52 =>
                y_gd (z_ok h47 ob52 13) <|
                y_gd (z_ix x3 (z_N h47 ob52)) <|
                y_nm (z_sI h47 ob52 x3.toNatClampNeg r43) fun h55 =>
                y_nm (z_sI h55 o0 1 ((z_I h55 o0 1) + (1 : Int32))) fun h56 =>
                y_gd (z_ok h56 o1 6) <|
                y_bi (fX6_advance o1 h56) fun h58 =>
                y_nm ((x4 ||| ((1 : Int32) <<< (r43 &&& 31)))) fun v60 =>
                y_gd (z_ok h58 o1 6) <|
                y_bi (fX6_take o1 (40 : Int32) h58) fun ⟨r62, h66⟩ =>
                y_br (r62 = 0)
                  (fX9_readNode_b210 rc h66)
                  (y_gd (z_ok h66 o0 9) <|
                  y_bi (rc o0 o1 o2 ((2 : Int32) * x3) v60 (x5 + (1 : Int32)) h66) fun ⟨r70, h74⟩ =>
                  y_br (r70 = 0)
                    (fX9_readNode_b210 rc h74)
                    (y_gd (z_ok h74 o1 6) <|
                    y_bi (fX6_take o1 (59 : Int32) h74) fun ⟨r78, h82⟩ =>
                    y_br (r78 = 0)
                      (fX9_readNode_b210 rc h82)
                      (y_gd (z_ok h82 o0 9) <|
                      y_bi (rc o0 o1 o2 (((2 : Int32) * x3) + (1 : Int32)) v60 (x5 + (1 : Int32)) h82) fun ⟨r86, h90⟩ =>
                      y_br (r86 = 0)
                        (fX9_readNode_b210 rc h90)
                        (y_gd (z_ok h90 o1 6) <|
                        y_bi (fX6_take o1 (41 : Int32) h90) fun ⟨r94, h98⟩ =>
                        y_br (r94 = 0)
                          (fX9_readNode_b210 rc h98)
                          (some ((1 : Int32), h98)))))))
                (y_gd (z_ok h47 o1 6) <|
                y_bi (fX6_fail o1 (4 : Int32) h47) fun ⟨r102, h106⟩ =>
                y_gd (y_b r102) <|
                some (r102, h106)))
              (y_gd (z_ok h47 o1 6) <|
              y_bi (fX6_fail o1 (3 : Int32) h47) fun ⟨r110, h114⟩ =>
              y_gd (y_b r110) <|
              some (r110, h114))))
          (fX9_readNode_b39 rc o0 o1 x3 h))
        (fX9_readNode_b39 rc o0 o1 x3 h))
      (fX9_readNode_b13 rc o1 h))
set_option maxHeartbeats 4000000 in
set_option maxRecDepth 100000 in
theorem mh_X9_readNode {G : z_Gt} (hSK : z_SK (z_S G)) (l : Launch) (ad : Nat → Nat) (d : Nat) (rc : Nat → Nat → Nat → Int32 → Int32 → Int32 → z_T → Option (Int32 × z_T)) (hrc : ∀ (o0 : Nat) (o1 : Nat) (o2 : Nat) (x3 : Int32) (x4 : Int32) (x5 : Int32) (h : z_T) {r0 : Int32} {h9 : z_T}, rc o0 o1 o2 x3 x4 x5 h = some (r0, h9) → z_Mi G (z_S G) l yX9_readNode cX9_readNode 8 (.boolean) (rm_X9_readNode d) 0 0 [.ref (ad o0), .ref (ad o1), .ref (ad o2), .int x3, .int x4, .int x5] ad h h9 r0) (o0 : Nat) (o1 : Nat) (o2 : Nat) (x3 : Int32) (x4 : Int32) (x5 : Int32) (h : z_T) {r0 : Int32} {h9 : z_T} (hv : fX9_readNode_s rc o0 o1 o2 x3 x4 x5 h = some (r0, h9)) : z_Mi G (z_S G) l yX9_readNode cX9_readNode 8 (.boolean) (rm_X9_readNode (d + 1)) 0 0 [.ref (ad o0), .ref (ad o1), .ref (ad o2), .int x3, .int x4, .int x5] ad h h9 r0 := by
  refine z_ofW hSK (by decide) (Nat.le_of_ble_eq_true rfl) ?_
  intro p e s m args below meth c ls hc hr hnm hB hl
  have hx := hc.1.1
  have hb := hc.1.2.1
  have hown := hc.1.2.2.2.1
  have hts := hc.1.2.2.2.2
  replace hc : z_C G (z_S G) ad (z_n h) p m c cX9_readNode 8 s args RX9 meth := hc
  replace hown : s.vm.findClass RX9 = some m.cls := hown
  replace hl : lv_has ls 8 [(0, .ref (ad o0)), (1, .ref (ad o1)), (2, .ref (ad o2)), (3, .int x3), (4, .int x4), (5, .int x5)] := hl
  show W p l e (rm_X9_readNode (d + 1)) s m args below meth c s.heap [] 0 0 (MQ below (z_Qi G ad h9 (z_n h) s.heap.size r0) args s 0 0 (z_A ad (z_n h) s.heap.size)) (F0 m 0 ls [])
  obtain ⟨rs, kt⟩ : ∃ rs : Int32 × z_T, rs = (r0, h9) := ⟨_, rfl⟩
  generalize hn0 : z_n h = n0 at hc hB ⊢
  have b13 : ∀ (h : z_T) (H : Heap) (locs : List Loc) (ls : Array Slot), z_B G ad n0 s h H locs → lv_has ls 8 [(1, .ref (ad o1))] → ∀ w, fX9_readNode_b13 rc o1 h = some w → w = (r0, h9) → W p l e (rm_X9_readNode (d + 1)) s m args below meth c H locs 0 0 (MQ below (z_Qi G ad h9 n0 s.heap.size r0) args s 0 0 (z_A ad n0 s.heap.size)) (F0 m 13 ls []) := by
    intro h H locs ls hB hl w hv kb
    refine lv_aload_n hx hb dX9_readNode_13 rfl (lv_at hl 0 rfl) ?_
    refine lv_iconst (v := (4 : Int32)) hx hb dX9_readNode_14 (by decide) ?_
    obtain ⟨g7, hv⟩ := y_gd_e hv
    obtain ⟨⟨r2, h6⟩, c1, hv⟩ := y_bi_e hv
    refine z_thI hc hB (z_runV hc hB 6 (mm_X6_fail hSK l ad o1 (4 : Int32) h c1) md_X6_fail qmX9_25 g7 (by decide) rfl rfl rfl ⟨by simp only [rm_X9_readNode, rm_X6_fail]; omega, by simp only [rm_X9_readNode, rm_X6_fail]; omega⟩ rfl hl.1 rfl (Nat.le_of_ble_eq_true rfl) dX9_readNode_15 ⟨Nat.le_of_ble_eq_true rfl, Nat.le_of_ble_eq_true rfl⟩) (fun H locs hB => ?_)
    obtain ⟨y8, hv⟩ := y_gd_e hv
    replace hv := Option.some.inj hv
    subst hv
    obtain ⟨e1, e2⟩ := y_pr kb
    rw [← e1, ← e2]
    exact z_zret hc hB hr (y_b_n y8) dX9_readNode_18
  have b60 : ∀ (s0 : Nat) (s1 : Int32) (s2 : Int32) (h : z_T) (H : Heap) (locs : List Loc) (ls : Array Slot), z_B G ad n0 s h H locs → lv_has ls 8 [(1, .ref (ad o1))] → ∀ w, fX9_readNode_b60 rc o1 s0 s1 s2 h = some w → w = (r0, h9) → W p l e (rm_X9_readNode (d + 1)) s m args below meth c H locs 0 0 (MQ below (z_Qi G ad h9 n0 s.heap.size r0) args s 0 0 (z_A ad n0 s.heap.size)) (F0 m 60 ls [.int s2, .int s1, .ref (ad s0)]) := by
    intro s0 s1 s2 h H locs ls hB hl w hv kb
    obtain ⟨g9, hv⟩ := y_gd_e hv
    obtain ⟨i10, hv⟩ := y_gd_e hv
    obtain ⟨h11, eh11, hv⟩ := y_nm_e hv
    refine y_iast hc hB eh11 g9 i10 dX9_readNode_60 (fun H locs hB => ?_)
    refine lv_aload_n hx hb dX9_readNode_61 rfl (lv_at hl 0 rfl) ?_
    obtain ⟨g14, hv⟩ := y_gd_e hv
    obtain ⟨h13, c12, hv⟩ := y_bi_e hv
    refine z_thV hc hB (z_runV hc hB 6 (mm_X6_advance hSK l ad o1 h11 c12) md_X6_advance qmX9_42 g14 (by decide) rfl rfl rfl ⟨by simp only [rm_X9_readNode, rm_X6_advance]; omega, by simp only [rm_X9_readNode, rm_X6_advance]; omega⟩ rfl hl.1 rfl (Nat.le_of_ble_eq_true rfl) dX9_readNode_62 ⟨Nat.le_of_ble_eq_true rfl, Nat.le_of_ble_eq_true rfl⟩) (fun H locs hB => ?_)
    refine lv_iconst (v := (1 : Int32)) hx hb dX9_readNode_65 (by decide) ?_
    replace hv := Option.some.inj hv
    subst hv
    obtain ⟨e1, e2⟩ := y_pr kb
    rw [← e1, ← e2]
    exact z_zret hc hB hr rfl dX9_readNode_66
  have b39 : ∀ (h : z_T) (H : Heap) (locs : List Loc) (ls : Array Slot), z_B G ad n0 s h H locs → lv_has ls 8 [(0, .ref (ad o0)), (1, .ref (ad o1)), (3, .int x3)] → ∀ w, fX9_readNode_b39 rc o0 o1 x3 h = some w → w = (r0, h9) → W p l e (rm_X9_readNode (d + 1)) s m args below meth c H locs 0 0 (MQ below (z_Qi G ad h9 n0 s.heap.size r0) args s 0 0 (z_A ad n0 s.heap.size)) (F0 m 39 ls []) := by
    intro h H locs ls hB hl w hv kb
    refine lv_aload_n hx hb dX9_readNode_39 rfl (lv_at hl 0 rfl) ?_
    obtain ⟨g15, hv⟩ := y_gd_e hv
    obtain ⟨ob16, eob16, hv⟩ := y_bi_e hv
    refine z_getR hc hB 9 0 g15 eob16 (by decide) (by decide) rfl (z_l1 hc qfX9_11) dX9_readNode_40 ?_
    refine lv_iload_n hx hb dX9_readNode_43 rfl (lv_at hl 2 rfl) ?_
    refine lv_aload_n hx hb dX9_readNode_44 rfl (lv_at hl 1 rfl) ?_
    refine z_gets hc hB (hc.2.1.2.2.2.1.1 12 (by decide)) qfX9_29 dX9_readNode_45 ?_
    obtain ⟨g22, hv⟩ := y_gd_e hv
    obtain ⟨r18, c17, hv⟩ := y_bi_e hv
    refine z_thI hc hB (z_runV hc hB 6 (mm_X6_isAt hSK l ad o1 12 h c17) md_X6_isAt qmX9_35 g22 (by decide) rfl rfl rfl ⟨by simp only [rm_X9_readNode, rm_X6_isAt]; omega, by simp only [rm_X9_readNode, rm_X6_isAt]; omega⟩ rfl hl.1 rfl (Nat.le_of_ble_eq_true rfl) dX9_readNode_48 ⟨Nat.le_of_ble_eq_true rfl, Nat.le_of_ble_eq_true rfl⟩) (fun H locs hB => ?_)
    refine lv_if_eq (tgt := 58) hx hb dX9_readNode_51 (by decide) (fun c23 => ?_) (fun c23 => ?_)
    · replace hv := y_br_t hv c23
      refine lv_bipush (v := (-2 : Int32)) hx hb dX9_readNode_58 (by decide) ?_
      exact b60 ob16 x3 (-2 : Int32) h _ _ _ hB (lv_sub hl [1] rfl) _ hv kb
    · replace hv := y_br_f hv c23
      refine lv_iconst (v := (-1 : Int32)) hx hb dX9_readNode_54 (by decide) ?_
      refine lv_goto (tgt := 60) hx hb dX9_readNode_55 (by decide) ?_
      exact b60 ob16 x3 (-1 : Int32) h _ _ _ hB (lv_sub hl [1] rfl) _ hv kb
  have b210 : ∀ (h : z_T) (H : Heap) (locs : List Loc) (ls : Array Slot), z_B G ad n0 s h H locs → lv_has ls 8 [] → ∀ w, fX9_readNode_b210 rc h = some w → w = (r0, h9) → W p l e (rm_X9_readNode (d + 1)) s m args below meth c H locs 0 0 (MQ below (z_Qi G ad h9 n0 s.heap.size r0) args s 0 0 (z_A ad n0 s.heap.size)) (F0 m 210 ls []) := by
    intro h H locs ls hB hl w hv kb
    refine lv_iconst (v := (0 : Int32)) hx hb dX9_readNode_210 (by decide) ?_
    replace hv := Option.some.inj hv
    subst hv
    obtain ⟨e1, e2⟩ := y_pr kb
    rw [← e1, ← e2]
    exact z_zret hc hB hr rfl dX9_readNode_211
  rw [← kt] at hv
  refine lv_iload_n hx hb dX9_readNode_0 rfl (lv_at hl 3 rfl) ?_
  refine lv_if_lt (tgt := 13) hx hb dX9_readNode_1 (by decide) (fun c24 => ?_) (fun c24 => ?_)
  · replace hv := y_br_t hv c24
    exact b13 h _ _ _ hB (lv_sub hl [1] rfl) _ hv kt
  · replace hv := y_br_f hv c24
    refine lv_iload_n hx hb dX9_readNode_4 rfl (lv_at hl 3 rfl) ?_
    refine lv_aload_n hx hb dX9_readNode_5 rfl (lv_at hl 0 rfl) ?_
    obtain ⟨g25, hv⟩ := y_gd_e hv
    obtain ⟨ob26, eob26, hv⟩ := y_bi_e hv
    refine z_getR hc hB 9 0 g25 eob26 (by decide) (by decide) rfl (z_l1 hc qfX9_11) dX9_readNode_6 ?_
    obtain ⟨g27, hv⟩ := y_gd_e hv
    refine z_alen hc hB 13 (by decide) (by decide) g27 dX9_readNode_9 ?_
    refine lv_icmp_lt (tgt := 19) hx hb dX9_readNode_10 (by decide) (fun c28 => ?_) (fun c28 => ?_)
    · replace hv := y_br_t hv c28
      refine lv_aload_n hx hb dX9_readNode_19 rfl (lv_at hl 1 rfl) ?_
      refine z_gets hc hB (hc.2.1.2.2.2.1.1 12 (by decide)) qfX9_29 dX9_readNode_20 ?_
      obtain ⟨g34, hv⟩ := y_gd_e hv
      obtain ⟨r30, c29, hv⟩ := y_bi_e hv
      refine z_thI hc hB (z_runV hc hB 6 (mm_X6_isAt hSK l ad o1 12 h c29) md_X6_isAt qmX9_35 g34 (by decide) rfl rfl rfl ⟨by simp only [rm_X9_readNode, rm_X6_isAt]; omega, by simp only [rm_X9_readNode, rm_X6_isAt]; omega⟩ rfl hl.1 rfl (Nat.le_of_ble_eq_true rfl) dX9_readNode_23 ⟨Nat.le_of_ble_eq_true rfl, Nat.le_of_ble_eq_true rfl⟩) (fun H locs hB => ?_)
      refine lv_if_ne (tgt := 39) hx hb dX9_readNode_26 (by decide) (fun c35 => ?_) (fun c35 => ?_)
      · replace hv := y_br_f hv c35
        exact b39 h _ _ _ hB (lv_sub hl [0, 1, 3] rfl) _ hv kt
      · replace hv := y_br_t hv c35
        refine lv_aload_n hx hb dX9_readNode_29 rfl (lv_at hl 1 rfl) ?_
        refine z_gets hc hB (hc.2.1.2.2.2.1.1 13 (by decide)) qfX9_39 dX9_readNode_30 ?_
        obtain ⟨r37, c36, hv⟩ := y_bi_e hv
        refine z_thI hc hB (z_runV hc hB 6 (mm_X6_isAt hSK l ad o1 13 h c36) md_X6_isAt qmX9_35 g34 (by decide) rfl rfl rfl ⟨by simp only [rm_X9_readNode, rm_X6_isAt]; omega, by simp only [rm_X9_readNode, rm_X6_isAt]; omega⟩ rfl hl.1 rfl (Nat.le_of_ble_eq_true rfl) dX9_readNode_33 ⟨Nat.le_of_ble_eq_true rfl, Nat.le_of_ble_eq_true rfl⟩) (fun H locs hB => ?_)
        refine lv_if_eq (tgt := 67) hx hb dX9_readNode_36 (by decide) (fun c41 => ?_) (fun c41 => ?_)
        · replace hv := y_br_t hv c41
          refine lv_aload_n hx hb dX9_readNode_67 rfl (lv_at hl 1 rfl) ?_
          refine lv_aload_n hx hb dX9_readNode_68 rfl (lv_at hl 2 rfl) ?_
          obtain ⟨⟨r43, h47⟩, c42, hv⟩ := y_bi_e hv
          refine z_thI hc hB (z_runV hc hB 6 (mm_X6_testHere hSK l ad o1 o2 h c42) md_X6_testHere qmX9_45 g34 (by decide) rfl rfl rfl ⟨by simp only [rm_X9_readNode, rm_X6_testHere]; omega, by simp only [rm_X9_readNode, rm_X6_testHere]; omega⟩ rfl hl.1 rfl (Nat.le_of_ble_eq_true rfl) dX9_readNode_69 ⟨Nat.le_of_ble_eq_true rfl, Nat.le_of_ble_eq_true rfl⟩) (fun H locs hB => ?_)
          refine lv_istore (lv' := [(6, .int r43), (0, .ref (ad o0)), (1, .ref (ad o1)), (2, .ref (ad o2)), (3, .int x3), (4, .int x4), (5, .int x5)]) hx hb dX9_readNode_72 hl (by decide) rfl (fun ls hl => ?_)
          refine lv_iload hx hb dX9_readNode_74 (lv_at hl 0 rfl) ?_
          refine lv_iconst (v := (-1 : Int32)) hx hb dX9_readNode_76 (by decide) ?_
          refine lv_icmp_ne (tgt := 82) hx hb dX9_readNode_77 (by decide) (fun c48 => ?_) (fun c48 => ?_)
          · replace hv := y_br_f hv c48
            refine lv_iload hx hb dX9_readNode_82 (lv_at hl 5 rfl) ?_
            refine lv_iconst (v := (1 : Int32)) hx hb dX9_readNode_84 (by decide) ?_
            refine lv_iload hx hb dX9_readNode_85 (lv_at hl 0 rfl) ?_
            refine lv_ishl hx hb dX9_readNode_87 ?_
            refine lv_iand hx hb dX9_readNode_88 ?_
            refine lv_if_eq (tgt := 98) hx hb dX9_readNode_89 (by decide) (fun c49 => ?_) (fun c49 => ?_)
            · replace hv := y_br_t hv c49
              refine lv_iload hx hb dX9_readNode_98 (lv_at hl 6 rfl) ?_
              refine lv_iconst (v := (4 : Int32)) hx hb dX9_readNode_100 (by decide) ?_
              refine lv_icmp_lt (tgt := 110) hx hb dX9_readNode_101 (by decide) (fun c50 => ?_) (fun c50 => ?_)
              · replace hv := y_br_t hv c50
                refine lv_aload_n hx hb dX9_readNode_110 rfl (lv_at hl 1 rfl) ?_
                obtain ⟨g51, hv⟩ := y_gd_e hv
                obtain ⟨ob52, eob52, hv⟩ := y_bi_e hv
                refine z_getR hc hB 9 0 g51 eob52 (by decide) (by decide) rfl (z_l1 hc qfX9_11) dX9_readNode_111 ?_
                refine lv_iload_n hx hb dX9_readNode_114 rfl (lv_at hl 4 rfl) ?_
                refine lv_iload hx hb dX9_readNode_115 (lv_at hl 0 rfl) ?_
                obtain ⟨g53, hv⟩ := y_gd_e hv
                obtain ⟨i54, hv⟩ := y_gd_e hv
                obtain ⟨h55, eh55, hv⟩ := y_nm_e hv
                refine y_iast hc hB eh55 g53 i54 dX9_readNode_117 (fun H locs hB => ?_)
                refine lv_aload_n hx hb dX9_readNode_118 rfl (lv_at hl 1 rfl) ?_
                refine lv_dup hx hb dX9_readNode_119 rfl ?_
                refine z_getI hc hB 9 1 (by rw [eh55]; exact g51) (by decide) (by decide) rfl (z_l1 hc qfX9_49) dX9_readNode_120 ?_
                refine lv_iconst (v := (1 : Int32)) hx hb dX9_readNode_123 (by decide) ?_
                refine lv_iadd hx hb dX9_readNode_124 ?_
                obtain ⟨h56, eh56, hv⟩ := y_nm_e hv
                refine y_putI hc hB 9 1 eh56 (by rw [eh55]; exact g51) (z_l1 hc qfX9_49) dX9_readNode_125 (by decide) (by decide) rfl rfl rfl rfl (fun H locs hB => ?_)
                refine lv_aload_n hx hb dX9_readNode_128 rfl (lv_at hl 2 rfl) ?_
                obtain ⟨g59, hv⟩ := y_gd_e hv
                obtain ⟨h58, c57, hv⟩ := y_bi_e hv
                refine z_thV hc hB (z_runV hc hB 6 (mm_X6_advance hSK l ad o1 h56 c57) md_X6_advance qmX9_42 g59 (by decide) rfl rfl rfl ⟨by simp only [rm_X9_readNode, rm_X6_advance]; omega, by simp only [rm_X9_readNode, rm_X6_advance]; omega⟩ rfl hl.1 rfl (Nat.le_of_ble_eq_true rfl) dX9_readNode_129 ⟨Nat.le_of_ble_eq_true rfl, Nat.le_of_ble_eq_true rfl⟩) (fun H locs hB => ?_)
                refine lv_iload hx hb dX9_readNode_132 (lv_at hl 5 rfl) ?_
                refine lv_iconst (v := (1 : Int32)) hx hb dX9_readNode_134 (by decide) ?_
                refine lv_iload hx hb dX9_readNode_135 (lv_at hl 0 rfl) ?_
                refine lv_ishl hx hb dX9_readNode_137 ?_
                refine lv_ior hx hb dX9_readNode_138 ?_
                obtain ⟨v60, ev60, hv⟩ := y_nm_e hv
                rw [← ev60]
                refine lv_istore (lv' := [(7, .int v60), (6, .int r43), (0, .ref (ad o0)), (1, .ref (ad o1)), (2, .ref (ad o2)), (3, .int x3), (4, .int x4), (5, .int x5)]) hx hb dX9_readNode_139 hl (by decide) rfl (fun ls hl => ?_)
                refine lv_aload_n hx hb dX9_readNode_141 rfl (lv_at hl 3 rfl) ?_
                refine lv_bipush (v := (40 : Int32)) hx hb dX9_readNode_142 (by decide) ?_
                obtain ⟨g67, hv⟩ := y_gd_e hv
                obtain ⟨⟨r62, h66⟩, c61, hv⟩ := y_bi_e hv
                refine z_thI hc hB (z_runV hc hB 6 (mm_X6_take hSK l ad o1 (40 : Int32) h58 c61) md_X6_take qmX9_53 g67 (by decide) rfl rfl rfl ⟨by simp only [rm_X9_readNode, rm_X6_take]; omega, by simp only [rm_X9_readNode, rm_X6_take]; omega⟩ rfl hl.1 rfl (Nat.le_of_ble_eq_true rfl) dX9_readNode_144 ⟨Nat.le_of_ble_eq_true rfl, Nat.le_of_ble_eq_true rfl⟩) (fun H locs hB => ?_)
                refine lv_if_eq (tgt := 210) hx hb dX9_readNode_147 (by decide) (fun c68 => ?_) (fun c68 => ?_)
                · replace hv := y_br_t hv c68
                  exact b210 h66 _ _ _ hB (lv_sub hl [] rfl) _ hv kt
                · replace hv := y_br_f hv c68
                  refine lv_aload_n hx hb dX9_readNode_150 rfl (lv_at hl 2 rfl) ?_
                  refine lv_aload_n hx hb dX9_readNode_151 rfl (lv_at hl 3 rfl) ?_
                  refine lv_aload_n hx hb dX9_readNode_152 rfl (lv_at hl 4 rfl) ?_
                  refine lv_iconst (v := (2 : Int32)) hx hb dX9_readNode_153 (by decide) ?_
                  refine lv_iload_n hx hb dX9_readNode_154 rfl (lv_at hl 5 rfl) ?_
                  refine lv_imul hx hb dX9_readNode_155 ?_
                  refine lv_iload hx hb dX9_readNode_156 (lv_at hl 0 rfl) ?_
                  refine lv_iload hx hb dX9_readNode_158 (lv_at hl 7 rfl) ?_
                  refine lv_iconst (v := (1 : Int32)) hx hb dX9_readNode_160 (by decide) ?_
                  refine lv_iadd hx hb dX9_readNode_161 ?_
                  obtain ⟨g75, hv⟩ := y_gd_e hv
                  obtain ⟨⟨r70, h74⟩, c69, hv⟩ := y_bi_e hv
                  refine z_thI hc hB (z_runV hc hB 9 (hrc o0 o1 o2 ((2 : Int32) * x3) v60 (x5 + (1 : Int32)) h66 c69) md_X9_readNode qmX9_15 g75 (by decide) rfl rfl rfl ⟨by simp only [rm_X9_readNode, rm_X9_readNode]; omega, by simp only [rm_X9_readNode, rm_X9_readNode]; omega⟩ rfl hl.1 rfl (Nat.le_of_ble_eq_true rfl) dX9_readNode_162 ⟨Nat.le_of_ble_eq_true rfl, Nat.le_of_ble_eq_true rfl⟩) (fun H locs hB => ?_)
                  refine lv_if_eq (tgt := 210) hx hb dX9_readNode_165 (by decide) (fun c76 => ?_) (fun c76 => ?_)
                  · replace hv := y_br_t hv c76
                    exact b210 h74 _ _ _ hB (lv_sub hl [] rfl) _ hv kt
                  · replace hv := y_br_f hv c76
                    refine lv_aload_n hx hb dX9_readNode_168 rfl (lv_at hl 3 rfl) ?_
                    refine lv_bipush (v := (59 : Int32)) hx hb dX9_readNode_169 (by decide) ?_
                    obtain ⟨g83, hv⟩ := y_gd_e hv
                    obtain ⟨⟨r78, h82⟩, c77, hv⟩ := y_bi_e hv
                    refine z_thI hc hB (z_runV hc hB 6 (mm_X6_take hSK l ad o1 (59 : Int32) h74 c77) md_X6_take qmX9_53 g83 (by decide) rfl rfl rfl ⟨by simp only [rm_X9_readNode, rm_X6_take]; omega, by simp only [rm_X9_readNode, rm_X6_take]; omega⟩ rfl hl.1 rfl (Nat.le_of_ble_eq_true rfl) dX9_readNode_171 ⟨Nat.le_of_ble_eq_true rfl, Nat.le_of_ble_eq_true rfl⟩) (fun H locs hB => ?_)
                    refine lv_if_eq (tgt := 210) hx hb dX9_readNode_174 (by decide) (fun c84 => ?_) (fun c84 => ?_)
                    · replace hv := y_br_t hv c84
                      exact b210 h82 _ _ _ hB (lv_sub hl [] rfl) _ hv kt
                    · replace hv := y_br_f hv c84
                      refine lv_aload_n hx hb dX9_readNode_177 rfl (lv_at hl 2 rfl) ?_
                      refine lv_aload_n hx hb dX9_readNode_178 rfl (lv_at hl 3 rfl) ?_
                      refine lv_aload_n hx hb dX9_readNode_179 rfl (lv_at hl 4 rfl) ?_
                      refine lv_iconst (v := (2 : Int32)) hx hb dX9_readNode_180 (by decide) ?_
                      refine lv_iload_n hx hb dX9_readNode_181 rfl (lv_at hl 5 rfl) ?_
                      refine lv_imul hx hb dX9_readNode_182 ?_
                      refine lv_iconst (v := (1 : Int32)) hx hb dX9_readNode_183 (by decide) ?_
                      refine lv_iadd hx hb dX9_readNode_184 ?_
                      refine lv_iload hx hb dX9_readNode_185 (lv_at hl 0 rfl) ?_
                      refine lv_iload hx hb dX9_readNode_187 (lv_at hl 7 rfl) ?_
                      refine lv_iconst (v := (1 : Int32)) hx hb dX9_readNode_189 (by decide) ?_
                      refine lv_iadd hx hb dX9_readNode_190 ?_
                      obtain ⟨g91, hv⟩ := y_gd_e hv
                      obtain ⟨⟨r86, h90⟩, c85, hv⟩ := y_bi_e hv
                      refine z_thI hc hB (z_runV hc hB 9 (hrc o0 o1 o2 (((2 : Int32) * x3) + (1 : Int32)) v60 (x5 + (1 : Int32)) h82 c85) md_X9_readNode qmX9_15 g91 (by decide) rfl rfl rfl ⟨by simp only [rm_X9_readNode, rm_X9_readNode]; omega, by simp only [rm_X9_readNode, rm_X9_readNode]; omega⟩ rfl hl.1 rfl (Nat.le_of_ble_eq_true rfl) dX9_readNode_191 ⟨Nat.le_of_ble_eq_true rfl, Nat.le_of_ble_eq_true rfl⟩) (fun H locs hB => ?_)
                      refine lv_if_eq (tgt := 210) hx hb dX9_readNode_194 (by decide) (fun c92 => ?_) (fun c92 => ?_)
                      · replace hv := y_br_t hv c92
                        exact b210 h90 _ _ _ hB (lv_sub hl [] rfl) _ hv kt
                      · replace hv := y_br_f hv c92
                        refine lv_aload_n hx hb dX9_readNode_197 rfl (lv_at hl 3 rfl) ?_
                        refine lv_bipush (v := (41 : Int32)) hx hb dX9_readNode_198 (by decide) ?_
                        obtain ⟨g99, hv⟩ := y_gd_e hv
                        obtain ⟨⟨r94, h98⟩, c93, hv⟩ := y_bi_e hv
                        refine z_thI hc hB (z_runV hc hB 6 (mm_X6_take hSK l ad o1 (41 : Int32) h90 c93) md_X6_take qmX9_53 g99 (by decide) rfl rfl rfl ⟨by simp only [rm_X9_readNode, rm_X6_take]; omega, by simp only [rm_X9_readNode, rm_X6_take]; omega⟩ rfl hl.1 rfl (Nat.le_of_ble_eq_true rfl) dX9_readNode_200 ⟨Nat.le_of_ble_eq_true rfl, Nat.le_of_ble_eq_true rfl⟩) (fun H locs hB => ?_)
                        refine lv_if_eq (tgt := 210) hx hb dX9_readNode_203 (by decide) (fun c100 => ?_) (fun c100 => ?_)
                        · replace hv := y_br_t hv c100
                          exact b210 h98 _ _ _ hB (lv_sub hl [] rfl) _ hv kt
                        · replace hv := y_br_f hv c100
                          refine lv_iconst (v := (1 : Int32)) hx hb dX9_readNode_206 (by decide) ?_
                          refine lv_goto (tgt := 211) hx hb dX9_readNode_207 (by decide) ?_
                          replace hv := Option.some.inj hv
                          subst hv
                          obtain ⟨e1, e2⟩ := y_pr kt
                          rw [← e1, ← e2]
                          exact z_zret hc hB hr rfl dX9_readNode_211
              · replace hv := y_br_f hv c50
                refine lv_aload_n hx hb dX9_readNode_104 rfl (lv_at hl 2 rfl) ?_
                refine lv_iconst (v := (4 : Int32)) hx hb dX9_readNode_105 (by decide) ?_
                obtain ⟨g107, hv⟩ := y_gd_e hv
                obtain ⟨⟨r102, h106⟩, c101, hv⟩ := y_bi_e hv
                refine z_thI hc hB (z_runV hc hB 6 (mm_X6_fail hSK l ad o1 (4 : Int32) h47 c101) md_X6_fail qmX9_25 g107 (by decide) rfl rfl rfl ⟨by simp only [rm_X9_readNode, rm_X6_fail]; omega, by simp only [rm_X9_readNode, rm_X6_fail]; omega⟩ rfl hl.1 rfl (Nat.le_of_ble_eq_true rfl) dX9_readNode_106 ⟨Nat.le_of_ble_eq_true rfl, Nat.le_of_ble_eq_true rfl⟩) (fun H locs hB => ?_)
                obtain ⟨y108, hv⟩ := y_gd_e hv
                replace hv := Option.some.inj hv
                subst hv
                obtain ⟨e1, e2⟩ := y_pr kt
                rw [← e1, ← e2]
                exact z_zret hc hB hr (y_b_n y108) dX9_readNode_109
            · replace hv := y_br_f hv c49
              refine lv_aload_n hx hb dX9_readNode_92 rfl (lv_at hl 2 rfl) ?_
              refine lv_iconst (v := (3 : Int32)) hx hb dX9_readNode_93 (by decide) ?_
              obtain ⟨g115, hv⟩ := y_gd_e hv
              obtain ⟨⟨r110, h114⟩, c109, hv⟩ := y_bi_e hv
              refine z_thI hc hB (z_runV hc hB 6 (mm_X6_fail hSK l ad o1 (3 : Int32) h47 c109) md_X6_fail qmX9_25 g115 (by decide) rfl rfl rfl ⟨by simp only [rm_X9_readNode, rm_X6_fail]; omega, by simp only [rm_X9_readNode, rm_X6_fail]; omega⟩ rfl hl.1 rfl (Nat.le_of_ble_eq_true rfl) dX9_readNode_94 ⟨Nat.le_of_ble_eq_true rfl, Nat.le_of_ble_eq_true rfl⟩) (fun H locs hB => ?_)
              obtain ⟨y116, hv⟩ := y_gd_e hv
              replace hv := Option.some.inj hv
              subst hv
              obtain ⟨e1, e2⟩ := y_pr kt
              rw [← e1, ← e2]
              exact z_zret hc hB hr (y_b_n y116) dX9_readNode_97
          · replace hv := y_br_t hv c48
            refine lv_iconst (v := (0 : Int32)) hx hb dX9_readNode_80 (by decide) ?_
            replace hv := Option.some.inj hv
            subst hv
            obtain ⟨e1, e2⟩ := y_pr kt
            rw [← e1, ← e2]
            exact z_zret hc hB hr rfl dX9_readNode_81
        · replace hv := y_br_f hv c41
          exact b39 h _ _ _ hB (lv_sub hl [0, 1, 3] rfl) _ hv kt
    · replace hv := y_br_f hv c28
      exact b13 h _ _ _ hB (lv_sub hl [1] rfl) _ hv kt
noncomputable def fX9_readNode : Nat → Nat → Nat → Nat → Int32 → Int32 → Int32 → z_T → Option (Int32 × z_T)
  | 0, _, _, _, _, _, _, _ => none
  | d + 1, o0, o1, o2, x3, x4, x5, h => fX9_readNode_s (fX9_readNode d) o0 o1 o2 x3 x4 x5 h
theorem mm_X9_readNode {G : z_Gt} (hSK : z_SK (z_S G)) (l : Launch) (ad : Nat → Nat) : ∀ (d : Nat) (o0 : Nat) (o1 : Nat) (o2 : Nat) (x3 : Int32) (x4 : Int32) (x5 : Int32) (h : z_T) {r0 : Int32} {h9 : z_T}, fX9_readNode d o0 o1 o2 x3 x4 x5 h = some (r0, h9) → z_Mi G (z_S G) l yX9_readNode cX9_readNode 8 (.boolean) (rm_X9_readNode d) 0 0 [.ref (ad o0), .ref (ad o1), .ref (ad o2), .int x3, .int x4, .int x5] ad h h9 r0
  | 0, o0, o1, o2, x3, x4, x5, h, _, _, hv => by cases hv
  | d + 1, o0, o1, o2, x3, x4, x5, h, _, _, hv => mh_X9_readNode hSK l ad d (fX9_readNode d) (fun o0 o1 o2 x3 x4 x5 h => fun hv => mm_X9_readNode hSK l ad d o0 o1 o2 x3 x4 x5 h hv) o0 o1 o2 x3 x4 x5 h hv
theorem qmX9_19 : Cond.methodLink RX9 19 yX6_takeEnd ∈ z_ws := List.mem_filter.mpr ⟨List.mem_append_right _ (List.mem_of_getElem? (i := 811) (by decide +kernel)), rfl⟩
theorem dX9_readWhole_0 : decode cX9_readWhole 0 = .ok (.aload_n 0, 1) := by decide +kernel
theorem dX9_readWhole_1 : decode cX9_readWhole 1 = .ok (.aload_n 1, 1) := by decide +kernel
theorem dX9_readWhole_2 : decode cX9_readWhole 2 = .ok (.aload_n 2, 1) := by decide +kernel
theorem dX9_readWhole_3 : decode cX9_readWhole 3 = .ok (.iconst 1, 1) := by decide +kernel
theorem dX9_readWhole_4 : decode cX9_readWhole 4 = .ok (.iconst 0, 1) := by decide +kernel
theorem dX9_readWhole_5 : decode cX9_readWhole 5 = .ok (.iconst 0, 1) := by decide +kernel
theorem dX9_readWhole_6 : decode cX9_readWhole 6 = .ok (.invokevirtual 15, 3) := by decide +kernel
theorem dX9_readWhole_9 : decode cX9_readWhole 9 = .ok (.ifCond .eq 14, 3) := by decide +kernel
theorem dX9_readWhole_12 : decode cX9_readWhole 12 = .ok (.aload_n 1, 1) := by decide +kernel
theorem dX9_readWhole_13 : decode cX9_readWhole 13 = .ok (.invokevirtual 19, 3) := by decide +kernel
theorem dX9_readWhole_16 : decode cX9_readWhole 16 = .ok (.ifCond .eq 7, 3) := by decide +kernel
theorem dX9_readWhole_19 : decode cX9_readWhole 19 = .ok (.iconst 1, 1) := by decide +kernel
theorem dX9_readWhole_20 : decode cX9_readWhole 20 = .ok (.goto 4, 3) := by decide +kernel
theorem dX9_readWhole_23 : decode cX9_readWhole 23 = .ok (.iconst 0, 1) := by decide +kernel
theorem dX9_readWhole_24 : decode cX9_readWhole 24 = .ok (.ireturn, 1) := by decide +kernel
abbrev rm_X9_readWhole : Room := { frames := 12, cells := 0, slots := 0, locals := 306 }
noncomputable def fX9_readWhole_b23  (h : z_T) : Option (Int32 × z_T) :=
  some ((0 : Int32), h)
noncomputable def fX9_readWhole (o0 : Nat) (o1 : Nat) (o2 : Nat) (h : z_T) : Option (Int32 × z_T) :=
  y_gd (z_ok h o0 9) <|
  y_bi (fX9_readNode 6 o0 o1 o2 (1 : Int32) (0 : Int32) (0 : Int32) h) fun ⟨r2, h6⟩ =>
  y_br (r2 = 0)
    (fX9_readWhole_b23 h6)
    (y_gd (z_ok h6 o1 6) <|
    y_bi (fX6_takeEnd o1 h6) fun ⟨r10, h14⟩ =>
    y_br (r10 = 0)
      (fX9_readWhole_b23 h14)
      (some ((1 : Int32), h14)))
set_option maxHeartbeats 4000000 in
set_option maxRecDepth 100000 in
theorem mm_X9_readWhole {G : z_Gt} (hSK : z_SK (z_S G)) (l : Launch) (ad : Nat → Nat) (o0 : Nat) (o1 : Nat) (o2 : Nat) (h : z_T) {r0 : Int32} {h9 : z_T} (hv : fX9_readWhole o0 o1 o2 h = some (r0, h9)) : z_Mi G (z_S G) l yX9_readWhole cX9_readWhole 3 (.boolean) rm_X9_readWhole 0 0 [.ref (ad o0), .ref (ad o1), .ref (ad o2)] ad h h9 r0 := by
  refine z_ofW hSK (by decide) (Nat.le_of_ble_eq_true rfl) ?_
  intro p e s m args below meth c ls hc hr hnm hB hl
  have hx := hc.1.1
  have hb := hc.1.2.1
  have hown := hc.1.2.2.2.1
  have hts := hc.1.2.2.2.2
  replace hc : z_C G (z_S G) ad (z_n h) p m c cX9_readWhole 3 s args RX9 meth := hc
  replace hown : s.vm.findClass RX9 = some m.cls := hown
  replace hl : lv_has ls 3 [(0, .ref (ad o0)), (1, .ref (ad o1)), (2, .ref (ad o2))] := hl
  show W p l e rm_X9_readWhole s m args below meth c s.heap [] 0 0 (MQ below (z_Qi G ad h9 (z_n h) s.heap.size r0) args s 0 0 (z_A ad (z_n h) s.heap.size)) (F0 m 0 ls [])
  obtain ⟨rs, kt⟩ : ∃ rs : Int32 × z_T, rs = (r0, h9) := ⟨_, rfl⟩
  generalize hn0 : z_n h = n0 at hc hB ⊢
  have b23 : ∀ (h : z_T) (H : Heap) (locs : List Loc) (ls : Array Slot), z_B G ad n0 s h H locs → lv_has ls 3 [] → ∀ w, fX9_readWhole_b23 h = some w → w = (r0, h9) → W p l e rm_X9_readWhole s m args below meth c H locs 0 0 (MQ below (z_Qi G ad h9 n0 s.heap.size r0) args s 0 0 (z_A ad n0 s.heap.size)) (F0 m 23 ls []) := by
    intro h H locs ls hB hl w hv kb
    refine lv_iconst (v := (0 : Int32)) hx hb dX9_readWhole_23 (by decide) ?_
    replace hv := Option.some.inj hv
    subst hv
    obtain ⟨e1, e2⟩ := y_pr kb
    rw [← e1, ← e2]
    exact z_zret hc hB hr rfl dX9_readWhole_24
  rw [← kt] at hv
  refine lv_aload_n hx hb dX9_readWhole_0 rfl (lv_at hl 0 rfl) ?_
  refine lv_aload_n hx hb dX9_readWhole_1 rfl (lv_at hl 1 rfl) ?_
  refine lv_aload_n hx hb dX9_readWhole_2 rfl (lv_at hl 2 rfl) ?_
  refine lv_iconst (v := (1 : Int32)) hx hb dX9_readWhole_3 (by decide) ?_
  refine lv_iconst (v := (0 : Int32)) hx hb dX9_readWhole_4 (by decide) ?_
  refine lv_iconst (v := (0 : Int32)) hx hb dX9_readWhole_5 (by decide) ?_
  obtain ⟨g7, hv⟩ := y_gd_e hv
  obtain ⟨⟨r2, h6⟩, c1, hv⟩ := y_bi_e hv
  refine z_thI hc hB (z_runV hc hB 9 (mm_X9_readNode hSK l ad 6 o0 o1 o2 (1 : Int32) (0 : Int32) (0 : Int32) h c1) md_X9_readNode qmX9_15 g7 (by decide) rfl rfl rfl ⟨Nat.le_of_ble_eq_true rfl, Nat.le_of_ble_eq_true rfl⟩ rfl hl.1 rfl (Nat.le_of_ble_eq_true rfl) dX9_readWhole_6 ⟨Nat.le_of_ble_eq_true rfl, Nat.le_of_ble_eq_true rfl⟩) (fun H locs hB => ?_)
  refine lv_if_eq (tgt := 23) hx hb dX9_readWhole_9 (by decide) (fun c8 => ?_) (fun c8 => ?_)
  · replace hv := y_br_t hv c8
    exact b23 h6 _ _ _ hB (lv_sub hl [] rfl) _ hv kt
  · replace hv := y_br_f hv c8
    refine lv_aload_n hx hb dX9_readWhole_12 rfl (lv_at hl 1 rfl) ?_
    obtain ⟨g15, hv⟩ := y_gd_e hv
    obtain ⟨⟨r10, h14⟩, c9, hv⟩ := y_bi_e hv
    refine z_thI hc hB (z_runV hc hB 6 (mm_X6_takeEnd hSK l ad o1 h6 c9) md_X6_takeEnd qmX9_19 g15 (by decide) rfl rfl rfl ⟨Nat.le_of_ble_eq_true rfl, Nat.le_of_ble_eq_true rfl⟩ rfl hl.1 rfl (Nat.le_of_ble_eq_true rfl) dX9_readWhole_13 ⟨Nat.le_of_ble_eq_true rfl, Nat.le_of_ble_eq_true rfl⟩) (fun H locs hB => ?_)
    refine lv_if_eq (tgt := 23) hx hb dX9_readWhole_16 (by decide) (fun c16 => ?_) (fun c16 => ?_)
    · replace hv := y_br_t hv c16
      exact b23 h14 _ _ _ hB (lv_sub hl [] rfl) _ hv kt
    · replace hv := y_br_f hv c16
      refine lv_iconst (v := (1 : Int32)) hx hb dX9_readWhole_19 (by decide) ?_
      refine lv_goto (tgt := 24) hx hb dX9_readWhole_20 (by decide) ?_
      replace hv := Option.some.inj hv
      subst hv
      obtain ⟨e1, e2⟩ := y_pr kt
      rw [← e1, ← e2]
      exact z_zret hc hB hr rfl dX9_readWhole_24
theorem dX9_nodeAt_0 : decode cX9_nodeAt 0 = .ok (.iload_n 1, 1) := by decide +kernel
theorem dX9_nodeAt_1 : decode cX9_nodeAt 1 = .ok (.ifCond .lt 21, 3) := by decide +kernel
theorem dX9_nodeAt_4 : decode cX9_nodeAt 4 = .ok (.iload_n 1, 1) := by decide +kernel
theorem dX9_nodeAt_5 : decode cX9_nodeAt 5 = .ok (.aload_n 0, 1) := by decide +kernel
theorem dX9_nodeAt_6 : decode cX9_nodeAt 6 = .ok (.getfield 11, 3) := by decide +kernel
theorem dX9_nodeAt_9 : decode cX9_nodeAt 9 = .ok (.arraylength, 1) := by decide +kernel
theorem dX9_nodeAt_10 : decode cX9_nodeAt 10 = .ok (.if_icmp .ge 12, 3) := by decide +kernel
theorem dX9_nodeAt_13 : decode cX9_nodeAt 13 = .ok (.aload_n 0, 1) := by decide +kernel
theorem dX9_nodeAt_14 : decode cX9_nodeAt 14 = .ok (.getfield 11, 3) := by decide +kernel
theorem dX9_nodeAt_17 : decode cX9_nodeAt 17 = .ok (.iload_n 1, 1) := by decide +kernel
theorem dX9_nodeAt_18 : decode cX9_nodeAt 18 = .ok (.iaload, 1) := by decide +kernel
theorem dX9_nodeAt_19 : decode cX9_nodeAt 19 = .ok (.goto 4, 3) := by decide +kernel
theorem dX9_nodeAt_22 : decode cX9_nodeAt 22 = .ok (.iconst (-1), 1) := by decide +kernel
theorem dX9_nodeAt_23 : decode cX9_nodeAt 23 = .ok (.ireturn, 1) := by decide +kernel
abbrev rm_X9_nodeAt : Room := { frames := 0, cells := 0, slots := 0, locals := 0 }
noncomputable def fX9_nodeAt_b22  (h : z_T) : Option (Int32) :=
  some (-1 : Int32)
noncomputable def fX9_nodeAt (o0 : Nat) (x1 : Int32) (h : z_T) : Option (Int32) :=
  y_br (x1 < 0)
    (fX9_nodeAt_b22 h)
    (y_gd (z_ok h o0 9) <|
    y_bi (z_R h o0 0) fun o3 =>
    y_gd (z_ok h o3 13) <|
    y_br ((nI (z_N h o3)) ≤ x1)
      (fX9_nodeAt_b22 h)
      (y_gd (z_ix x1 (z_N h o3)) <|
      some (z_I h o3 x1.toNatClampNeg)))
set_option maxHeartbeats 4000000 in
set_option maxRecDepth 100000 in
theorem mm_X9_nodeAt {G : z_Gt} (hSK : z_SK (z_S G)) (l : Launch) (ad : Nat → Nat) (o0 : Nat) (x1 : Int32) (h : z_T) {r0 : Int32} (hv : fX9_nodeAt o0 x1 h = some r0) : z_Mi G (z_S G) l yX9_nodeAt cX9_nodeAt 2 (.int) rm_X9_nodeAt 0 0 [.ref (ad o0), .int x1] ad h h r0 := by
  refine z_ofW hSK (by decide) (Nat.le_of_ble_eq_true rfl) ?_
  intro p e s m args below meth c ls hc hr hnm hB hl
  have hx := hc.1.1
  have hb := hc.1.2.1
  have hown := hc.1.2.2.2.1
  have hts := hc.1.2.2.2.2
  replace hc : z_C G (z_S G) ad (z_n h) p m c cX9_nodeAt 2 s args RX9 meth := hc
  replace hown : s.vm.findClass RX9 = some m.cls := hown
  replace hl : lv_has ls 2 [(0, .ref (ad o0)), (1, .int x1)] := hl
  show W p l e rm_X9_nodeAt s m args below meth c s.heap [] 0 0 (MQ below (z_Qi G ad h (z_n h) s.heap.size r0) args s 0 0 (z_A ad (z_n h) s.heap.size)) (F0 m 0 ls [])
  obtain ⟨rs, kt⟩ : ∃ rs : Int32, rs = r0 := ⟨_, rfl⟩
  generalize hn0 : z_n h = n0 at hc hB ⊢
  have b22 : ∀ (H : Heap) (locs : List Loc) (ls : Array Slot), z_B G ad n0 s h H locs → lv_has ls 2 [] → ∀ w, fX9_nodeAt_b22 h = some w → w = r0 → W p l e rm_X9_nodeAt s m args below meth c H locs 0 0 (MQ below (z_Qi G ad h n0 s.heap.size r0) args s 0 0 (z_A ad n0 s.heap.size)) (F0 m 22 ls []) := by
    intro H locs ls hB hl w hv kb
    refine lv_iconst (v := (-1 : Int32)) hx hb dX9_nodeAt_22 (by decide) ?_
    replace hv := Option.some.inj hv
    subst hv
    rw [← kb]
    exact z_iret hc hB hr dX9_nodeAt_23
  rw [← kt] at hv
  refine lv_iload_n hx hb dX9_nodeAt_0 rfl (lv_at hl 1 rfl) ?_
  refine lv_if_lt (tgt := 22) hx hb dX9_nodeAt_1 (by decide) (fun c1 => ?_) (fun c1 => ?_)
  · replace hv := y_br_t hv c1
    exact b22 _ _ _ hB (lv_sub hl [] rfl) _ hv kt
  · replace hv := y_br_f hv c1
    refine lv_iload_n hx hb dX9_nodeAt_4 rfl (lv_at hl 1 rfl) ?_
    refine lv_aload_n hx hb dX9_nodeAt_5 rfl (lv_at hl 0 rfl) ?_
    obtain ⟨g2, hv⟩ := y_gd_e hv
    obtain ⟨o3, eo3, hv⟩ := y_bi_e hv
    refine z_getR hc hB 9 0 g2 eo3 (by decide) (by decide) rfl (z_l1 hc qfX9_11) dX9_nodeAt_6 ?_
    obtain ⟨g4, hv⟩ := y_gd_e hv
    refine z_alen hc hB 13 (by decide) (by decide) g4 dX9_nodeAt_9 ?_
    refine lv_icmp_ge (tgt := 22) hx hb dX9_nodeAt_10 (by decide) (fun c5 => ?_) (fun c5 => ?_)
    · replace hv := y_br_t hv c5
      exact b22 _ _ _ hB (lv_sub hl [] rfl) _ hv kt
    · replace hv := y_br_f hv c5
      refine lv_aload_n hx hb dX9_nodeAt_13 rfl (lv_at hl 0 rfl) ?_
      refine z_getR hc hB 9 0 g2 eo3 (by decide) (by decide) rfl (z_l1 hc qfX9_11) dX9_nodeAt_14 ?_
      refine lv_iload_n hx hb dX9_nodeAt_17 rfl (lv_at hl 1 rfl) ?_
      obtain ⟨i6, hv⟩ := y_gd_e hv
      refine z_iald hc hB g4 i6 dX9_nodeAt_18 ?_
      refine lv_goto (tgt := 23) hx hb dX9_nodeAt_19 (by decide) ?_
      replace hv := Option.some.inj hv
      subst hv
      rw [← kt]
      exact z_iret hc hB hr dX9_nodeAt_23
