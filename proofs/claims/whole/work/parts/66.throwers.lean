/-! the methods that throw -/
theorem ql_throw : Cond.classLink RX11 173 z_nse ∈ z_ws := List.mem_filter.mpr ⟨List.mem_append_right _ (List.mem_of_getElem? (i := 1077) (by decide +kernel)), rfl⟩
theorem qn_throw : Cond.initialized z_nse ∈ z_ws := List.mem_filter.mpr ⟨List.mem_append_right _ (List.mem_of_getElem? (i := 18) (by decide +kernel)), rfl⟩

theorem qmX11_176 : Cond.methodLink RX11 176 yX2_ofRoom ∈ z_ws := List.mem_filter.mpr ⟨List.mem_append_right _ (List.mem_of_getElem? (i := 1138) (by decide +kernel)), rfl⟩
theorem qmX11_180 : Cond.methodLink RX11 180 yX2_ofAll ∈ z_ws := List.mem_filter.mpr ⟨List.mem_append_right _ (List.mem_of_getElem? (i := 1139) (by decide +kernel)), rfl⟩
theorem qmX11_183 : Cond.methodLink RX11 183 yX11_fraction ∈ z_ws := List.mem_filter.mpr ⟨List.mem_append_right _ (List.mem_of_getElem? (i := 1140) (by decide +kernel)), rfl⟩
theorem qc_X11_fraction : Cond.code yX11_fraction cX11_fraction 12 (some .long) ∈ z_ws := List.mem_filter.mpr ⟨List.mem_append_right _ (List.mem_of_getElem? (i := 1142) (by decide +kernel)), rfl⟩
theorem qs_X11_fraction : Cond.static yX11_fraction ∈ z_ws := List.mem_filter.mpr ⟨List.mem_append_right _ (List.mem_of_getElem? (i := 1141) (by decide +kernel)), rfl⟩
theorem md_X11_fraction : z_mdS yX11_fraction cX11_fraction 12 (some .long) 3 := ⟨⟨qn_RX11, qc_X11_fraction, ⟨by decide +kernel, by decide +kernel, by decide +kernel⟩⟩, qs_X11_fraction⟩
theorem dX11_after_0 : decode cX11_after 0 = .ok (.aload_n 0, 1) := by decide +kernel
theorem dX11_after_1 : decode cX11_after 1 = .ok (.getfield 36, 3) := by decide +kernel
theorem dX11_after_4 : decode cX11_after 4 = .ok (.getfield 106, 3) := by decide +kernel
theorem dX11_after_7 : decode cX11_after 7 = .ok (.astore_n 3, 1) := by decide +kernel
theorem dX11_after_8 : decode cX11_after 8 = .ok (.iload_n 1, 1) := by decide +kernel
theorem dX11_after_9 : decode cX11_after 9 = .ok (.ifCond .lt 18, 3) := by decide +kernel
theorem dX11_after_12 : decode cX11_after 12 = .ok (.iload_n 1, 1) := by decide +kernel
theorem dX11_after_13 : decode cX11_after 13 = .ok (.aload_n 3, 1) := by decide +kernel
theorem dX11_after_14 : decode cX11_after 14 = .ok (.getfield 162, 3) := by decide +kernel
theorem dX11_after_17 : decode cX11_after 17 = .ok (.if_icmp .gt 10, 3) := by decide +kernel
theorem dX11_after_20 : decode cX11_after 20 = .ok (.iload_n 2, 1) := by decide +kernel
theorem dX11_after_21 : decode cX11_after 21 = .ok (.invokestatic 133, 3) := by decide +kernel
theorem dX11_after_24 : decode cX11_after 24 = .ok (.ifCond .ne 11, 3) := by decide +kernel
theorem dX11_after_27 : decode cX11_after 27 = .ok (.new 173, 3) := by decide +kernel
theorem dX11_after_30 : decode cX11_after 30 = .ok (.dup, 1) := by decide +kernel
theorem dX11_after_31 : decode cX11_after 31 = .ok (.invokespecial 175, 3) := by decide +kernel
theorem dX11_after_34 : decode cX11_after 34 = .ok (.athrow, 1) := by decide +kernel
theorem dX11_after_35 : decode cX11_after 35 = .ok (.aload_n 0, 1) := by decide +kernel
theorem dX11_after_36 : decode cX11_after 36 = .ok (.getfield 54, 3) := by decide +kernel
theorem dX11_after_39 : decode cX11_after 39 = .ok (.aload_n 3, 1) := by decide +kernel
theorem dX11_after_40 : decode cX11_after 40 = .ok (.getfield 109, 3) := by decide +kernel
theorem dX11_after_43 : decode cX11_after 43 = .ok (.invokevirtual 165, 3) := by decide +kernel
theorem dX11_after_46 : decode cX11_after 46 = .ok (.iconst 0, 1) := by decide +kernel
theorem dX11_after_47 : decode cX11_after 47 = .ok (.istore 4, 2) := by decide +kernel
theorem dX11_after_49 : decode cX11_after 49 = .ok (.iload 4, 2) := by decide +kernel
theorem dX11_after_51 : decode cX11_after 51 = .ok (.iload_n 1, 1) := by decide +kernel
theorem dX11_after_52 : decode cX11_after 52 = .ok (.if_icmp .ge 32, 3) := by decide +kernel
theorem dX11_after_55 : decode cX11_after 55 = .ok (.aload_n 3, 1) := by decide +kernel
theorem dX11_after_56 : decode cX11_after 56 = .ok (.iload 4, 2) := by decide +kernel
theorem dX11_after_58 : decode cX11_after 58 = .ok (.invokevirtual 166, 3) := by decide +kernel
theorem dX11_after_61 : decode cX11_after 61 = .ok (.istore 5, 2) := by decide +kernel
theorem dX11_after_63 : decode cX11_after 63 = .ok (.aload_n 0, 1) := by decide +kernel
theorem dX11_after_64 : decode cX11_after 64 = .ok (.getfield 54, 3) := by decide +kernel
theorem dX11_after_67 : decode cX11_after 67 = .ok (.iload 5, 2) := by decide +kernel
theorem dX11_after_69 : decode cX11_after 69 = .ok (.iconst 1, 1) := by decide +kernel
theorem dX11_after_70 : decode cX11_after 70 = .ok (.ishr, 1) := by decide +kernel
theorem dX11_after_71 : decode cX11_after 71 = .ok (.iload 5, 2) := by decide +kernel
theorem dX11_after_73 : decode cX11_after 73 = .ok (.iconst 1, 1) := by decide +kernel
theorem dX11_after_74 : decode cX11_after 74 = .ok (.iand, 1) := by decide +kernel
theorem dX11_after_75 : decode cX11_after 75 = .ok (.invokevirtual 158, 3) := by decide +kernel
theorem dX11_after_78 : decode cX11_after 78 = .ok (.iinc 4 1, 3) := by decide +kernel
theorem dX11_after_81 : decode cX11_after 81 = .ok (.goto (-32), 3) := by decide +kernel
theorem dX11_after_84 : decode cX11_after 84 = .ok (.aload_n 0, 1) := by decide +kernel
theorem dX11_after_85 : decode cX11_after 85 = .ok (.getfield 54, 3) := by decide +kernel
theorem dX11_after_88 : decode cX11_after 88 = .ok (.invokevirtual 176, 3) := by decide +kernel
theorem dX11_after_91 : decode cX11_after 91 = .ok (.aload_n 0, 1) := by decide +kernel
theorem dX11_after_92 : decode cX11_after 92 = .ok (.getfield 54, 3) := by decide +kernel
theorem dX11_after_95 : decode cX11_after 95 = .ok (.invokevirtual 180, 3) := by decide +kernel
theorem dX11_after_98 : decode cX11_after 98 = .ok (.iload_n 2, 1) := by decide +kernel
theorem dX11_after_99 : decode cX11_after 99 = .ok (.invokestatic 183, 3) := by decide +kernel
theorem dX11_after_102 : decode cX11_after 102 = .ok (.lreturn, 1) := by decide +kernel
abbrev rm_X11_after : Room := { frames := 6, cells := 1, slots := 6, locals := 115 }
noncomputable def fX11_after_b27  (h : z_T) : Option (Option Int64 × z_T) :=
  some (none, h)
noncomputable def fX11_after_b49_i (o0 : Nat) (x1 : Int32) (x2 : Int32) (o3 : Nat) (x4 : Int32) (h : z_T) : Option ((Int32 × z_T) ⊕ (Option Int64 × z_T)) :=
  y_br (x1 ≤ x4)
    (y_mp <|
    y_gd (z_ok h o0 10) <|
    y_bi (z_R h o0 6) fun ob4 =>
    y_gd (z_ok h ob4 2) <|
    y_bi (fX2_ofRoom ob4 h) fun r7 =>
    y_bi (fX2_ofAll ob4 h) fun r13 =>
    y_bi (fX11_fraction r7 r13 x2) fun r18 =>
    some (some r18, h))
    (y_gd (z_ok h o3 2) <|
    y_bi (fX2_answerAt o3 x4 h) fun r22 =>
    y_gd (z_ok h o0 10) <|
    y_bi (z_R h o0 6) fun ob28 =>
    y_gd (z_ok h ob28 2) <|
    y_bi (fX2_add ob28 (r22 >>> ((1 : Int32) &&& 31)) (r22 &&& (1 : Int32)) h) fun h30 =>
    y_nm (x4 + 1) fun v32 =>
    some (.inl (v32, h30)))
noncomputable def fX11_after_b49 (o0 : Nat) (x1 : Int32) (x2 : Int32) (o3 : Nat) (x4 : Int32) (h : z_T) : Option (Option Int64 × z_T) := y_lp (fun q : Int32 × z_T => fX11_after_b49_i o0 x1 x2 o3 q.1 q.2) (x4, h)
noncomputable def fX11_after (o0 : Nat) (x1 : Int32) (x2 : Int32) (h : z_T) : Option (Option Int64 × z_T) :=
  y_gd (z_ok h o0 10) <|
  y_bi (z_R h o0 3) fun ob34 =>
  y_gd (z_ok h ob34 8) <|
  y_bi (z_R h ob34 0) fun ob36 =>
  y_br (x1 < 0)
    (fX11_after_b27 h)
    (y_gd (z_ok h ob36 2) <|
    y_br ((z_I h ob36 1) < x1)
      (fX11_after_b27 h)
      (y_bi (fX11_isSide x2) fun r41 =>
      y_br (r41 = 0)
        (fX11_after_b27 h)
        (y_bi (z_R h o0 6) fun ob46 =>
        y_bi (z_R h ob36 0) fun ob47 =>
        y_gd (z_ok h ob46 2) <|
        y_bi (fX2_begin ob46 ob47 h) fun h49 =>
        fX11_after_b49 o0 x1 x2 ob36 (0 : Int32) h49)))
set_option maxHeartbeats 4000000 in
set_option maxRecDepth 100000 in
theorem mm_X11_after {G : z_Gt} (hSK : z_SK (z_S G)) (l : Launch) (hfl : l.stackTraces = false) (ad : Nat → Nat) (o0 : Nat) (x1 : Int32) (x2 : Int32) (h : z_T) {r0 : Option Int64} {h9 : z_T} (hv : fX11_after o0 x1 x2 h = some (r0, h9)) : z_Tl G (z_S G) l yX11_after cX11_after 6 rm_X11_after [.ref (ad o0), .int x1, .int x2] ad h h9 r0 := by
  refine z_ofT hSK (by decide) (Nat.le_of_ble_eq_true rfl) ?_
  intro p e s m args below meth c ls hc hr ht hs0 hB hl
  have hx := hc.1.1
  have hb := hc.1.2.1
  have hown := hc.1.2.2.2.1
  have hts := hc.1.2.2.2.2
  replace hc : z_C G (z_S G) ad (z_n h) p m c cX11_after 6 s args RX11 meth := hc
  replace hown : s.vm.findClass RX11 = some m.cls := hown
  replace hl : lv_has ls 6 [(0, .ref (ad o0)), (1, .int x1), (2, .int x2)] := hl
  show W p l e rm_X11_after s m args below meth c s.heap [] 0 0 (vx_MQ below (z_Qt G ad h9 (z_n h) s.heap.size r0) (z_Xt G ad h9 (z_n h) s.heap.size r0) args s 1 6 (z_A ad (z_n h) s.heap.size)) (F0 m 0 ls [])
  obtain ⟨rs, kt⟩ : ∃ rs : Option Int64 × z_T, rs = (r0, h9) := ⟨_, rfl⟩
  generalize hn0 : z_n h = n0 at hc hB ⊢
  have b27 : ∀ (h : z_T) (H : Heap) (locs : List Loc) (ls : Array Slot), z_B G ad n0 s h H locs → lv_has ls 6 [] → ∀ w, fX11_after_b27 h = some w → w = (r0, h9) → W p l e rm_X11_after s m args below meth c H locs 0 0 (vx_MQ below (z_Qt G ad h9 n0 s.heap.size r0) (z_Xt G ad h9 n0 s.heap.size r0) args s 1 6 (z_A ad n0 s.heap.size)) (F0 m 27 ls []) := by
    intro h H locs ls hB hl w hv kb
    replace hv := Option.some.inj hv
    subst hv
    obtain ⟨e1, e2⟩ := y_pr kb
    rw [← e1, ← e2]
    exact z_throw hc hB hfl ht hs0 ql_throw qn_throw hl.1 dX11_after_27 dX11_after_30 dX11_after_31 dX11_after_34 ⟨by decide, by decide, by decide, by decide⟩
  have L49 : ∀ (o3 : Nat) (nn49 : Nat) (x4 : Int32) (h : z_T) (H : Heap) (locs : List Loc) (ls : Array Slot), z_B G ad n0 s h H locs → lv_has ls 6 [(0, .ref (ad o0)), (1, .int x1), (2, .int x2), (3, .ref (ad o3)), (4, .int x4)] → ∀ vv49, y_lpN (fun q : Int32 × z_T => fX11_after_b49_i o0 x1 x2 o3 q.1 q.2) nn49 (x4, h) = some vv49 → vv49 = (r0, h9) → W p l e rm_X11_after s m args below meth c H locs 0 0 (vx_MQ below (z_Qt G ad h9 n0 s.heap.size r0) (z_Xt G ad h9 n0 s.heap.size r0) args s 1 6 (z_A ad n0 s.heap.size)) (F0 m 49 ls []) := by
    intro o3 nn49
    induction nn49 with
    | zero => intro x4 h H locs ls hB hl vv49 hv kv49; exact absurd hv (fun q => y_lpN_0 q)
    | succ nn49 ih49 =>
      intro x4 h H locs ls hB hl vv49 hv kv49
      obtain ⟨w, hq, kw49⟩ := y_lpN_e hv
      clear hv
      have hv : fX11_after_b49_i o0 x1 x2 o3 x4 h = some w := hq
      clear hq
      refine lv_iload hx hb dX11_after_49 (lv_at hl 4 rfl) ?_
      refine lv_iload_n hx hb dX11_after_51 rfl (lv_at hl 1 rfl) ?_
      refine lv_icmp_ge (tgt := 84) hx hb dX11_after_52 (by decide) (fun c1 => ?_) (fun c1 => ?_)
      · replace hv := y_br_t hv c1
        obtain ⟨t2, hq, ew⟩ := y_mp_e hv
        clear hv; subst ew
        replace kw49 : t2 = _ := kw49
        subst kw49
        have hv := hq
        clear hq
        refine lv_aload_n hx hb dX11_after_84 rfl (lv_at hl 0 rfl) ?_
        obtain ⟨g3, hv⟩ := y_gd_e hv
        obtain ⟨ob4, eob4, hv⟩ := y_bi_e hv
        refine z_getR hc hB 10 6 g3 eob4 (by decide) (by decide) rfl (z_l1 hc qfX11_54) dX11_after_85 ?_
        obtain ⟨g10, hv⟩ := y_gd_e hv
        obtain ⟨r7, c5, hv⟩ := y_bi_e hv
        refine z_thL hc hB (z_runV hc hB 2 (mm_X2_ofRoom hSK l ad ob4 h c5) md_X2_ofRoom qmX11_176 g10 (by decide) rfl rfl rfl ⟨Nat.le_of_ble_eq_true rfl, Nat.le_of_ble_eq_true rfl⟩ rfl hl.1 rfl (Nat.le_of_ble_eq_true rfl) dX11_after_88 ⟨Nat.le_of_ble_eq_true rfl, Nat.le_of_ble_eq_true rfl⟩) (fun H locs hB => ?_)
        refine lv_aload_n hx hb dX11_after_91 rfl (lv_at hl 0 rfl) ?_
        refine z_getR hc hB 10 6 g3 eob4 (by decide) (by decide) rfl (z_l1 hc qfX11_54) dX11_after_92 ?_
        obtain ⟨r13, c11, hv⟩ := y_bi_e hv
        refine z_thL hc hB (z_runV hc hB 2 (mm_X2_ofAll hSK l ad ob4 h c11) md_X2_ofAll qmX11_180 g10 (by decide) rfl rfl rfl ⟨Nat.le_of_ble_eq_true rfl, Nat.le_of_ble_eq_true rfl⟩ rfl hl.1 rfl (Nat.le_of_ble_eq_true rfl) dX11_after_95 ⟨Nat.le_of_ble_eq_true rfl, Nat.le_of_ble_eq_true rfl⟩) (fun H locs hB => ?_)
        refine lv_iload_n hx hb dX11_after_98 rfl (lv_at hl 2 rfl) ?_
        obtain ⟨r18, c16, hv⟩ := y_bi_e hv
        refine z_thL hc hB (z_runS hc hB (mm_X11_fraction hSK l ad r7 r13 x2 h c16) md_X11_fraction qmX11_183 rfl rfl ⟨Nat.le_of_ble_eq_true rfl, Nat.le_of_ble_eq_true rfl⟩ rfl hl.1 rfl (Nat.le_of_ble_eq_true rfl) dX11_after_99 ⟨Nat.le_of_ble_eq_true rfl, Nat.le_of_ble_eq_true rfl⟩) (fun H locs hB => ?_)
        replace hv := Option.some.inj hv
        subst hv
        obtain ⟨e1, e2⟩ := y_pr kv49
        rw [← e1, ← e2]
        exact z_tret hc hB hr dX11_after_102
      · replace hv := y_br_f hv c1
        refine lv_aload_n hx hb dX11_after_55 rfl (lv_at hl 3 rfl) ?_
        refine lv_iload hx hb dX11_after_56 (lv_at hl 4 rfl) ?_
        obtain ⟨g26, hv⟩ := y_gd_e hv
        obtain ⟨r22, c21, hv⟩ := y_bi_e hv
        refine z_thI hc hB (z_runV hc hB 2 (mm_X2_answerAt hSK l ad o3 x4 h c21) md_X2_answerAt qmX11_166 g26 (by decide) rfl rfl rfl ⟨Nat.le_of_ble_eq_true rfl, Nat.le_of_ble_eq_true rfl⟩ rfl hl.1 rfl (Nat.le_of_ble_eq_true rfl) dX11_after_58 ⟨Nat.le_of_ble_eq_true rfl, Nat.le_of_ble_eq_true rfl⟩) (fun H locs hB => ?_)
        refine lv_istore (lv' := [(5, .int r22), (0, .ref (ad o0)), (1, .int x1), (2, .int x2), (3, .ref (ad o3)), (4, .int x4)]) hx hb dX11_after_61 hl (by decide) rfl (fun ls hl => ?_)
        refine lv_aload_n hx hb dX11_after_63 rfl (lv_at hl 1 rfl) ?_
        obtain ⟨g27, hv⟩ := y_gd_e hv
        obtain ⟨ob28, eob28, hv⟩ := y_bi_e hv
        refine z_getR hc hB 10 6 g27 eob28 (by decide) (by decide) rfl (z_l1 hc qfX11_54) dX11_after_64 ?_
        refine lv_iload hx hb dX11_after_67 (lv_at hl 0 rfl) ?_
        refine lv_iconst (v := (1 : Int32)) hx hb dX11_after_69 (by decide) ?_
        refine lv_ishr hx hb dX11_after_70 ?_
        refine lv_iload hx hb dX11_after_71 (lv_at hl 0 rfl) ?_
        refine lv_iconst (v := (1 : Int32)) hx hb dX11_after_73 (by decide) ?_
        refine lv_iand hx hb dX11_after_74 ?_
        obtain ⟨g31, hv⟩ := y_gd_e hv
        obtain ⟨h30, c29, hv⟩ := y_bi_e hv
        refine z_thV hc hB (z_runV hc hB 2 (mm_X2_add hSK l ad ob28 (r22 >>> ((1 : Int32) &&& 31)) (r22 &&& (1 : Int32)) h c29) md_X2_add qmX11_158 g31 (by decide) rfl rfl rfl ⟨Nat.le_of_ble_eq_true rfl, Nat.le_of_ble_eq_true rfl⟩ rfl hl.1 rfl (Nat.le_of_ble_eq_true rfl) dX11_after_75 ⟨Nat.le_of_ble_eq_true rfl, Nat.le_of_ble_eq_true rfl⟩) (fun H locs hB => ?_)
        obtain ⟨v32, ev32, hv⟩ := y_nm_e hv
        refine lv_iinc (v := v32) (lv' := [(4, .int v32), (5, .int r22), (0, .ref (ad o0)), (1, .int x1), (2, .int x2), (3, .ref (ad o3))]) hx hb dX11_after_78 hl (k := 5) rfl (by rw [ev32]; rfl) (by decide) rfl (fun ls hl => ?_)
        refine lv_goto (tgt := 49) hx hb dX11_after_81 (by decide) ?_
        replace hv := Option.some.inj hv
        subst hv
        exact ih49 v32 h30 _ _ _ hB (lv_sub hl [2, 3, 4, 5, 0] rfl) _ kw49 kv49
  rw [← kt] at hv
  refine lv_aload_n hx hb dX11_after_0 rfl (lv_at hl 0 rfl) ?_
  obtain ⟨g33, hv⟩ := y_gd_e hv
  obtain ⟨ob34, eob34, hv⟩ := y_bi_e hv
  refine z_getR hc hB 10 3 g33 eob34 (by decide) (by decide) rfl (z_l1 hc qfX11_36) dX11_after_1 ?_
  obtain ⟨g35, hv⟩ := y_gd_e hv
  obtain ⟨ob36, eob36, hv⟩ := y_bi_e hv
  refine z_getR hc hB 8 0 g35 eob36 (by decide) (by decide) rfl (z_l2 hc qfX11_106) dX11_after_4 ?_
  refine lv_astore_n (lv' := [(3, .ref (ad ob36)), (0, .ref (ad o0)), (1, .int x1), (2, .int x2)]) hx hb dX11_after_7 rfl hl (by decide) rfl (fun ls hl => ?_)
  refine lv_iload_n hx hb dX11_after_8 rfl (lv_at hl 2 rfl) ?_
  refine lv_if_lt (tgt := 27) hx hb dX11_after_9 (by decide) (fun c37 => ?_) (fun c37 => ?_)
  · replace hv := y_br_t hv c37
    exact b27 h _ _ _ hB (lv_sub hl [] rfl) _ hv kt
  · replace hv := y_br_f hv c37
    refine lv_iload_n hx hb dX11_after_12 rfl (lv_at hl 2 rfl) ?_
    refine lv_aload_n hx hb dX11_after_13 rfl (lv_at hl 0 rfl) ?_
    obtain ⟨g38, hv⟩ := y_gd_e hv
    refine z_getI hc hB 2 1 g38 (by decide) (by decide) rfl (z_l2 hc qfX11_162) dX11_after_14 ?_
    refine lv_icmp_gt (tgt := 27) hx hb dX11_after_17 (by decide) (fun c39 => ?_) (fun c39 => ?_)
    · replace hv := y_br_t hv c39
      exact b27 h _ _ _ hB (lv_sub hl [] rfl) _ hv kt
    · replace hv := y_br_f hv c39
      refine lv_iload_n hx hb dX11_after_20 rfl (lv_at hl 3 rfl) ?_
      obtain ⟨r41, c40, hv⟩ := y_bi_e hv
      refine z_thI hc hB (z_runS hc hB (mm_X11_isSide hSK l ad x2 h c40) md_X11_isSide qmX11_133 rfl rfl ⟨Nat.le_of_ble_eq_true rfl, Nat.le_of_ble_eq_true rfl⟩ rfl hl.1 rfl (Nat.le_of_ble_eq_true rfl) dX11_after_21 ⟨Nat.le_of_ble_eq_true rfl, Nat.le_of_ble_eq_true rfl⟩) (fun H locs hB => ?_)
      refine lv_if_ne (tgt := 35) hx hb dX11_after_24 (by decide) (fun c45 => ?_) (fun c45 => ?_)
      · replace hv := y_br_f hv c45
        refine lv_aload_n hx hb dX11_after_35 rfl (lv_at hl 1 rfl) ?_
        obtain ⟨ob46, eob46, hv⟩ := y_bi_e hv
        refine z_getR hc hB 10 6 g33 eob46 (by decide) (by decide) rfl (z_l1 hc qfX11_54) dX11_after_36 ?_
        refine lv_aload_n hx hb dX11_after_39 rfl (lv_at hl 0 rfl) ?_
        obtain ⟨ob47, eob47, hv⟩ := y_bi_e hv
        refine z_getR hc hB 2 0 g38 eob47 (by decide) (by decide) rfl (z_l2 hc qfX11_109) dX11_after_40 ?_
        obtain ⟨g50, hv⟩ := y_gd_e hv
        obtain ⟨h49, c48, hv⟩ := y_bi_e hv
        refine z_thV hc hB (z_runV hc hB 2 (mm_X2_begin hSK l ad ob46 ob47 h c48) md_X2_begin qmX11_165 g50 (by decide) rfl rfl rfl ⟨Nat.le_of_ble_eq_true rfl, Nat.le_of_ble_eq_true rfl⟩ rfl hl.1 rfl (Nat.le_of_ble_eq_true rfl) dX11_after_43 ⟨Nat.le_of_ble_eq_true rfl, Nat.le_of_ble_eq_true rfl⟩) (fun H locs hB => ?_)
        refine lv_iconst (v := (0 : Int32)) hx hb dX11_after_46 (by decide) ?_
        refine lv_istore (lv' := [(4, .int (0 : Int32)), (3, .ref (ad ob36)), (0, .ref (ad o0)), (1, .int x1), (2, .int x2)]) hx hb dX11_after_47 hl (by decide) rfl (fun ls hl => ?_)
        obtain ⟨n, hv⟩ := y_lp_e hv
        exact L49 ob36 n (0 : Int32) h49 _ _ _ hB (lv_sub hl [2, 3, 4, 1, 0] rfl) _ hv kt
      · replace hv := y_br_t hv c45
        exact b27 h _ _ _ hB (lv_sub hl [] rfl) _ hv kt
theorem qmX11_227 : Cond.methodLink RX11 227 yX5_leastCost ∈ z_ws := List.mem_filter.mpr ⟨List.mem_append_right _ (List.mem_of_getElem? (i := 1170) (by decide +kernel)), rfl⟩
theorem qc_X5_leastCost : Cond.code yX5_leastCost cX5_leastCost 1 (some .long) ∈ z_ws := List.mem_filter.mpr ⟨List.mem_append_right _ (List.mem_of_getElem? (i := 1173) (by decide +kernel)), rfl⟩
theorem qi_X5_leastCost : Cond.instanceMethod yX5_leastCost ∈ z_ws := List.mem_filter.mpr ⟨List.mem_append_right _ (List.mem_of_getElem? (i := 1171) (by decide +kernel)), rfl⟩
theorem qs_X5_leastCost : Cond.selects RX5 yX5_leastCost yX5_leastCost ∈ z_ws := List.mem_filter.mpr ⟨List.mem_append_right _ (List.mem_of_getElem? (i := 1172) (by decide +kernel)), rfl⟩
theorem md_X5_leastCost : z_mdV yX5_leastCost cX5_leastCost 1 (some .long) 0 := ⟨⟨qn_RX5, qc_X5_leastCost, ⟨by decide +kernel, by decide +kernel, by decide +kernel⟩⟩, qi_X5_leastCost, qs_X5_leastCost⟩
theorem qmX11_211 : Cond.methodLink RX11 211 yX0_allWeights ∈ z_ws := List.mem_filter.mpr ⟨List.mem_append_right _ (List.mem_of_getElem? (i := 1161) (by decide +kernel)), rfl⟩
theorem qmX11_214 : Cond.methodLink RX11 214 yX11_power ∈ z_ws := List.mem_filter.mpr ⟨List.mem_append_right _ (List.mem_of_getElem? (i := 1162) (by decide +kernel)), rfl⟩
theorem dX11_cost_0 : decode cX11_cost 0 = .ok (.aload_n 0, 1) := by decide +kernel
theorem dX11_cost_1 : decode cX11_cost 1 = .ok (.getfield 36, 3) := by decide +kernel
theorem dX11_cost_4 : decode cX11_cost 4 = .ok (.getfield 106, 3) := by decide +kernel
theorem dX11_cost_7 : decode cX11_cost 7 = .ok (.getfield 109, 3) := by decide +kernel
theorem dX11_cost_10 : decode cX11_cost 10 = .ok (.astore_n 3, 1) := by decide +kernel
theorem dX11_cost_11 : decode cX11_cost 11 = .ok (.aload_n 3, 1) := by decide +kernel
theorem dX11_cost_12 : decode cX11_cost 12 = .ok (.iload_n 1, 1) := by decide +kernel
theorem dX11_cost_13 : decode cX11_cost 13 = .ok (.invokestatic 220, 3) := by decide +kernel
theorem dX11_cost_16 : decode cX11_cost 16 = .ok (.ifCond .eq 10, 3) := by decide +kernel
theorem dX11_cost_19 : decode cX11_cost 19 = .ok (.iload_n 2, 1) := by decide +kernel
theorem dX11_cost_20 : decode cX11_cost 20 = .ok (.invokestatic 133, 3) := by decide +kernel
theorem dX11_cost_23 : decode cX11_cost 23 = .ok (.ifCond .ne 11, 3) := by decide +kernel
theorem dX11_cost_26 : decode cX11_cost 26 = .ok (.new 173, 3) := by decide +kernel
theorem dX11_cost_29 : decode cX11_cost 29 = .ok (.dup, 1) := by decide +kernel
theorem dX11_cost_30 : decode cX11_cost 30 = .ok (.invokespecial 175, 3) := by decide +kernel
theorem dX11_cost_33 : decode cX11_cost 33 = .ok (.athrow, 1) := by decide +kernel
theorem dX11_cost_34 : decode cX11_cost 34 = .ok (.aload_n 0, 1) := by decide +kernel
theorem dX11_cost_35 : decode cX11_cost 35 = .ok (.getfield 61, 3) := by decide +kernel
theorem dX11_cost_38 : decode cX11_cost 38 = .ok (.aload_n 3, 1) := by decide +kernel
theorem dX11_cost_39 : decode cX11_cost 39 = .ok (.iload_n 1, 1) := by decide +kernel
theorem dX11_cost_40 : decode cX11_cost 40 = .ok (.invokevirtual 224, 3) := by decide +kernel
theorem dX11_cost_43 : decode cX11_cost 43 = .ok (.aload_n 0, 1) := by decide +kernel
theorem dX11_cost_44 : decode cX11_cost 44 = .ok (.getfield 61, 3) := by decide +kernel
theorem dX11_cost_47 : decode cX11_cost 47 = .ok (.invokevirtual 227, 3) := by decide +kernel
theorem dX11_cost_50 : decode cX11_cost 50 = .ok (.aload_n 3, 1) := by decide +kernel
theorem dX11_cost_51 : decode cX11_cost 51 = .ok (.invokevirtual 211, 3) := by decide +kernel
theorem dX11_cost_54 : decode cX11_cost 54 = .ok (.i2l, 1) := by decide +kernel
theorem dX11_cost_55 : decode cX11_cost 55 = .ok (.iload_n 1, 1) := by decide +kernel
theorem dX11_cost_56 : decode cX11_cost 56 = .ok (.invokestatic 214, 3) := by decide +kernel
theorem dX11_cost_59 : decode cX11_cost 59 = .ok (.lmul, 1) := by decide +kernel
theorem dX11_cost_60 : decode cX11_cost 60 = .ok (.iload_n 2, 1) := by decide +kernel
theorem dX11_cost_61 : decode cX11_cost 61 = .ok (.invokestatic 183, 3) := by decide +kernel
theorem dX11_cost_64 : decode cX11_cost 64 = .ok (.lreturn, 1) := by decide +kernel
abbrev rm_X11_cost : Room := { frames := 19, cells := 1, slots := 6, locals := 602 }
noncomputable def fX11_cost_b26  (h : z_T) : Option (Option Int64 × z_T) :=
  some (none, h)
noncomputable def fX11_cost (o0 : Nat) (x1 : Int32) (x2 : Int32) (h : z_T) : Option (Option Int64 × z_T) :=
  y_gd (z_ok h o0 10) <|
  y_bi (z_R h o0 3) fun ob2 =>
  y_gd (z_ok h ob2 8) <|
  y_bi (z_R h ob2 0) fun ob4 =>
  y_gd (z_ok h ob4 2) <|
  y_bi (z_R h ob4 0) fun ob6 =>
  y_bi (fX5_isFor ob6 x1 h) fun r8 =>
  y_br (r8 = 0)
    (fX11_cost_b26 h)
    (y_bi (fX11_isSide x2) fun r14 =>
    y_br (r14 = 0)
      (fX11_cost_b26 h)
      (y_bi (z_R h o0 7) fun ob19 =>
      y_gd (z_ok h ob19 5) <|
      y_bi (fX5_open ob19 ob6 x1 h) fun h21 =>
      y_gd (z_ok h21 o0 10) <|
      y_bi (z_R h21 o0 7) fun ob24 =>
      y_gd (z_ok h21 ob24 5) <|
      y_bi (fX5_leastCost ob24 h21) fun r27 =>
      y_gd (z_ok h21 ob6 0) <|
      y_bi (fX0_allWeights ob6 h21) fun r32 =>
      y_bi (fX11_power x1) fun r39 =>
      y_bi (fX11_fraction r27 ((r32).toInt64 * r39) x2) fun r44 =>
      some (some r44, h21)))
set_option maxHeartbeats 4000000 in
set_option maxRecDepth 100000 in
theorem mm_X11_cost {G : z_Gt} (hSK : z_SK (z_S G)) (l : Launch) (hfl : l.stackTraces = false) (ad : Nat → Nat) (o0 : Nat) (x1 : Int32) (x2 : Int32) (h : z_T) {r0 : Option Int64} {h9 : z_T} (hv : fX11_cost o0 x1 x2 h = some (r0, h9)) : z_Tl G (z_S G) l yX11_cost cX11_cost 4 rm_X11_cost [.ref (ad o0), .int x1, .int x2] ad h h9 r0 := by
  refine z_ofT hSK (by decide) (Nat.le_of_ble_eq_true rfl) ?_
  intro p e s m args below meth c ls hc hr ht hs0 hB hl
  have hx := hc.1.1
  have hb := hc.1.2.1
  have hown := hc.1.2.2.2.1
  have hts := hc.1.2.2.2.2
  replace hc : z_C G (z_S G) ad (z_n h) p m c cX11_cost 4 s args RX11 meth := hc
  replace hown : s.vm.findClass RX11 = some m.cls := hown
  replace hl : lv_has ls 4 [(0, .ref (ad o0)), (1, .int x1), (2, .int x2)] := hl
  show W p l e rm_X11_cost s m args below meth c s.heap [] 0 0 (vx_MQ below (z_Qt G ad h9 (z_n h) s.heap.size r0) (z_Xt G ad h9 (z_n h) s.heap.size r0) args s 1 6 (z_A ad (z_n h) s.heap.size)) (F0 m 0 ls [])
  obtain ⟨rs, kt⟩ : ∃ rs : Option Int64 × z_T, rs = (r0, h9) := ⟨_, rfl⟩
  generalize hn0 : z_n h = n0 at hc hB ⊢
  have b26 : ∀ (h : z_T) (H : Heap) (locs : List Loc) (ls : Array Slot), z_B G ad n0 s h H locs → lv_has ls 4 [] → ∀ w, fX11_cost_b26 h = some w → w = (r0, h9) → W p l e rm_X11_cost s m args below meth c H locs 0 0 (vx_MQ below (z_Qt G ad h9 n0 s.heap.size r0) (z_Xt G ad h9 n0 s.heap.size r0) args s 1 6 (z_A ad n0 s.heap.size)) (F0 m 26 ls []) := by
    intro h H locs ls hB hl w hv kb
    replace hv := Option.some.inj hv
    subst hv
    obtain ⟨e1, e2⟩ := y_pr kb
    rw [← e1, ← e2]
    exact z_throw hc hB hfl ht hs0 ql_throw qn_throw hl.1 dX11_cost_26 dX11_cost_29 dX11_cost_30 dX11_cost_33 ⟨by decide, by decide, by decide, by decide⟩
  rw [← kt] at hv
  refine lv_aload_n hx hb dX11_cost_0 rfl (lv_at hl 0 rfl) ?_
  obtain ⟨g1, hv⟩ := y_gd_e hv
  obtain ⟨ob2, eob2, hv⟩ := y_bi_e hv
  refine z_getR hc hB 10 3 g1 eob2 (by decide) (by decide) rfl (z_l1 hc qfX11_36) dX11_cost_1 ?_
  obtain ⟨g3, hv⟩ := y_gd_e hv
  obtain ⟨ob4, eob4, hv⟩ := y_bi_e hv
  refine z_getR hc hB 8 0 g3 eob4 (by decide) (by decide) rfl (z_l2 hc qfX11_106) dX11_cost_4 ?_
  obtain ⟨g5, hv⟩ := y_gd_e hv
  obtain ⟨ob6, eob6, hv⟩ := y_bi_e hv
  refine z_getR hc hB 2 0 g5 eob6 (by decide) (by decide) rfl (z_l2 hc qfX11_109) dX11_cost_7 ?_
  refine lv_astore_n (lv' := [(3, .ref (ad ob6)), (0, .ref (ad o0)), (1, .int x1), (2, .int x2)]) hx hb dX11_cost_10 rfl hl (by decide) rfl (fun ls hl => ?_)
  refine lv_aload_n hx hb dX11_cost_11 rfl (lv_at hl 0 rfl) ?_
  refine lv_iload_n hx hb dX11_cost_12 rfl (lv_at hl 2 rfl) ?_
  obtain ⟨r8, c7, hv⟩ := y_bi_e hv
  refine z_thI hc hB (z_runS hc hB (mm_X5_isFor hSK l ad ob6 x1 h c7) md_X5_isFor qmX11_220 rfl rfl ⟨Nat.le_of_ble_eq_true rfl, Nat.le_of_ble_eq_true rfl⟩ rfl hl.1 rfl (Nat.le_of_ble_eq_true rfl) dX11_cost_13 ⟨Nat.le_of_ble_eq_true rfl, Nat.le_of_ble_eq_true rfl⟩) (fun H locs hB => ?_)
  refine lv_if_eq (tgt := 26) hx hb dX11_cost_16 (by decide) (fun c12 => ?_) (fun c12 => ?_)
  · replace hv := y_br_t hv c12
    exact b26 h _ _ _ hB (lv_sub hl [] rfl) _ hv kt
  · replace hv := y_br_f hv c12
    refine lv_iload_n hx hb dX11_cost_19 rfl (lv_at hl 3 rfl) ?_
    obtain ⟨r14, c13, hv⟩ := y_bi_e hv
    refine z_thI hc hB (z_runS hc hB (mm_X11_isSide hSK l ad x2 h c13) md_X11_isSide qmX11_133 rfl rfl ⟨Nat.le_of_ble_eq_true rfl, Nat.le_of_ble_eq_true rfl⟩ rfl hl.1 rfl (Nat.le_of_ble_eq_true rfl) dX11_cost_20 ⟨Nat.le_of_ble_eq_true rfl, Nat.le_of_ble_eq_true rfl⟩) (fun H locs hB => ?_)
    refine lv_if_ne (tgt := 34) hx hb dX11_cost_23 (by decide) (fun c18 => ?_) (fun c18 => ?_)
    · replace hv := y_br_f hv c18
      refine lv_aload_n hx hb dX11_cost_34 rfl (lv_at hl 1 rfl) ?_
      obtain ⟨ob19, eob19, hv⟩ := y_bi_e hv
      refine z_getR hc hB 10 7 g1 eob19 (by decide) (by decide) rfl (z_l1 hc qfX11_61) dX11_cost_35 ?_
      refine lv_aload_n hx hb dX11_cost_38 rfl (lv_at hl 0 rfl) ?_
      refine lv_iload_n hx hb dX11_cost_39 rfl (lv_at hl 2 rfl) ?_
      obtain ⟨g22, hv⟩ := y_gd_e hv
      obtain ⟨h21, c20, hv⟩ := y_bi_e hv
      refine z_thV hc hB (z_runV hc hB 5 (mm_X5_open hSK l ad ob19 ob6 x1 h c20) md_X5_open qmX11_224 g22 (by decide) rfl rfl rfl ⟨Nat.le_of_ble_eq_true rfl, Nat.le_of_ble_eq_true rfl⟩ rfl hl.1 rfl (Nat.le_of_ble_eq_true rfl) dX11_cost_40 ⟨Nat.le_of_ble_eq_true rfl, Nat.le_of_ble_eq_true rfl⟩) (fun H locs hB => ?_)
      refine lv_aload_n hx hb dX11_cost_43 rfl (lv_at hl 1 rfl) ?_
      obtain ⟨g23, hv⟩ := y_gd_e hv
      obtain ⟨ob24, eob24, hv⟩ := y_bi_e hv
      refine z_getR hc hB 10 7 g23 eob24 (by decide) (by decide) rfl (z_l1 hc qfX11_61) dX11_cost_44 ?_
      obtain ⟨g30, hv⟩ := y_gd_e hv
      obtain ⟨r27, c25, hv⟩ := y_bi_e hv
      refine z_thL hc hB (z_runV hc hB 5 (mm_X5_leastCost hSK l ad ob24 h21 c25) md_X5_leastCost qmX11_227 g30 (by decide) rfl rfl rfl ⟨Nat.le_of_ble_eq_true rfl, Nat.le_of_ble_eq_true rfl⟩ rfl hl.1 rfl (Nat.le_of_ble_eq_true rfl) dX11_cost_47 ⟨Nat.le_of_ble_eq_true rfl, Nat.le_of_ble_eq_true rfl⟩) (fun H locs hB => ?_)
      refine lv_aload_n hx hb dX11_cost_50 rfl (lv_at hl 0 rfl) ?_
      obtain ⟨g36, hv⟩ := y_gd_e hv
      obtain ⟨r32, c31, hv⟩ := y_bi_e hv
      refine z_thI hc hB (z_runV hc hB 0 (mm_X0_allWeights hSK l ad ob6 h21 c31) md_X0_allWeights qmX11_211 g36 (by decide) rfl rfl rfl ⟨Nat.le_of_ble_eq_true rfl, Nat.le_of_ble_eq_true rfl⟩ rfl hl.1 rfl (Nat.le_of_ble_eq_true rfl) dX11_cost_51 ⟨Nat.le_of_ble_eq_true rfl, Nat.le_of_ble_eq_true rfl⟩) (fun H locs hB => ?_)
      refine lv_i2l hx hb dX11_cost_54 rfl ?_
      refine lv_iload_n hx hb dX11_cost_55 rfl (lv_at hl 2 rfl) ?_
      obtain ⟨r39, c37, hv⟩ := y_bi_e hv
      refine z_thL hc hB (z_runS hc hB (mm_X11_power hSK l ad x1 h21 c37) md_X11_power qmX11_214 rfl rfl ⟨Nat.le_of_ble_eq_true rfl, Nat.le_of_ble_eq_true rfl⟩ rfl hl.1 rfl (Nat.le_of_ble_eq_true rfl) dX11_cost_56 ⟨Nat.le_of_ble_eq_true rfl, Nat.le_of_ble_eq_true rfl⟩) (fun H locs hB => ?_)
      refine lv_lmul hx hb dX11_cost_59 ?_
      refine lv_iload_n hx hb dX11_cost_60 rfl (lv_at hl 3 rfl) ?_
      obtain ⟨r44, c42, hv⟩ := y_bi_e hv
      refine z_thL hc hB (z_runS hc hB (mm_X11_fraction hSK l ad r27 ((r32).toInt64 * r39) x2 h21 c42) md_X11_fraction qmX11_183 rfl rfl ⟨Nat.le_of_ble_eq_true rfl, Nat.le_of_ble_eq_true rfl⟩ rfl hl.1 rfl (Nat.le_of_ble_eq_true rfl) dX11_cost_61 ⟨Nat.le_of_ble_eq_true rfl, Nat.le_of_ble_eq_true rfl⟩) (fun H locs hB => ?_)
      replace hv := Option.some.inj hv
      subst hv
      obtain ⟨e1, e2⟩ := y_pr kt
      rw [← e1, ← e2]
      exact z_tret hc hB hr dX11_cost_64
    · replace hv := y_br_t hv c18
      exact b26 h _ _ _ hB (lv_sub hl [] rfl) _ hv kt
theorem dX11_deep_0 : decode cX11_deep 0 = .ok (.iload_n 1, 1) := by decide +kernel
theorem dX11_deep_1 : decode cX11_deep 1 = .ok (.ifCond .lt 16, 3) := by decide +kernel
theorem dX11_deep_4 : decode cX11_deep 4 = .ok (.iload_n 1, 1) := by decide +kernel
theorem dX11_deep_5 : decode cX11_deep 5 = .ok (.bipush 8, 2) := by decide +kernel
theorem dX11_deep_7 : decode cX11_deep 7 = .ok (.if_icmp .gt 10, 3) := by decide +kernel
theorem dX11_deep_10 : decode cX11_deep 10 = .ok (.iload_n 2, 1) := by decide +kernel
theorem dX11_deep_11 : decode cX11_deep 11 = .ok (.invokestatic 133, 3) := by decide +kernel
theorem dX11_deep_14 : decode cX11_deep 14 = .ok (.ifCond .ne 11, 3) := by decide +kernel
theorem dX11_deep_17 : decode cX11_deep 17 = .ok (.new 173, 3) := by decide +kernel
theorem dX11_deep_20 : decode cX11_deep 20 = .ok (.dup, 1) := by decide +kernel
theorem dX11_deep_21 : decode cX11_deep 21 = .ok (.invokespecial 175, 3) := by decide +kernel
theorem dX11_deep_24 : decode cX11_deep 24 = .ok (.athrow, 1) := by decide +kernel
theorem dX11_deep_25 : decode cX11_deep 25 = .ok (.aload_n 0, 1) := by decide +kernel
theorem dX11_deep_26 : decode cX11_deep 26 = .ok (.getfield 36, 3) := by decide +kernel
theorem dX11_deep_29 : decode cX11_deep 29 = .ok (.getfield 106, 3) := by decide +kernel
theorem dX11_deep_32 : decode cX11_deep 32 = .ok (.getfield 109, 3) := by decide +kernel
theorem dX11_deep_35 : decode cX11_deep 35 = .ok (.astore_n 3, 1) := by decide +kernel
theorem dX11_deep_36 : decode cX11_deep 36 = .ok (.lconst 1, 1) := by decide +kernel
theorem dX11_deep_37 : decode cX11_deep 37 = .ok (.lstore 4, 2) := by decide +kernel
theorem dX11_deep_39 : decode cX11_deep 39 = .ok (.lconst 1, 1) := by decide +kernel
theorem dX11_deep_40 : decode cX11_deep 40 = .ok (.lstore 6, 2) := by decide +kernel
theorem dX11_deep_42 : decode cX11_deep 42 = .ok (.iconst 0, 1) := by decide +kernel
theorem dX11_deep_43 : decode cX11_deep 43 = .ok (.istore 8, 2) := by decide +kernel
theorem dX11_deep_45 : decode cX11_deep 45 = .ok (.iload 8, 2) := by decide +kernel
theorem dX11_deep_47 : decode cX11_deep 47 = .ok (.iload_n 1, 1) := by decide +kernel
theorem dX11_deep_48 : decode cX11_deep 48 = .ok (.if_icmp .ge 35, 3) := by decide +kernel
theorem dX11_deep_51 : decode cX11_deep 51 = .ok (.lload 4, 2) := by decide +kernel
theorem dX11_deep_53 : decode cX11_deep 53 = .ok (.aload_n 3, 1) := by decide +kernel
theorem dX11_deep_54 : decode cX11_deep 54 = .ok (.invokevirtual 211, 3) := by decide +kernel
theorem dX11_deep_57 : decode cX11_deep 57 = .ok (.aload_n 3, 1) := by decide +kernel
theorem dX11_deep_58 : decode cX11_deep 58 = .ok (.iconst 0, 1) := by decide +kernel
theorem dX11_deep_59 : decode cX11_deep 59 = .ok (.invokevirtual 136, 3) := by decide +kernel
theorem dX11_deep_62 : decode cX11_deep 62 = .ok (.isub, 1) := by decide +kernel
theorem dX11_deep_63 : decode cX11_deep 63 = .ok (.i2l, 1) := by decide +kernel
theorem dX11_deep_64 : decode cX11_deep 64 = .ok (.lmul, 1) := by decide +kernel
theorem dX11_deep_65 : decode cX11_deep 65 = .ok (.lstore 4, 2) := by decide +kernel
theorem dX11_deep_67 : decode cX11_deep 67 = .ok (.lload 6, 2) := by decide +kernel
theorem dX11_deep_69 : decode cX11_deep 69 = .ok (.aload_n 3, 1) := by decide +kernel
theorem dX11_deep_70 : decode cX11_deep 70 = .ok (.invokevirtual 211, 3) := by decide +kernel
theorem dX11_deep_73 : decode cX11_deep 73 = .ok (.i2l, 1) := by decide +kernel
theorem dX11_deep_74 : decode cX11_deep 74 = .ok (.lmul, 1) := by decide +kernel
theorem dX11_deep_75 : decode cX11_deep 75 = .ok (.lstore 6, 2) := by decide +kernel
theorem dX11_deep_77 : decode cX11_deep 77 = .ok (.iinc 8 1, 3) := by decide +kernel
theorem dX11_deep_80 : decode cX11_deep 80 = .ok (.goto (-35), 3) := by decide +kernel
theorem dX11_deep_83 : decode cX11_deep 83 = .ok (.lload 4, 2) := by decide +kernel
theorem dX11_deep_85 : decode cX11_deep 85 = .ok (.lload 6, 2) := by decide +kernel
theorem dX11_deep_87 : decode cX11_deep 87 = .ok (.iload_n 2, 1) := by decide +kernel
theorem dX11_deep_88 : decode cX11_deep 88 = .ok (.invokestatic 183, 3) := by decide +kernel
theorem dX11_deep_91 : decode cX11_deep 91 = .ok (.lreturn, 1) := by decide +kernel
abbrev rm_X11_deep : Room := { frames := 6, cells := 1, slots := 6, locals := 81 }
noncomputable def fX11_deep_b17  (h : z_T) : Option (Option Int64) :=
  some none
noncomputable def fX11_deep_b45_i (x1 : Int32) (x2 : Int32) (o3 : Nat) (h : z_T) (l4 : Int64) (l6 : Int64) (x8 : Int32) : Option ((Int64 × Int64 × Int32) ⊕ (Option Int64)) :=
  y_br (x1 ≤ x8)
    (y_mp <|
    y_bi (fX11_fraction l4 l6 x2) fun r5 =>
    some (some r5))
    (y_gd (z_ok h o3 0) <|
    y_bi (fX0_allWeights o3 h) fun r9 =>
    y_bi (fX0_weightOf o3 (0 : Int32) h) fun r15 =>
    y_nm ((l4 * ((r9 - r15)).toInt64)) fun v19 =>
    y_bi (fX0_allWeights o3 h) fun r21 =>
    y_nm ((l6 * (r21).toInt64)) fun v25 =>
    y_nm (x8 + 1) fun v26 =>
    some (.inl (v19, v25, v26)))
noncomputable def fX11_deep_b45 (x1 : Int32) (x2 : Int32) (o3 : Nat) (l4 : Int64) (l6 : Int64) (x8 : Int32) (h : z_T) : Option (Option Int64) := y_lp (fun q : Int64 × Int64 × Int32 => fX11_deep_b45_i x1 x2 o3 h q.1 q.2.1 q.2.2) (l4, l6, x8)
noncomputable def fX11_deep (o0 : Nat) (x1 : Int32) (x2 : Int32) (h : z_T) : Option (Option Int64) :=
  y_br (x1 < 0)
    (fX11_deep_b17 h)
    (y_br ((8 : Int32) < x1)
      (fX11_deep_b17 h)
      (y_bi (fX11_isSide x2) fun r30 =>
      y_br (r30 = 0)
        (fX11_deep_b17 h)
        (y_gd (z_ok h o0 10) <|
        y_bi (z_R h o0 3) fun ob36 =>
        y_gd (z_ok h ob36 8) <|
        y_bi (z_R h ob36 0) fun ob38 =>
        y_gd (z_ok h ob38 2) <|
        y_bi (z_R h ob38 0) fun ob40 =>
        fX11_deep_b45 x1 x2 ob40 (1 : Int64) (1 : Int64) (0 : Int32) h)))
set_option maxHeartbeats 4000000 in
set_option maxRecDepth 100000 in
theorem mm_X11_deep {G : z_Gt} (hSK : z_SK (z_S G)) (l : Launch) (hfl : l.stackTraces = false) (ad : Nat → Nat) (o0 : Nat) (x1 : Int32) (x2 : Int32) (h : z_T) {r0 : Option Int64} (hv : fX11_deep o0 x1 x2 h = some r0) : z_Tl G (z_S G) l yX11_deep cX11_deep 9 rm_X11_deep [.ref (ad o0), .int x1, .int x2] ad h h r0 := by
  refine z_ofT hSK (by decide) (Nat.le_of_ble_eq_true rfl) ?_
  intro p e s m args below meth c ls hc hr ht hs0 hB hl
  have hx := hc.1.1
  have hb := hc.1.2.1
  have hown := hc.1.2.2.2.1
  have hts := hc.1.2.2.2.2
  replace hc : z_C G (z_S G) ad (z_n h) p m c cX11_deep 9 s args RX11 meth := hc
  replace hown : s.vm.findClass RX11 = some m.cls := hown
  replace hl : lv_has ls 9 [(0, .ref (ad o0)), (1, .int x1), (2, .int x2)] := hl
  show W p l e rm_X11_deep s m args below meth c s.heap [] 0 0 (vx_MQ below (z_Qt G ad h (z_n h) s.heap.size r0) (z_Xt G ad h (z_n h) s.heap.size r0) args s 1 6 (z_A ad (z_n h) s.heap.size)) (F0 m 0 ls [])
  obtain ⟨rs, kt⟩ : ∃ rs : Option Int64, rs = r0 := ⟨_, rfl⟩
  generalize hn0 : z_n h = n0 at hc hB ⊢
  have b17 : ∀ (H : Heap) (locs : List Loc) (ls : Array Slot), z_B G ad n0 s h H locs → lv_has ls 9 [] → ∀ w, fX11_deep_b17 h = some w → w = r0 → W p l e rm_X11_deep s m args below meth c H locs 0 0 (vx_MQ below (z_Qt G ad h n0 s.heap.size r0) (z_Xt G ad h n0 s.heap.size r0) args s 1 6 (z_A ad n0 s.heap.size)) (F0 m 17 ls []) := by
    intro H locs ls hB hl w hv kb
    replace hv := Option.some.inj hv
    subst hv
    rw [← kb]
    exact z_throw hc hB hfl ht hs0 ql_throw qn_throw hl.1 dX11_deep_17 dX11_deep_20 dX11_deep_21 dX11_deep_24 ⟨by decide, by decide, by decide, by decide⟩
  have L45 : ∀ (o3 : Nat) (nn45 : Nat) (l4 : Int64) (l6 : Int64) (x8 : Int32) (H : Heap) (locs : List Loc) (ls : Array Slot), z_B G ad n0 s h H locs → lv_has ls 9 [(1, .int x1), (2, .int x2), (3, .ref (ad o3)), (4, .long l4), (6, .long l6), (8, .int x8)] → ∀ vv45, y_lpN (fun q : Int64 × Int64 × Int32 => fX11_deep_b45_i x1 x2 o3 h q.1 q.2.1 q.2.2) nn45 (l4, l6, x8) = some vv45 → vv45 = r0 → W p l e rm_X11_deep s m args below meth c H locs 0 0 (vx_MQ below (z_Qt G ad h n0 s.heap.size r0) (z_Xt G ad h n0 s.heap.size r0) args s 1 6 (z_A ad n0 s.heap.size)) (F0 m 45 ls []) := by
    intro o3 nn45
    induction nn45 with
    | zero => intro l4 l6 x8 H locs ls hB hl vv45 hv kv45; exact absurd hv (fun q => y_lpN_0 q)
    | succ nn45 ih45 =>
      intro l4 l6 x8 H locs ls hB hl vv45 hv kv45
      obtain ⟨w, hq, kw45⟩ := y_lpN_e hv
      clear hv
      have hv : fX11_deep_b45_i x1 x2 o3 h l4 l6 x8 = some w := hq
      clear hq
      refine lv_iload hx hb dX11_deep_45 (lv_at hl 5 rfl) ?_
      refine lv_iload_n hx hb dX11_deep_47 rfl (lv_at hl 0 rfl) ?_
      refine lv_icmp_ge (tgt := 83) hx hb dX11_deep_48 (by decide) (fun c1 => ?_) (fun c1 => ?_)
      · replace hv := y_br_t hv c1
        obtain ⟨t2, hq, ew⟩ := y_mp_e hv
        clear hv; subst ew
        replace kw45 : t2 = _ := kw45
        subst kw45
        have hv := hq
        clear hq
        refine lv_lload hx hb dX11_deep_83 (lv_at hl 3 rfl) ?_
        refine lv_lload hx hb dX11_deep_85 (lv_at hl 4 rfl) ?_
        refine lv_iload_n hx hb dX11_deep_87 rfl (lv_at hl 1 rfl) ?_
        obtain ⟨r5, c3, hv⟩ := y_bi_e hv
        refine z_thL hc hB (z_runS hc hB (mm_X11_fraction hSK l ad l4 l6 x2 h c3) md_X11_fraction qmX11_183 rfl rfl ⟨Nat.le_of_ble_eq_true rfl, Nat.le_of_ble_eq_true rfl⟩ rfl hl.1 rfl (Nat.le_of_ble_eq_true rfl) dX11_deep_88 ⟨Nat.le_of_ble_eq_true rfl, Nat.le_of_ble_eq_true rfl⟩) (fun H locs hB => ?_)
        replace hv := Option.some.inj hv
        subst hv
        rw [← kv45]
        exact z_tret hc hB hr dX11_deep_91
      · replace hv := y_br_f hv c1
        refine lv_lload hx hb dX11_deep_51 (lv_at hl 3 rfl) ?_
        refine lv_aload_n hx hb dX11_deep_53 rfl (lv_at hl 2 rfl) ?_
        obtain ⟨g13, hv⟩ := y_gd_e hv
        obtain ⟨r9, c8, hv⟩ := y_bi_e hv
        refine z_thI hc hB (z_runV hc hB 0 (mm_X0_allWeights hSK l ad o3 h c8) md_X0_allWeights qmX11_211 g13 (by decide) rfl rfl rfl ⟨Nat.le_of_ble_eq_true rfl, Nat.le_of_ble_eq_true rfl⟩ rfl hl.1 rfl (Nat.le_of_ble_eq_true rfl) dX11_deep_54 ⟨Nat.le_of_ble_eq_true rfl, Nat.le_of_ble_eq_true rfl⟩) (fun H locs hB => ?_)
        refine lv_aload_n hx hb dX11_deep_57 rfl (lv_at hl 2 rfl) ?_
        refine lv_iconst (v := (0 : Int32)) hx hb dX11_deep_58 (by decide) ?_
        obtain ⟨r15, c14, hv⟩ := y_bi_e hv
        refine z_thI hc hB (z_runV hc hB 0 (mm_X0_weightOf hSK l ad o3 (0 : Int32) h c14) md_X0_weightOf qmX11_136 g13 (by decide) rfl rfl rfl ⟨Nat.le_of_ble_eq_true rfl, Nat.le_of_ble_eq_true rfl⟩ rfl hl.1 rfl (Nat.le_of_ble_eq_true rfl) dX11_deep_59 ⟨Nat.le_of_ble_eq_true rfl, Nat.le_of_ble_eq_true rfl⟩) (fun H locs hB => ?_)
        refine lv_isub hx hb dX11_deep_62 ?_
        refine lv_i2l hx hb dX11_deep_63 rfl ?_
        refine lv_lmul hx hb dX11_deep_64 ?_
        obtain ⟨v19, ev19, hv⟩ := y_nm_e hv
        rw [← ev19]
        refine lv_lstore (lv' := [(4, .long v19), (1, .int x1), (2, .int x2), (3, .ref (ad o3)), (6, .long l6), (8, .int x8)]) hx hb dX11_deep_65 hl (by decide) rfl (fun ls hl => ?_)
        refine lv_lload hx hb dX11_deep_67 (lv_at hl 4 rfl) ?_
        refine lv_aload_n hx hb dX11_deep_69 rfl (lv_at hl 3 rfl) ?_
        obtain ⟨r21, c20, hv⟩ := y_bi_e hv
        refine z_thI hc hB (z_runV hc hB 0 (mm_X0_allWeights hSK l ad o3 h c20) md_X0_allWeights qmX11_211 g13 (by decide) rfl rfl rfl ⟨Nat.le_of_ble_eq_true rfl, Nat.le_of_ble_eq_true rfl⟩ rfl hl.1 rfl (Nat.le_of_ble_eq_true rfl) dX11_deep_70 ⟨Nat.le_of_ble_eq_true rfl, Nat.le_of_ble_eq_true rfl⟩) (fun H locs hB => ?_)
        refine lv_i2l hx hb dX11_deep_73 rfl ?_
        refine lv_lmul hx hb dX11_deep_74 ?_
        obtain ⟨v25, ev25, hv⟩ := y_nm_e hv
        rw [← ev25]
        refine lv_lstore (lv' := [(6, .long v25), (4, .long v19), (1, .int x1), (2, .int x2), (3, .ref (ad o3)), (8, .int x8)]) hx hb dX11_deep_75 hl (by decide) rfl (fun ls hl => ?_)
        obtain ⟨v26, ev26, hv⟩ := y_nm_e hv
        refine lv_iinc (v := v26) (lv' := [(8, .int v26), (6, .long v25), (4, .long v19), (1, .int x1), (2, .int x2), (3, .ref (ad o3))]) hx hb dX11_deep_77 hl (k := 5) rfl (by rw [ev26]; rfl) (by decide) rfl (fun ls hl => ?_)
        refine lv_goto (tgt := 45) hx hb dX11_deep_80 (by decide) ?_
        replace hv := Option.some.inj hv
        subst hv
        exact ih45 v19 v25 v26 _ _ _ hB (lv_sub hl [3, 4, 5, 2, 1, 0] rfl) _ kw45 kv45
  rw [← kt] at hv
  refine lv_iload_n hx hb dX11_deep_0 rfl (lv_at hl 1 rfl) ?_
  refine lv_if_lt (tgt := 17) hx hb dX11_deep_1 (by decide) (fun c27 => ?_) (fun c27 => ?_)
  · replace hv := y_br_t hv c27
    exact b17 _ _ _ hB (lv_sub hl [] rfl) _ hv kt
  · replace hv := y_br_f hv c27
    refine lv_iload_n hx hb dX11_deep_4 rfl (lv_at hl 1 rfl) ?_
    refine lv_bipush (v := (8 : Int32)) hx hb dX11_deep_5 (by decide) ?_
    refine lv_icmp_gt (tgt := 17) hx hb dX11_deep_7 (by decide) (fun c28 => ?_) (fun c28 => ?_)
    · replace hv := y_br_t hv c28
      exact b17 _ _ _ hB (lv_sub hl [] rfl) _ hv kt
    · replace hv := y_br_f hv c28
      refine lv_iload_n hx hb dX11_deep_10 rfl (lv_at hl 2 rfl) ?_
      obtain ⟨r30, c29, hv⟩ := y_bi_e hv
      refine z_thI hc hB (z_runS hc hB (mm_X11_isSide hSK l ad x2 h c29) md_X11_isSide qmX11_133 rfl rfl ⟨Nat.le_of_ble_eq_true rfl, Nat.le_of_ble_eq_true rfl⟩ rfl hl.1 rfl (Nat.le_of_ble_eq_true rfl) dX11_deep_11 ⟨Nat.le_of_ble_eq_true rfl, Nat.le_of_ble_eq_true rfl⟩) (fun H locs hB => ?_)
      refine lv_if_ne (tgt := 25) hx hb dX11_deep_14 (by decide) (fun c34 => ?_) (fun c34 => ?_)
      · replace hv := y_br_f hv c34
        refine lv_aload_n hx hb dX11_deep_25 rfl (lv_at hl 0 rfl) ?_
        obtain ⟨g35, hv⟩ := y_gd_e hv
        obtain ⟨ob36, eob36, hv⟩ := y_bi_e hv
        refine z_getR hc hB 10 3 g35 eob36 (by decide) (by decide) rfl (z_l1 hc qfX11_36) dX11_deep_26 ?_
        obtain ⟨g37, hv⟩ := y_gd_e hv
        obtain ⟨ob38, eob38, hv⟩ := y_bi_e hv
        refine z_getR hc hB 8 0 g37 eob38 (by decide) (by decide) rfl (z_l2 hc qfX11_106) dX11_deep_29 ?_
        obtain ⟨g39, hv⟩ := y_gd_e hv
        obtain ⟨ob40, eob40, hv⟩ := y_bi_e hv
        refine z_getR hc hB 2 0 g39 eob40 (by decide) (by decide) rfl (z_l2 hc qfX11_109) dX11_deep_32 ?_
        refine lv_astore_n (lv' := [(3, .ref (ad ob40)), (0, .ref (ad o0)), (1, .int x1), (2, .int x2)]) hx hb dX11_deep_35 rfl hl (by decide) rfl (fun ls hl => ?_)
        refine lv_lconst (v := (1 : Int64)) hx hb dX11_deep_36 (by decide) ?_
        refine lv_lstore (lv' := [(4, .long (1 : Int64)), (3, .ref (ad ob40)), (0, .ref (ad o0)), (1, .int x1), (2, .int x2)]) hx hb dX11_deep_37 hl (by decide) rfl (fun ls hl => ?_)
        refine lv_lconst (v := (1 : Int64)) hx hb dX11_deep_39 (by decide) ?_
        refine lv_lstore (lv' := [(6, .long (1 : Int64)), (4, .long (1 : Int64)), (3, .ref (ad ob40)), (0, .ref (ad o0)), (1, .int x1), (2, .int x2)]) hx hb dX11_deep_40 hl (by decide) rfl (fun ls hl => ?_)
        refine lv_iconst (v := (0 : Int32)) hx hb dX11_deep_42 (by decide) ?_
        refine lv_istore (lv' := [(8, .int (0 : Int32)), (6, .long (1 : Int64)), (4, .long (1 : Int64)), (3, .ref (ad ob40)), (0, .ref (ad o0)), (1, .int x1), (2, .int x2)]) hx hb dX11_deep_43 hl (by decide) rfl (fun ls hl => ?_)
        obtain ⟨n, hv⟩ := y_lp_e hv
        exact L45 ob40 n (1 : Int64) (1 : Int64) (0 : Int32) _ _ _ hB (lv_sub hl [5, 6, 3, 2, 1, 0] rfl) _ hv kt
      · replace hv := y_br_t hv c34
        exact b17 _ _ _ hB (lv_sub hl [] rfl) _ hv kt
theorem qmX11_205 : Cond.methodLink RX11 205 yX0_hasTests ∈ z_ws := List.mem_filter.mpr ⟨List.mem_append_right _ (List.mem_of_getElem? (i := 1157) (by decide +kernel)), rfl⟩
theorem qc_X0_hasTests : Cond.code yX0_hasTests cX0_hasTests 2 (some .boolean) ∈ z_ws := List.mem_filter.mpr ⟨List.mem_append_right _ (List.mem_of_getElem? (i := 1160) (by decide +kernel)), rfl⟩
theorem qi_X0_hasTests : Cond.instanceMethod yX0_hasTests ∈ z_ws := List.mem_filter.mpr ⟨List.mem_append_right _ (List.mem_of_getElem? (i := 1158) (by decide +kernel)), rfl⟩
theorem qs_X0_hasTests : Cond.selects RX0 yX0_hasTests yX0_hasTests ∈ z_ws := List.mem_filter.mpr ⟨List.mem_append_right _ (List.mem_of_getElem? (i := 1159) (by decide +kernel)), rfl⟩
theorem md_X0_hasTests : z_mdV yX0_hasTests cX0_hasTests 2 (some .boolean) 1 := ⟨⟨qn_RX0, qc_X0_hasTests, ⟨by decide +kernel, by decide +kernel, by decide +kernel⟩⟩, qi_X0_hasTests, qs_X0_hasTests⟩
theorem dX11_error_0 : decode cX11_error 0 = .ok (.aload_n 0, 1) := by decide +kernel
theorem dX11_error_1 : decode cX11_error 1 = .ok (.getfield 36, 3) := by decide +kernel
theorem dX11_error_4 : decode cX11_error 4 = .ok (.getfield 106, 3) := by decide +kernel
theorem dX11_error_7 : decode cX11_error 7 = .ok (.getfield 109, 3) := by decide +kernel
theorem dX11_error_10 : decode cX11_error 10 = .ok (.astore_n 3, 1) := by decide +kernel
theorem dX11_error_11 : decode cX11_error 11 = .ok (.aload_n 3, 1) := by decide +kernel
theorem dX11_error_12 : decode cX11_error 12 = .ok (.iload_n 1, 1) := by decide +kernel
theorem dX11_error_13 : decode cX11_error 13 = .ok (.invokevirtual 205, 3) := by decide +kernel
theorem dX11_error_16 : decode cX11_error 16 = .ok (.ifCond .eq 18, 3) := by decide +kernel
theorem dX11_error_19 : decode cX11_error 19 = .ok (.iload_n 1, 1) := by decide +kernel
theorem dX11_error_20 : decode cX11_error 20 = .ok (.invokestatic 197, 3) := by decide +kernel
theorem dX11_error_23 : decode cX11_error 23 = .ok (.iconst 5, 1) := by decide +kernel
theorem dX11_error_24 : decode cX11_error 24 = .ok (.if_icmp .gt 10, 3) := by decide +kernel
theorem dX11_error_27 : decode cX11_error 27 = .ok (.iload_n 2, 1) := by decide +kernel
theorem dX11_error_28 : decode cX11_error 28 = .ok (.invokestatic 133, 3) := by decide +kernel
theorem dX11_error_31 : decode cX11_error 31 = .ok (.ifCond .ne 11, 3) := by decide +kernel
theorem dX11_error_34 : decode cX11_error 34 = .ok (.new 173, 3) := by decide +kernel
theorem dX11_error_37 : decode cX11_error 37 = .ok (.dup, 1) := by decide +kernel
theorem dX11_error_38 : decode cX11_error 38 = .ok (.invokespecial 175, 3) := by decide +kernel
theorem dX11_error_41 : decode cX11_error 41 = .ok (.athrow, 1) := by decide +kernel
theorem dX11_error_42 : decode cX11_error 42 = .ok (.aload_n 3, 1) := by decide +kernel
theorem dX11_error_43 : decode cX11_error 43 = .ok (.iload_n 1, 1) := by decide +kernel
theorem dX11_error_44 : decode cX11_error 44 = .ok (.invokevirtual 208, 3) := by decide +kernel
theorem dX11_error_47 : decode cX11_error 47 = .ok (.aload_n 3, 1) := by decide +kernel
theorem dX11_error_48 : decode cX11_error 48 = .ok (.invokevirtual 211, 3) := by decide +kernel
theorem dX11_error_51 : decode cX11_error 51 = .ok (.i2l, 1) := by decide +kernel
theorem dX11_error_52 : decode cX11_error 52 = .ok (.iload_n 1, 1) := by decide +kernel
theorem dX11_error_53 : decode cX11_error 53 = .ok (.invokestatic 197, 3) := by decide +kernel
theorem dX11_error_56 : decode cX11_error 56 = .ok (.invokestatic 214, 3) := by decide +kernel
theorem dX11_error_59 : decode cX11_error 59 = .ok (.lmul, 1) := by decide +kernel
theorem dX11_error_60 : decode cX11_error 60 = .ok (.iload_n 2, 1) := by decide +kernel
theorem dX11_error_61 : decode cX11_error 61 = .ok (.invokestatic 183, 3) := by decide +kernel
theorem dX11_error_64 : decode cX11_error 64 = .ok (.lreturn, 1) := by decide +kernel
abbrev rm_X11_error : Room := { frames := 6, cells := 1, slots := 6, locals := 100 }
noncomputable def fX11_error_b34  (h : z_T) : Option (Option Int64) :=
  some none
noncomputable def fX11_error (o0 : Nat) (x1 : Int32) (x2 : Int32) (h : z_T) : Option (Option Int64) :=
  y_gd (z_ok h o0 10) <|
  y_bi (z_R h o0 3) fun ob2 =>
  y_gd (z_ok h ob2 8) <|
  y_bi (z_R h ob2 0) fun ob4 =>
  y_gd (z_ok h ob4 2) <|
  y_bi (z_R h ob4 0) fun ob6 =>
  y_gd (z_ok h ob6 0) <|
  y_bi (fX0_hasTests ob6 x1 h) fun r8 =>
  y_br (r8 = 0)
    (fX11_error_b34 h)
    (y_bi (fJ6_bitCount_0f7a4 x1) fun r15 =>
    y_br ((5 : Int32) < r15)
      (fX11_error_b34 h)
      (y_bi (fX11_isSide x2) fun r21 =>
      y_br (r21 = 0)
        (fX11_error_b34 h)
        (y_bi (fX0_mistakes ob6 x1 h) fun r28 =>
        y_bi (fX0_allWeights ob6 h) fun r32 =>
        y_bi (fJ6_bitCount_0f7a4 x1) fun r37 =>
        y_bi (fX11_power r37) fun r43 =>
        y_bi (fX11_fraction r28 ((r32).toInt64 * r43) x2) fun r48 =>
        some (some r48))))
set_option maxHeartbeats 4000000 in
set_option maxRecDepth 100000 in
theorem mm_X11_error {G : z_Gt} (hSK : z_SK (z_S G)) (l : Launch) (hfl : l.stackTraces = false) (ad : Nat → Nat) (o0 : Nat) (x1 : Int32) (x2 : Int32) (h : z_T) {r0 : Option Int64} (hv : fX11_error o0 x1 x2 h = some r0) : z_Tl G (z_S G) l yX11_error cX11_error 4 rm_X11_error [.ref (ad o0), .int x1, .int x2] ad h h r0 := by
  refine z_ofT hSK (by decide) (Nat.le_of_ble_eq_true rfl) ?_
  intro p e s m args below meth c ls hc hr ht hs0 hB hl
  have hx := hc.1.1
  have hb := hc.1.2.1
  have hown := hc.1.2.2.2.1
  have hts := hc.1.2.2.2.2
  replace hc : z_C G (z_S G) ad (z_n h) p m c cX11_error 4 s args RX11 meth := hc
  replace hown : s.vm.findClass RX11 = some m.cls := hown
  replace hl : lv_has ls 4 [(0, .ref (ad o0)), (1, .int x1), (2, .int x2)] := hl
  show W p l e rm_X11_error s m args below meth c s.heap [] 0 0 (vx_MQ below (z_Qt G ad h (z_n h) s.heap.size r0) (z_Xt G ad h (z_n h) s.heap.size r0) args s 1 6 (z_A ad (z_n h) s.heap.size)) (F0 m 0 ls [])
  obtain ⟨rs, kt⟩ : ∃ rs : Option Int64, rs = r0 := ⟨_, rfl⟩
  generalize hn0 : z_n h = n0 at hc hB ⊢
  have b34 : ∀ (H : Heap) (locs : List Loc) (ls : Array Slot), z_B G ad n0 s h H locs → lv_has ls 4 [] → ∀ w, fX11_error_b34 h = some w → w = r0 → W p l e rm_X11_error s m args below meth c H locs 0 0 (vx_MQ below (z_Qt G ad h n0 s.heap.size r0) (z_Xt G ad h n0 s.heap.size r0) args s 1 6 (z_A ad n0 s.heap.size)) (F0 m 34 ls []) := by
    intro H locs ls hB hl w hv kb
    replace hv := Option.some.inj hv
    subst hv
    rw [← kb]
    exact z_throw hc hB hfl ht hs0 ql_throw qn_throw hl.1 dX11_error_34 dX11_error_37 dX11_error_38 dX11_error_41 ⟨by decide, by decide, by decide, by decide⟩
  rw [← kt] at hv
  refine lv_aload_n hx hb dX11_error_0 rfl (lv_at hl 0 rfl) ?_
  obtain ⟨g1, hv⟩ := y_gd_e hv
  obtain ⟨ob2, eob2, hv⟩ := y_bi_e hv
  refine z_getR hc hB 10 3 g1 eob2 (by decide) (by decide) rfl (z_l1 hc qfX11_36) dX11_error_1 ?_
  obtain ⟨g3, hv⟩ := y_gd_e hv
  obtain ⟨ob4, eob4, hv⟩ := y_bi_e hv
  refine z_getR hc hB 8 0 g3 eob4 (by decide) (by decide) rfl (z_l2 hc qfX11_106) dX11_error_4 ?_
  obtain ⟨g5, hv⟩ := y_gd_e hv
  obtain ⟨ob6, eob6, hv⟩ := y_bi_e hv
  refine z_getR hc hB 2 0 g5 eob6 (by decide) (by decide) rfl (z_l2 hc qfX11_109) dX11_error_7 ?_
  refine lv_astore_n (lv' := [(3, .ref (ad ob6)), (0, .ref (ad o0)), (1, .int x1), (2, .int x2)]) hx hb dX11_error_10 rfl hl (by decide) rfl (fun ls hl => ?_)
  refine lv_aload_n hx hb dX11_error_11 rfl (lv_at hl 0 rfl) ?_
  refine lv_iload_n hx hb dX11_error_12 rfl (lv_at hl 2 rfl) ?_
  obtain ⟨g12, hv⟩ := y_gd_e hv
  obtain ⟨r8, c7, hv⟩ := y_bi_e hv
  refine z_thI hc hB (z_runV hc hB 0 (mm_X0_hasTests hSK l ad ob6 x1 h c7) md_X0_hasTests qmX11_205 g12 (by decide) rfl rfl rfl ⟨Nat.le_of_ble_eq_true rfl, Nat.le_of_ble_eq_true rfl⟩ rfl hl.1 rfl (Nat.le_of_ble_eq_true rfl) dX11_error_13 ⟨Nat.le_of_ble_eq_true rfl, Nat.le_of_ble_eq_true rfl⟩) (fun H locs hB => ?_)
  refine lv_if_eq (tgt := 34) hx hb dX11_error_16 (by decide) (fun c13 => ?_) (fun c13 => ?_)
  · replace hv := y_br_t hv c13
    exact b34 _ _ _ hB (lv_sub hl [] rfl) _ hv kt
  · replace hv := y_br_f hv c13
    refine lv_iload_n hx hb dX11_error_19 rfl (lv_at hl 2 rfl) ?_
    obtain ⟨r15, c14, hv⟩ := y_bi_e hv
    refine z_thI hc hB (z_runS hc hB (mm_J6_bitCount_0f7a4 hSK l ad x1 h c14) md_J6_bitCount_0f7a4 qmX11_197 rfl rfl ⟨Nat.le_of_ble_eq_true rfl, Nat.le_of_ble_eq_true rfl⟩ rfl hl.1 rfl (Nat.le_of_ble_eq_true rfl) dX11_error_20 ⟨Nat.le_of_ble_eq_true rfl, Nat.le_of_ble_eq_true rfl⟩) (fun H locs hB => ?_)
    refine lv_iconst (v := (5 : Int32)) hx hb dX11_error_23 (by decide) ?_
    refine lv_icmp_gt (tgt := 34) hx hb dX11_error_24 (by decide) (fun c19 => ?_) (fun c19 => ?_)
    · replace hv := y_br_t hv c19
      exact b34 _ _ _ hB (lv_sub hl [] rfl) _ hv kt
    · replace hv := y_br_f hv c19
      refine lv_iload_n hx hb dX11_error_27 rfl (lv_at hl 3 rfl) ?_
      obtain ⟨r21, c20, hv⟩ := y_bi_e hv
      refine z_thI hc hB (z_runS hc hB (mm_X11_isSide hSK l ad x2 h c20) md_X11_isSide qmX11_133 rfl rfl ⟨Nat.le_of_ble_eq_true rfl, Nat.le_of_ble_eq_true rfl⟩ rfl hl.1 rfl (Nat.le_of_ble_eq_true rfl) dX11_error_28 ⟨Nat.le_of_ble_eq_true rfl, Nat.le_of_ble_eq_true rfl⟩) (fun H locs hB => ?_)
      refine lv_if_ne (tgt := 42) hx hb dX11_error_31 (by decide) (fun c25 => ?_) (fun c25 => ?_)
      · replace hv := y_br_f hv c25
        refine lv_aload_n hx hb dX11_error_42 rfl (lv_at hl 0 rfl) ?_
        refine lv_iload_n hx hb dX11_error_43 rfl (lv_at hl 2 rfl) ?_
        obtain ⟨r28, c26, hv⟩ := y_bi_e hv
        refine z_thL hc hB (z_runV hc hB 0 (mm_X0_mistakes hSK l ad ob6 x1 h c26) md_X0_mistakes qmX11_208 g12 (by decide) rfl rfl rfl ⟨Nat.le_of_ble_eq_true rfl, Nat.le_of_ble_eq_true rfl⟩ rfl hl.1 rfl (Nat.le_of_ble_eq_true rfl) dX11_error_44 ⟨Nat.le_of_ble_eq_true rfl, Nat.le_of_ble_eq_true rfl⟩) (fun H locs hB => ?_)
        refine lv_aload_n hx hb dX11_error_47 rfl (lv_at hl 0 rfl) ?_
        obtain ⟨r32, c31, hv⟩ := y_bi_e hv
        refine z_thI hc hB (z_runV hc hB 0 (mm_X0_allWeights hSK l ad ob6 h c31) md_X0_allWeights qmX11_211 g12 (by decide) rfl rfl rfl ⟨Nat.le_of_ble_eq_true rfl, Nat.le_of_ble_eq_true rfl⟩ rfl hl.1 rfl (Nat.le_of_ble_eq_true rfl) dX11_error_48 ⟨Nat.le_of_ble_eq_true rfl, Nat.le_of_ble_eq_true rfl⟩) (fun H locs hB => ?_)
        refine lv_i2l hx hb dX11_error_51 rfl ?_
        refine lv_iload_n hx hb dX11_error_52 rfl (lv_at hl 2 rfl) ?_
        obtain ⟨r37, c36, hv⟩ := y_bi_e hv
        refine z_thI hc hB (z_runS hc hB (mm_J6_bitCount_0f7a4 hSK l ad x1 h c36) md_J6_bitCount_0f7a4 qmX11_197 rfl rfl ⟨Nat.le_of_ble_eq_true rfl, Nat.le_of_ble_eq_true rfl⟩ rfl hl.1 rfl (Nat.le_of_ble_eq_true rfl) dX11_error_53 ⟨Nat.le_of_ble_eq_true rfl, Nat.le_of_ble_eq_true rfl⟩) (fun H locs hB => ?_)
        obtain ⟨r43, c41, hv⟩ := y_bi_e hv
        refine z_thL hc hB (z_runS hc hB (mm_X11_power hSK l ad r37 h c41) md_X11_power qmX11_214 rfl rfl ⟨Nat.le_of_ble_eq_true rfl, Nat.le_of_ble_eq_true rfl⟩ rfl hl.1 rfl (Nat.le_of_ble_eq_true rfl) dX11_error_56 ⟨Nat.le_of_ble_eq_true rfl, Nat.le_of_ble_eq_true rfl⟩) (fun H locs hB => ?_)
        refine lv_lmul hx hb dX11_error_59 ?_
        refine lv_iload_n hx hb dX11_error_60 rfl (lv_at hl 3 rfl) ?_
        obtain ⟨r48, c46, hv⟩ := y_bi_e hv
        refine z_thL hc hB (z_runS hc hB (mm_X11_fraction hSK l ad r28 ((r32).toInt64 * r43) x2 h c46) md_X11_fraction qmX11_183 rfl rfl ⟨Nat.le_of_ble_eq_true rfl, Nat.le_of_ble_eq_true rfl⟩ rfl hl.1 rfl (Nat.le_of_ble_eq_true rfl) dX11_error_61 ⟨Nat.le_of_ble_eq_true rfl, Nat.le_of_ble_eq_true rfl⟩) (fun H locs hB => ?_)
        replace hv := Option.some.inj hv
        subst hv
        rw [← kt]
        exact z_tret hc hB hr dX11_error_64
      · replace hv := y_br_t hv c25
        exact b34 _ _ _ hB (lv_sub hl [] rfl) _ hv kt
theorem qmX11_272 : Cond.methodLink RX11 272 yX0_chanceOf ∈ z_ws := List.mem_filter.mpr ⟨List.mem_append_right _ (List.mem_of_getElem? (i := 1237) (by decide +kernel)), rfl⟩
theorem dX11_fails_0 : decode cX11_fails 0 = .ok (.aload_n 0, 1) := by decide +kernel
theorem dX11_fails_1 : decode cX11_fails 1 = .ok (.getfield 36, 3) := by decide +kernel
theorem dX11_fails_4 : decode cX11_fails 4 = .ok (.getfield 106, 3) := by decide +kernel
theorem dX11_fails_7 : decode cX11_fails 7 = .ok (.getfield 109, 3) := by decide +kernel
theorem dX11_fails_10 : decode cX11_fails 10 = .ok (.astore_n 3, 1) := by decide +kernel
theorem dX11_fails_11 : decode cX11_fails 11 = .ok (.aload_n 3, 1) := by decide +kernel
theorem dX11_fails_12 : decode cX11_fails 12 = .ok (.iload_n 1, 1) := by decide +kernel
theorem dX11_fails_13 : decode cX11_fails 13 = .ok (.invokevirtual 205, 3) := by decide +kernel
theorem dX11_fails_16 : decode cX11_fails 16 = .ok (.ifCond .eq 10, 3) := by decide +kernel
theorem dX11_fails_19 : decode cX11_fails 19 = .ok (.iload_n 2, 1) := by decide +kernel
theorem dX11_fails_20 : decode cX11_fails 20 = .ok (.invokestatic 133, 3) := by decide +kernel
theorem dX11_fails_23 : decode cX11_fails 23 = .ok (.ifCond .ne 11, 3) := by decide +kernel
theorem dX11_fails_26 : decode cX11_fails 26 = .ok (.new 173, 3) := by decide +kernel
theorem dX11_fails_29 : decode cX11_fails 29 = .ok (.dup, 1) := by decide +kernel
theorem dX11_fails_30 : decode cX11_fails 30 = .ok (.invokespecial 175, 3) := by decide +kernel
theorem dX11_fails_33 : decode cX11_fails 33 = .ok (.athrow, 1) := by decide +kernel
theorem dX11_fails_34 : decode cX11_fails 34 = .ok (.iload_n 1, 1) := by decide +kernel
theorem dX11_fails_35 : decode cX11_fails 35 = .ok (.invokestatic 197, 3) := by decide +kernel
theorem dX11_fails_38 : decode cX11_fails 38 = .ok (.invokestatic 214, 3) := by decide +kernel
theorem dX11_fails_41 : decode cX11_fails 41 = .ok (.lstore 4, 2) := by decide +kernel
theorem dX11_fails_43 : decode cX11_fails 43 = .ok (.lload 4, 2) := by decide +kernel
theorem dX11_fails_45 : decode cX11_fails 45 = .ok (.aload_n 3, 1) := by decide +kernel
theorem dX11_fails_46 : decode cX11_fails 46 = .ok (.iconst 0, 1) := by decide +kernel
theorem dX11_fails_47 : decode cX11_fails 47 = .ok (.iload_n 1, 1) := by decide +kernel
theorem dX11_fails_48 : decode cX11_fails 48 = .ok (.iload_n 1, 1) := by decide +kernel
theorem dX11_fails_49 : decode cX11_fails 49 = .ok (.invokevirtual 272, 3) := by decide +kernel
theorem dX11_fails_52 : decode cX11_fails 52 = .ok (.lsub, 1) := by decide +kernel
theorem dX11_fails_53 : decode cX11_fails 53 = .ok (.lload 4, 2) := by decide +kernel
theorem dX11_fails_55 : decode cX11_fails 55 = .ok (.iload_n 2, 1) := by decide +kernel
theorem dX11_fails_56 : decode cX11_fails 56 = .ok (.invokestatic 183, 3) := by decide +kernel
theorem dX11_fails_59 : decode cX11_fails 59 = .ok (.lreturn, 1) := by decide +kernel
abbrev rm_X11_fails : Room := { frames := 6, cells := 1, slots := 6, locals := 81 }
noncomputable def fX11_fails_b26  (h : z_T) : Option (Option Int64) :=
  some none
noncomputable def fX11_fails (o0 : Nat) (x1 : Int32) (x2 : Int32) (h : z_T) : Option (Option Int64) :=
  y_gd (z_ok h o0 10) <|
  y_bi (z_R h o0 3) fun ob2 =>
  y_gd (z_ok h ob2 8) <|
  y_bi (z_R h ob2 0) fun ob4 =>
  y_gd (z_ok h ob4 2) <|
  y_bi (z_R h ob4 0) fun ob6 =>
  y_gd (z_ok h ob6 0) <|
  y_bi (fX0_hasTests ob6 x1 h) fun r8 =>
  y_br (r8 = 0)
    (fX11_fails_b26 h)
    (y_bi (fX11_isSide x2) fun r15 =>
    y_br (r15 = 0)
      (fX11_fails_b26 h)
      (y_bi (fJ6_bitCount_0f7a4 x1) fun r21 =>
      y_bi (fX11_power r21) fun r27 =>
      y_bi (fX0_chanceOf ob6 (0 : Int32) x1 x1 h) fun r32 =>
      y_bi (fX11_fraction (r27 - r32) r27 x2) fun r37 =>
      some (some r37)))
set_option maxHeartbeats 4000000 in
set_option maxRecDepth 100000 in
theorem mm_X11_fails {G : z_Gt} (hSK : z_SK (z_S G)) (l : Launch) (hfl : l.stackTraces = false) (ad : Nat → Nat) (o0 : Nat) (x1 : Int32) (x2 : Int32) (h : z_T) {r0 : Option Int64} (hv : fX11_fails o0 x1 x2 h = some r0) : z_Tl G (z_S G) l yX11_fails cX11_fails 6 rm_X11_fails [.ref (ad o0), .int x1, .int x2] ad h h r0 := by
  refine z_ofT hSK (by decide) (Nat.le_of_ble_eq_true rfl) ?_
  intro p e s m args below meth c ls hc hr ht hs0 hB hl
  have hx := hc.1.1
  have hb := hc.1.2.1
  have hown := hc.1.2.2.2.1
  have hts := hc.1.2.2.2.2
  replace hc : z_C G (z_S G) ad (z_n h) p m c cX11_fails 6 s args RX11 meth := hc
  replace hown : s.vm.findClass RX11 = some m.cls := hown
  replace hl : lv_has ls 6 [(0, .ref (ad o0)), (1, .int x1), (2, .int x2)] := hl
  show W p l e rm_X11_fails s m args below meth c s.heap [] 0 0 (vx_MQ below (z_Qt G ad h (z_n h) s.heap.size r0) (z_Xt G ad h (z_n h) s.heap.size r0) args s 1 6 (z_A ad (z_n h) s.heap.size)) (F0 m 0 ls [])
  obtain ⟨rs, kt⟩ : ∃ rs : Option Int64, rs = r0 := ⟨_, rfl⟩
  generalize hn0 : z_n h = n0 at hc hB ⊢
  have b26 : ∀ (H : Heap) (locs : List Loc) (ls : Array Slot), z_B G ad n0 s h H locs → lv_has ls 6 [] → ∀ w, fX11_fails_b26 h = some w → w = r0 → W p l e rm_X11_fails s m args below meth c H locs 0 0 (vx_MQ below (z_Qt G ad h n0 s.heap.size r0) (z_Xt G ad h n0 s.heap.size r0) args s 1 6 (z_A ad n0 s.heap.size)) (F0 m 26 ls []) := by
    intro H locs ls hB hl w hv kb
    replace hv := Option.some.inj hv
    subst hv
    rw [← kb]
    exact z_throw hc hB hfl ht hs0 ql_throw qn_throw hl.1 dX11_fails_26 dX11_fails_29 dX11_fails_30 dX11_fails_33 ⟨by decide, by decide, by decide, by decide⟩
  rw [← kt] at hv
  refine lv_aload_n hx hb dX11_fails_0 rfl (lv_at hl 0 rfl) ?_
  obtain ⟨g1, hv⟩ := y_gd_e hv
  obtain ⟨ob2, eob2, hv⟩ := y_bi_e hv
  refine z_getR hc hB 10 3 g1 eob2 (by decide) (by decide) rfl (z_l1 hc qfX11_36) dX11_fails_1 ?_
  obtain ⟨g3, hv⟩ := y_gd_e hv
  obtain ⟨ob4, eob4, hv⟩ := y_bi_e hv
  refine z_getR hc hB 8 0 g3 eob4 (by decide) (by decide) rfl (z_l2 hc qfX11_106) dX11_fails_4 ?_
  obtain ⟨g5, hv⟩ := y_gd_e hv
  obtain ⟨ob6, eob6, hv⟩ := y_bi_e hv
  refine z_getR hc hB 2 0 g5 eob6 (by decide) (by decide) rfl (z_l2 hc qfX11_109) dX11_fails_7 ?_
  refine lv_astore_n (lv' := [(3, .ref (ad ob6)), (0, .ref (ad o0)), (1, .int x1), (2, .int x2)]) hx hb dX11_fails_10 rfl hl (by decide) rfl (fun ls hl => ?_)
  refine lv_aload_n hx hb dX11_fails_11 rfl (lv_at hl 0 rfl) ?_
  refine lv_iload_n hx hb dX11_fails_12 rfl (lv_at hl 2 rfl) ?_
  obtain ⟨g12, hv⟩ := y_gd_e hv
  obtain ⟨r8, c7, hv⟩ := y_bi_e hv
  refine z_thI hc hB (z_runV hc hB 0 (mm_X0_hasTests hSK l ad ob6 x1 h c7) md_X0_hasTests qmX11_205 g12 (by decide) rfl rfl rfl ⟨Nat.le_of_ble_eq_true rfl, Nat.le_of_ble_eq_true rfl⟩ rfl hl.1 rfl (Nat.le_of_ble_eq_true rfl) dX11_fails_13 ⟨Nat.le_of_ble_eq_true rfl, Nat.le_of_ble_eq_true rfl⟩) (fun H locs hB => ?_)
  refine lv_if_eq (tgt := 26) hx hb dX11_fails_16 (by decide) (fun c13 => ?_) (fun c13 => ?_)
  · replace hv := y_br_t hv c13
    exact b26 _ _ _ hB (lv_sub hl [] rfl) _ hv kt
  · replace hv := y_br_f hv c13
    refine lv_iload_n hx hb dX11_fails_19 rfl (lv_at hl 3 rfl) ?_
    obtain ⟨r15, c14, hv⟩ := y_bi_e hv
    refine z_thI hc hB (z_runS hc hB (mm_X11_isSide hSK l ad x2 h c14) md_X11_isSide qmX11_133 rfl rfl ⟨Nat.le_of_ble_eq_true rfl, Nat.le_of_ble_eq_true rfl⟩ rfl hl.1 rfl (Nat.le_of_ble_eq_true rfl) dX11_fails_20 ⟨Nat.le_of_ble_eq_true rfl, Nat.le_of_ble_eq_true rfl⟩) (fun H locs hB => ?_)
    refine lv_if_ne (tgt := 34) hx hb dX11_fails_23 (by decide) (fun c19 => ?_) (fun c19 => ?_)
    · replace hv := y_br_f hv c19
      refine lv_iload_n hx hb dX11_fails_34 rfl (lv_at hl 2 rfl) ?_
      obtain ⟨r21, c20, hv⟩ := y_bi_e hv
      refine z_thI hc hB (z_runS hc hB (mm_J6_bitCount_0f7a4 hSK l ad x1 h c20) md_J6_bitCount_0f7a4 qmX11_197 rfl rfl ⟨Nat.le_of_ble_eq_true rfl, Nat.le_of_ble_eq_true rfl⟩ rfl hl.1 rfl (Nat.le_of_ble_eq_true rfl) dX11_fails_35 ⟨Nat.le_of_ble_eq_true rfl, Nat.le_of_ble_eq_true rfl⟩) (fun H locs hB => ?_)
      obtain ⟨r27, c25, hv⟩ := y_bi_e hv
      refine z_thL hc hB (z_runS hc hB (mm_X11_power hSK l ad r21 h c25) md_X11_power qmX11_214 rfl rfl ⟨Nat.le_of_ble_eq_true rfl, Nat.le_of_ble_eq_true rfl⟩ rfl hl.1 rfl (Nat.le_of_ble_eq_true rfl) dX11_fails_38 ⟨Nat.le_of_ble_eq_true rfl, Nat.le_of_ble_eq_true rfl⟩) (fun H locs hB => ?_)
      refine lv_lstore (lv' := [(4, .long r27), (3, .ref (ad ob6)), (0, .ref (ad o0)), (1, .int x1), (2, .int x2)]) hx hb dX11_fails_41 hl (by decide) rfl (fun ls hl => ?_)
      refine lv_lload hx hb dX11_fails_43 (lv_at hl 0 rfl) ?_
      refine lv_aload_n hx hb dX11_fails_45 rfl (lv_at hl 1 rfl) ?_
      refine lv_iconst (v := (0 : Int32)) hx hb dX11_fails_46 (by decide) ?_
      refine lv_iload_n hx hb dX11_fails_47 rfl (lv_at hl 3 rfl) ?_
      refine lv_iload_n hx hb dX11_fails_48 rfl (lv_at hl 3 rfl) ?_
      obtain ⟨r32, c30, hv⟩ := y_bi_e hv
      refine z_thL hc hB (z_runV hc hB 0 (mm_X0_chanceOf hSK l ad ob6 (0 : Int32) x1 x1 h c30) md_X0_chanceOf qmX11_272 g12 (by decide) rfl rfl rfl ⟨Nat.le_of_ble_eq_true rfl, Nat.le_of_ble_eq_true rfl⟩ rfl hl.1 rfl (Nat.le_of_ble_eq_true rfl) dX11_fails_49 ⟨Nat.le_of_ble_eq_true rfl, Nat.le_of_ble_eq_true rfl⟩) (fun H locs hB => ?_)
      refine lv_lsub hx hb dX11_fails_52 ?_
      refine lv_lload hx hb dX11_fails_53 (lv_at hl 0 rfl) ?_
      refine lv_iload_n hx hb dX11_fails_55 rfl (lv_at hl 4 rfl) ?_
      obtain ⟨r37, c35, hv⟩ := y_bi_e hv
      refine z_thL hc hB (z_runS hc hB (mm_X11_fraction hSK l ad (r27 - r32) r27 x2 h c35) md_X11_fraction qmX11_183 rfl rfl ⟨Nat.le_of_ble_eq_true rfl, Nat.le_of_ble_eq_true rfl⟩ rfl hl.1 rfl (Nat.le_of_ble_eq_true rfl) dX11_fails_56 ⟨Nat.le_of_ble_eq_true rfl, Nat.le_of_ble_eq_true rfl⟩) (fun H locs hB => ?_)
      replace hv := Option.some.inj hv
      subst hv
      rw [← kt]
      exact z_tret hc hB hr dX11_fails_59
    · replace hv := y_br_t hv c19
      exact b26 _ _ _ hB (lv_sub hl [] rfl) _ hv kt
theorem qmX11_259 : Cond.methodLink RX11 259 yX0_askedByLot ∈ z_ws := List.mem_filter.mpr ⟨List.mem_append_right _ (List.mem_of_getElem? (i := 1207) (by decide +kernel)), rfl⟩
theorem qc_X0_askedByLot : Cond.code yX0_askedByLot cX0_askedByLot 8 (some .int) ∈ z_ws := List.mem_filter.mpr ⟨List.mem_append_right _ (List.mem_of_getElem? (i := 1210) (by decide +kernel)), rfl⟩
theorem qi_X0_askedByLot : Cond.instanceMethod yX0_askedByLot ∈ z_ws := List.mem_filter.mpr ⟨List.mem_append_right _ (List.mem_of_getElem? (i := 1208) (by decide +kernel)), rfl⟩
theorem qs_X0_askedByLot : Cond.selects RX0 yX0_askedByLot yX0_askedByLot ∈ z_ws := List.mem_filter.mpr ⟨List.mem_append_right _ (List.mem_of_getElem? (i := 1209) (by decide +kernel)), rfl⟩
theorem md_X0_askedByLot : z_mdV yX0_askedByLot cX0_askedByLot 8 (some .int) 0 := ⟨⟨qn_RX0, qc_X0_askedByLot, ⟨by decide +kernel, by decide +kernel, by decide +kernel⟩⟩, qi_X0_askedByLot, qs_X0_askedByLot⟩
theorem qkX11_262 : Cond.constantLong RX11 262 (2520 : Int64) ∈ z_ws := List.mem_filter.mpr ⟨List.mem_append_right _ (List.mem_of_getElem? (i := 1221) (by decide +kernel)), rfl⟩
theorem qmX11_266 : Cond.methodLink RX11 266 yX0_lotsOf ∈ z_ws := List.mem_filter.mpr ⟨List.mem_append_right _ (List.mem_of_getElem? (i := 1222) (by decide +kernel)), rfl⟩
theorem dX11_lot_0 : decode cX11_lot 0 = .ok (.aload_n 0, 1) := by decide +kernel
theorem dX11_lot_1 : decode cX11_lot 1 = .ok (.getfield 36, 3) := by decide +kernel
theorem dX11_lot_4 : decode cX11_lot 4 = .ok (.getfield 106, 3) := by decide +kernel
theorem dX11_lot_7 : decode cX11_lot 7 = .ok (.getfield 109, 3) := by decide +kernel
theorem dX11_lot_10 : decode cX11_lot 10 = .ok (.astore_n 2, 1) := by decide +kernel
theorem dX11_lot_11 : decode cX11_lot 11 = .ok (.aload_n 2, 1) := by decide +kernel
theorem dX11_lot_12 : decode cX11_lot 12 = .ok (.invokevirtual 259, 3) := by decide +kernel
theorem dX11_lot_15 : decode cX11_lot 15 = .ok (.istore_n 3, 1) := by decide +kernel
theorem dX11_lot_16 : decode cX11_lot 16 = .ok (.iload_n 3, 1) := by decide +kernel
theorem dX11_lot_17 : decode cX11_lot 17 = .ok (.ifCond .eq 10, 3) := by decide +kernel
theorem dX11_lot_20 : decode cX11_lot 20 = .ok (.iload_n 1, 1) := by decide +kernel
theorem dX11_lot_21 : decode cX11_lot 21 = .ok (.invokestatic 133, 3) := by decide +kernel
theorem dX11_lot_24 : decode cX11_lot 24 = .ok (.ifCond .ne 11, 3) := by decide +kernel
theorem dX11_lot_27 : decode cX11_lot 27 = .ok (.new 173, 3) := by decide +kernel
theorem dX11_lot_30 : decode cX11_lot 30 = .ok (.dup, 1) := by decide +kernel
theorem dX11_lot_31 : decode cX11_lot 31 = .ok (.invokespecial 175, 3) := by decide +kernel
theorem dX11_lot_34 : decode cX11_lot 34 = .ok (.athrow, 1) := by decide +kernel
theorem dX11_lot_35 : decode cX11_lot 35 = .ok (.iload_n 3, 1) := by decide +kernel
theorem dX11_lot_36 : decode cX11_lot 36 = .ok (.invokestatic 197, 3) := by decide +kernel
theorem dX11_lot_39 : decode cX11_lot 39 = .ok (.iconst 1, 1) := by decide +kernel
theorem dX11_lot_40 : decode cX11_lot 40 = .ok (.isub, 1) := by decide +kernel
theorem dX11_lot_41 : decode cX11_lot 41 = .ok (.i2l, 1) := by decide +kernel
theorem dX11_lot_42 : decode cX11_lot 42 = .ok (.lstore 4, 2) := by decide +kernel
theorem dX11_lot_44 : decode cX11_lot 44 = .ok (.lload 4, 2) := by decide +kernel
theorem dX11_lot_46 : decode cX11_lot 46 = .ok (.ldc2_w 262, 3) := by decide +kernel
theorem dX11_lot_49 : decode cX11_lot 49 = .ok (.lmul, 1) := by decide +kernel
theorem dX11_lot_50 : decode cX11_lot 50 = .ok (.ldc2_w 264, 3) := by decide +kernel
theorem dX11_lot_53 : decode cX11_lot 53 = .ok (.aload_n 2, 1) := by decide +kernel
theorem dX11_lot_54 : decode cX11_lot 54 = .ok (.iload_n 3, 1) := by decide +kernel
theorem dX11_lot_55 : decode cX11_lot 55 = .ok (.invokevirtual 266, 3) := by decide +kernel
theorem dX11_lot_58 : decode cX11_lot 58 = .ok (.lmul, 1) := by decide +kernel
theorem dX11_lot_59 : decode cX11_lot 59 = .ok (.iload_n 1, 1) := by decide +kernel
theorem dX11_lot_60 : decode cX11_lot 60 = .ok (.invokestatic 183, 3) := by decide +kernel
theorem dX11_lot_63 : decode cX11_lot 63 = .ok (.lreturn, 1) := by decide +kernel
abbrev rm_X11_lot : Room := { frames := 6, cells := 1, slots := 6, locals := 81 }
noncomputable def fX11_lot_b27  (h : z_T) : Option (Option Int64) :=
  some none
noncomputable def fX11_lot (o0 : Nat) (x1 : Int32) (h : z_T) : Option (Option Int64) :=
  y_gd (z_ok h o0 10) <|
  y_bi (z_R h o0 3) fun ob2 =>
  y_gd (z_ok h ob2 8) <|
  y_bi (z_R h ob2 0) fun ob4 =>
  y_gd (z_ok h ob4 2) <|
  y_bi (z_R h ob4 0) fun ob6 =>
  y_gd (z_ok h ob6 0) <|
  y_bi (fX0_askedByLot ob6 h) fun r8 =>
  y_br (r8 = 0)
    (fX11_lot_b27 h)
    (y_bi (fX11_isSide x1) fun r15 =>
    y_br (r15 = 0)
      (fX11_lot_b27 h)
      (y_bi (fJ6_bitCount_0f7a4 r8) fun r21 =>
      y_nm (((r21 - (1 : Int32))).toInt64) fun v25 =>
      y_bi (fX0_lotsOf ob6 r8 h) fun r28 =>
      y_bi (fX11_fraction (v25 * (2520 : Int64)) ((9 : Int64) * r28) x1) fun r33 =>
      some (some r33)))
set_option maxHeartbeats 4000000 in
set_option maxRecDepth 100000 in
theorem mm_X11_lot {G : z_Gt} (hSK : z_SK (z_S G)) (l : Launch) (hfl : l.stackTraces = false) (ad : Nat → Nat) (o0 : Nat) (x1 : Int32) (h : z_T) {r0 : Option Int64} (hv : fX11_lot o0 x1 h = some r0) : z_Tl G (z_S G) l yX11_lot cX11_lot 6 rm_X11_lot [.ref (ad o0), .int x1] ad h h r0 := by
  refine z_ofT hSK (by decide) (Nat.le_of_ble_eq_true rfl) ?_
  intro p e s m args below meth c ls hc hr ht hs0 hB hl
  have hx := hc.1.1
  have hb := hc.1.2.1
  have hown := hc.1.2.2.2.1
  have hts := hc.1.2.2.2.2
  replace hc : z_C G (z_S G) ad (z_n h) p m c cX11_lot 6 s args RX11 meth := hc
  replace hown : s.vm.findClass RX11 = some m.cls := hown
  replace hl : lv_has ls 6 [(0, .ref (ad o0)), (1, .int x1)] := hl
  show W p l e rm_X11_lot s m args below meth c s.heap [] 0 0 (vx_MQ below (z_Qt G ad h (z_n h) s.heap.size r0) (z_Xt G ad h (z_n h) s.heap.size r0) args s 1 6 (z_A ad (z_n h) s.heap.size)) (F0 m 0 ls [])
  obtain ⟨rs, kt⟩ : ∃ rs : Option Int64, rs = r0 := ⟨_, rfl⟩
  generalize hn0 : z_n h = n0 at hc hB ⊢
  have b27 : ∀ (H : Heap) (locs : List Loc) (ls : Array Slot), z_B G ad n0 s h H locs → lv_has ls 6 [] → ∀ w, fX11_lot_b27 h = some w → w = r0 → W p l e rm_X11_lot s m args below meth c H locs 0 0 (vx_MQ below (z_Qt G ad h n0 s.heap.size r0) (z_Xt G ad h n0 s.heap.size r0) args s 1 6 (z_A ad n0 s.heap.size)) (F0 m 27 ls []) := by
    intro H locs ls hB hl w hv kb
    replace hv := Option.some.inj hv
    subst hv
    rw [← kb]
    exact z_throw hc hB hfl ht hs0 ql_throw qn_throw hl.1 dX11_lot_27 dX11_lot_30 dX11_lot_31 dX11_lot_34 ⟨by decide, by decide, by decide, by decide⟩
  rw [← kt] at hv
  refine lv_aload_n hx hb dX11_lot_0 rfl (lv_at hl 0 rfl) ?_
  obtain ⟨g1, hv⟩ := y_gd_e hv
  obtain ⟨ob2, eob2, hv⟩ := y_bi_e hv
  refine z_getR hc hB 10 3 g1 eob2 (by decide) (by decide) rfl (z_l1 hc qfX11_36) dX11_lot_1 ?_
  obtain ⟨g3, hv⟩ := y_gd_e hv
  obtain ⟨ob4, eob4, hv⟩ := y_bi_e hv
  refine z_getR hc hB 8 0 g3 eob4 (by decide) (by decide) rfl (z_l2 hc qfX11_106) dX11_lot_4 ?_
  obtain ⟨g5, hv⟩ := y_gd_e hv
  obtain ⟨ob6, eob6, hv⟩ := y_bi_e hv
  refine z_getR hc hB 2 0 g5 eob6 (by decide) (by decide) rfl (z_l2 hc qfX11_109) dX11_lot_7 ?_
  refine lv_astore_n (lv' := [(2, .ref (ad ob6)), (0, .ref (ad o0)), (1, .int x1)]) hx hb dX11_lot_10 rfl hl (by decide) rfl (fun ls hl => ?_)
  refine lv_aload_n hx hb dX11_lot_11 rfl (lv_at hl 0 rfl) ?_
  obtain ⟨g12, hv⟩ := y_gd_e hv
  obtain ⟨r8, c7, hv⟩ := y_bi_e hv
  refine z_thI hc hB (z_runV hc hB 0 (mm_X0_askedByLot hSK l ad ob6 h c7) md_X0_askedByLot qmX11_259 g12 (by decide) rfl rfl rfl ⟨Nat.le_of_ble_eq_true rfl, Nat.le_of_ble_eq_true rfl⟩ rfl hl.1 rfl (Nat.le_of_ble_eq_true rfl) dX11_lot_12 ⟨Nat.le_of_ble_eq_true rfl, Nat.le_of_ble_eq_true rfl⟩) (fun H locs hB => ?_)
  refine lv_istore_n (lv' := [(3, .int r8), (2, .ref (ad ob6)), (0, .ref (ad o0)), (1, .int x1)]) hx hb dX11_lot_15 rfl hl (by decide) rfl (fun ls hl => ?_)
  refine lv_iload_n hx hb dX11_lot_16 rfl (lv_at hl 0 rfl) ?_
  refine lv_if_eq (tgt := 27) hx hb dX11_lot_17 (by decide) (fun c13 => ?_) (fun c13 => ?_)
  · replace hv := y_br_t hv c13
    exact b27 _ _ _ hB (lv_sub hl [] rfl) _ hv kt
  · replace hv := y_br_f hv c13
    refine lv_iload_n hx hb dX11_lot_20 rfl (lv_at hl 3 rfl) ?_
    obtain ⟨r15, c14, hv⟩ := y_bi_e hv
    refine z_thI hc hB (z_runS hc hB (mm_X11_isSide hSK l ad x1 h c14) md_X11_isSide qmX11_133 rfl rfl ⟨Nat.le_of_ble_eq_true rfl, Nat.le_of_ble_eq_true rfl⟩ rfl hl.1 rfl (Nat.le_of_ble_eq_true rfl) dX11_lot_21 ⟨Nat.le_of_ble_eq_true rfl, Nat.le_of_ble_eq_true rfl⟩) (fun H locs hB => ?_)
    refine lv_if_ne (tgt := 35) hx hb dX11_lot_24 (by decide) (fun c19 => ?_) (fun c19 => ?_)
    · replace hv := y_br_f hv c19
      refine lv_iload_n hx hb dX11_lot_35 rfl (lv_at hl 0 rfl) ?_
      obtain ⟨r21, c20, hv⟩ := y_bi_e hv
      refine z_thI hc hB (z_runS hc hB (mm_J6_bitCount_0f7a4 hSK l ad r8 h c20) md_J6_bitCount_0f7a4 qmX11_197 rfl rfl ⟨Nat.le_of_ble_eq_true rfl, Nat.le_of_ble_eq_true rfl⟩ rfl hl.1 rfl (Nat.le_of_ble_eq_true rfl) dX11_lot_36 ⟨Nat.le_of_ble_eq_true rfl, Nat.le_of_ble_eq_true rfl⟩) (fun H locs hB => ?_)
      refine lv_iconst (v := (1 : Int32)) hx hb dX11_lot_39 (by decide) ?_
      refine lv_isub hx hb dX11_lot_40 ?_
      refine lv_i2l hx hb dX11_lot_41 rfl ?_
      obtain ⟨v25, ev25, hv⟩ := y_nm_e hv
      rw [← ev25]
      refine lv_lstore (lv' := [(4, .long v25), (3, .int r8), (2, .ref (ad ob6)), (0, .ref (ad o0)), (1, .int x1)]) hx hb dX11_lot_42 hl (by decide) rfl (fun ls hl => ?_)
      refine lv_lload hx hb dX11_lot_44 (lv_at hl 0 rfl) ?_
      refine lv_ldc2 (v := (2520 : Int64)) hx hb hown (hts _ qkX11_262) dX11_lot_46 ?_
      refine lv_lmul hx hb dX11_lot_49 ?_
      refine lv_ldc2 (v := (9 : Int64)) hx hb hown (hts _ qkX11_264) dX11_lot_50 ?_
      refine lv_aload_n hx hb dX11_lot_53 rfl (lv_at hl 2 rfl) ?_
      refine lv_iload_n hx hb dX11_lot_54 rfl (lv_at hl 1 rfl) ?_
      obtain ⟨r28, c26, hv⟩ := y_bi_e hv
      refine z_thL hc hB (z_runV hc hB 0 (mm_X0_lotsOf hSK l ad ob6 r8 h c26) md_X0_lotsOf qmX11_266 g12 (by decide) rfl rfl rfl ⟨Nat.le_of_ble_eq_true rfl, Nat.le_of_ble_eq_true rfl⟩ rfl hl.1 rfl (Nat.le_of_ble_eq_true rfl) dX11_lot_55 ⟨Nat.le_of_ble_eq_true rfl, Nat.le_of_ble_eq_true rfl⟩) (fun H locs hB => ?_)
      refine lv_lmul hx hb dX11_lot_58 ?_
      refine lv_iload_n hx hb dX11_lot_59 rfl (lv_at hl 4 rfl) ?_
      obtain ⟨r33, c31, hv⟩ := y_bi_e hv
      refine z_thL hc hB (z_runS hc hB (mm_X11_fraction hSK l ad (v25 * (2520 : Int64)) ((9 : Int64) * r28) x1 h c31) md_X11_fraction qmX11_183 rfl rfl ⟨Nat.le_of_ble_eq_true rfl, Nat.le_of_ble_eq_true rfl⟩ rfl hl.1 rfl (Nat.le_of_ble_eq_true rfl) dX11_lot_60 ⟨Nat.le_of_ble_eq_true rfl, Nat.le_of_ble_eq_true rfl⟩) (fun H locs hB => ?_)
      replace hv := Option.some.inj hv
      subst hv
      rw [← kt]
      exact z_tret hc hB hr dX11_lot_63
    · replace hv := y_br_t hv c19
      exact b27 _ _ _ hB (lv_sub hl [] rfl) _ hv kt
theorem dX11_odds_0 : decode cX11_odds 0 = .ok (.aload_n 0, 1) := by decide +kernel
theorem dX11_odds_1 : decode cX11_odds 1 = .ok (.getfield 36, 3) := by decide +kernel
theorem dX11_odds_4 : decode cX11_odds 4 = .ok (.getfield 106, 3) := by decide +kernel
theorem dX11_odds_7 : decode cX11_odds 7 = .ok (.getfield 109, 3) := by decide +kernel
theorem dX11_odds_10 : decode cX11_odds 10 = .ok (.iload_n 1, 1) := by decide +kernel
theorem dX11_odds_11 : decode cX11_odds 11 = .ok (.invokevirtual 130, 3) := by decide +kernel
theorem dX11_odds_14 : decode cX11_odds 14 = .ok (.ifCond .eq 10, 3) := by decide +kernel
theorem dX11_odds_17 : decode cX11_odds 17 = .ok (.iload_n 2, 1) := by decide +kernel
theorem dX11_odds_18 : decode cX11_odds 18 = .ok (.invokestatic 133, 3) := by decide +kernel
theorem dX11_odds_21 : decode cX11_odds 21 = .ok (.ifCond .ne 11, 3) := by decide +kernel
theorem dX11_odds_24 : decode cX11_odds 24 = .ok (.new 173, 3) := by decide +kernel
theorem dX11_odds_27 : decode cX11_odds 27 = .ok (.dup, 1) := by decide +kernel
theorem dX11_odds_28 : decode cX11_odds 28 = .ok (.invokespecial 175, 3) := by decide +kernel
theorem dX11_odds_31 : decode cX11_odds 31 = .ok (.athrow, 1) := by decide +kernel
theorem dX11_odds_32 : decode cX11_odds 32 = .ok (.aload_n 0, 1) := by decide +kernel
theorem dX11_odds_33 : decode cX11_odds 33 = .ok (.getfield 36, 3) := by decide +kernel
theorem dX11_odds_36 : decode cX11_odds 36 = .ok (.getfield 106, 3) := by decide +kernel
theorem dX11_odds_39 : decode cX11_odds 39 = .ok (.iload_n 1, 1) := by decide +kernel
theorem dX11_odds_40 : decode cX11_odds 40 = .ok (.iconst 1, 1) := by decide +kernel
theorem dX11_odds_41 : decode cX11_odds 41 = .ok (.iadd, 1) := by decide +kernel
theorem dX11_odds_42 : decode cX11_odds 42 = .ok (.invokevirtual 187, 3) := by decide +kernel
theorem dX11_odds_45 : decode cX11_odds 45 = .ok (.aload_n 0, 1) := by decide +kernel
theorem dX11_odds_46 : decode cX11_odds 46 = .ok (.getfield 36, 3) := by decide +kernel
theorem dX11_odds_49 : decode cX11_odds 49 = .ok (.getfield 106, 3) := by decide +kernel
theorem dX11_odds_52 : decode cX11_odds 52 = .ok (.invokevirtual 180, 3) := by decide +kernel
theorem dX11_odds_55 : decode cX11_odds 55 = .ok (.iload_n 2, 1) := by decide +kernel
theorem dX11_odds_56 : decode cX11_odds 56 = .ok (.invokestatic 183, 3) := by decide +kernel
theorem dX11_odds_59 : decode cX11_odds 59 = .ok (.lreturn, 1) := by decide +kernel
abbrev rm_X11_odds : Room := { frames := 6, cells := 1, slots := 6, locals := 81 }
noncomputable def fX11_odds_b24  (h : z_T) : Option (Option Int64) :=
  some none
noncomputable def fX11_odds (o0 : Nat) (x1 : Int32) (x2 : Int32) (h : z_T) : Option (Option Int64) :=
  y_gd (z_ok h o0 10) <|
  y_bi (z_R h o0 3) fun o2 =>
  y_gd (z_ok h o2 8) <|
  y_bi (z_R h o2 0) fun o4 =>
  y_gd (z_ok h o4 2) <|
  y_bi (z_R h o4 0) fun o6 =>
  y_gd (z_ok h o6 0) <|
  y_bi (fX0_hasDream o6 x1 h) fun r8 =>
  y_br (r8 = 0)
    (fX11_odds_b24 h)
    (y_bi (fX11_isSide x2) fun r15 =>
    y_br (r15 = 0)
      (fX11_odds_b24 h)
      (y_bi (fX2_ofPlace o4 (x1 + (1 : Int32)) h) fun r22 =>
      y_bi (fX2_ofAll o4 h) fun r27 =>
      y_bi (fX11_fraction r22 r27 x2) fun r32 =>
      some (some r32)))
set_option maxHeartbeats 4000000 in
set_option maxRecDepth 100000 in
theorem mm_X11_odds {G : z_Gt} (hSK : z_SK (z_S G)) (l : Launch) (hfl : l.stackTraces = false) (ad : Nat → Nat) (o0 : Nat) (x1 : Int32) (x2 : Int32) (h : z_T) {r0 : Option Int64} (hv : fX11_odds o0 x1 x2 h = some r0) : z_Tl G (z_S G) l yX11_odds cX11_odds 3 rm_X11_odds [.ref (ad o0), .int x1, .int x2] ad h h r0 := by
  refine z_ofT hSK (by decide) (Nat.le_of_ble_eq_true rfl) ?_
  intro p e s m args below meth c ls hc hr ht hs0 hB hl
  have hx := hc.1.1
  have hb := hc.1.2.1
  have hown := hc.1.2.2.2.1
  have hts := hc.1.2.2.2.2
  replace hc : z_C G (z_S G) ad (z_n h) p m c cX11_odds 3 s args RX11 meth := hc
  replace hown : s.vm.findClass RX11 = some m.cls := hown
  replace hl : lv_has ls 3 [(0, .ref (ad o0)), (1, .int x1), (2, .int x2)] := hl
  show W p l e rm_X11_odds s m args below meth c s.heap [] 0 0 (vx_MQ below (z_Qt G ad h (z_n h) s.heap.size r0) (z_Xt G ad h (z_n h) s.heap.size r0) args s 1 6 (z_A ad (z_n h) s.heap.size)) (F0 m 0 ls [])
  obtain ⟨rs, kt⟩ : ∃ rs : Option Int64, rs = r0 := ⟨_, rfl⟩
  generalize hn0 : z_n h = n0 at hc hB ⊢
  have b24 : ∀ (H : Heap) (locs : List Loc) (ls : Array Slot), z_B G ad n0 s h H locs → lv_has ls 3 [] → ∀ w, fX11_odds_b24 h = some w → w = r0 → W p l e rm_X11_odds s m args below meth c H locs 0 0 (vx_MQ below (z_Qt G ad h n0 s.heap.size r0) (z_Xt G ad h n0 s.heap.size r0) args s 1 6 (z_A ad n0 s.heap.size)) (F0 m 24 ls []) := by
    intro H locs ls hB hl w hv kb
    replace hv := Option.some.inj hv
    subst hv
    rw [← kb]
    exact z_throw hc hB hfl ht hs0 ql_throw qn_throw hl.1 dX11_odds_24 dX11_odds_27 dX11_odds_28 dX11_odds_31 ⟨by decide, by decide, by decide, by decide⟩
  rw [← kt] at hv
  refine lv_aload_n hx hb dX11_odds_0 rfl (lv_at hl 0 rfl) ?_
  obtain ⟨g1, hv⟩ := y_gd_e hv
  obtain ⟨o2, eo2, hv⟩ := y_bi_e hv
  refine z_getR hc hB 10 3 g1 eo2 (by decide) (by decide) rfl (z_l1 hc qfX11_36) dX11_odds_1 ?_
  obtain ⟨g3, hv⟩ := y_gd_e hv
  obtain ⟨o4, eo4, hv⟩ := y_bi_e hv
  refine z_getR hc hB 8 0 g3 eo4 (by decide) (by decide) rfl (z_l2 hc qfX11_106) dX11_odds_4 ?_
  obtain ⟨g5, hv⟩ := y_gd_e hv
  obtain ⟨o6, eo6, hv⟩ := y_bi_e hv
  refine z_getR hc hB 2 0 g5 eo6 (by decide) (by decide) rfl (z_l2 hc qfX11_109) dX11_odds_7 ?_
  refine lv_iload_n hx hb dX11_odds_10 rfl (lv_at hl 1 rfl) ?_
  obtain ⟨g12, hv⟩ := y_gd_e hv
  obtain ⟨r8, c7, hv⟩ := y_bi_e hv
  refine z_thI hc hB (z_runV hc hB 0 (mm_X0_hasDream hSK l ad o6 x1 h c7) md_X0_hasDream qmX11_130 g12 (by decide) rfl rfl rfl ⟨Nat.le_of_ble_eq_true rfl, Nat.le_of_ble_eq_true rfl⟩ rfl hl.1 rfl (Nat.le_of_ble_eq_true rfl) dX11_odds_11 ⟨Nat.le_of_ble_eq_true rfl, Nat.le_of_ble_eq_true rfl⟩) (fun H locs hB => ?_)
  refine lv_if_eq (tgt := 24) hx hb dX11_odds_14 (by decide) (fun c13 => ?_) (fun c13 => ?_)
  · replace hv := y_br_t hv c13
    exact b24 _ _ _ hB (lv_sub hl [] rfl) _ hv kt
  · replace hv := y_br_f hv c13
    refine lv_iload_n hx hb dX11_odds_17 rfl (lv_at hl 2 rfl) ?_
    obtain ⟨r15, c14, hv⟩ := y_bi_e hv
    refine z_thI hc hB (z_runS hc hB (mm_X11_isSide hSK l ad x2 h c14) md_X11_isSide qmX11_133 rfl rfl ⟨Nat.le_of_ble_eq_true rfl, Nat.le_of_ble_eq_true rfl⟩ rfl hl.1 rfl (Nat.le_of_ble_eq_true rfl) dX11_odds_18 ⟨Nat.le_of_ble_eq_true rfl, Nat.le_of_ble_eq_true rfl⟩) (fun H locs hB => ?_)
    refine lv_if_ne (tgt := 32) hx hb dX11_odds_21 (by decide) (fun c19 => ?_) (fun c19 => ?_)
    · replace hv := y_br_f hv c19
      refine lv_aload_n hx hb dX11_odds_32 rfl (lv_at hl 0 rfl) ?_
      refine z_getR hc hB 10 3 g1 eo2 (by decide) (by decide) rfl (z_l1 hc qfX11_36) dX11_odds_33 ?_
      refine z_getR hc hB 8 0 g3 eo4 (by decide) (by decide) rfl (z_l2 hc qfX11_106) dX11_odds_36 ?_
      refine lv_iload_n hx hb dX11_odds_39 rfl (lv_at hl 1 rfl) ?_
      refine lv_iconst (v := (1 : Int32)) hx hb dX11_odds_40 (by decide) ?_
      refine lv_iadd hx hb dX11_odds_41 ?_
      obtain ⟨r22, c20, hv⟩ := y_bi_e hv
      refine z_thL hc hB (z_runV hc hB 2 (mm_X2_ofPlace hSK l ad o4 (x1 + (1 : Int32)) h c20) md_X2_ofPlace qmX11_187 g5 (by decide) rfl rfl rfl ⟨Nat.le_of_ble_eq_true rfl, Nat.le_of_ble_eq_true rfl⟩ rfl hl.1 rfl (Nat.le_of_ble_eq_true rfl) dX11_odds_42 ⟨Nat.le_of_ble_eq_true rfl, Nat.le_of_ble_eq_true rfl⟩) (fun H locs hB => ?_)
      refine lv_aload_n hx hb dX11_odds_45 rfl (lv_at hl 0 rfl) ?_
      refine z_getR hc hB 10 3 g1 eo2 (by decide) (by decide) rfl (z_l1 hc qfX11_36) dX11_odds_46 ?_
      refine z_getR hc hB 8 0 g3 eo4 (by decide) (by decide) rfl (z_l2 hc qfX11_106) dX11_odds_49 ?_
      obtain ⟨r27, c25, hv⟩ := y_bi_e hv
      refine z_thL hc hB (z_runV hc hB 2 (mm_X2_ofAll hSK l ad o4 h c25) md_X2_ofAll qmX11_180 g5 (by decide) rfl rfl rfl ⟨Nat.le_of_ble_eq_true rfl, Nat.le_of_ble_eq_true rfl⟩ rfl hl.1 rfl (Nat.le_of_ble_eq_true rfl) dX11_odds_52 ⟨Nat.le_of_ble_eq_true rfl, Nat.le_of_ble_eq_true rfl⟩) (fun H locs hB => ?_)
      refine lv_iload_n hx hb dX11_odds_55 rfl (lv_at hl 2 rfl) ?_
      obtain ⟨r32, c30, hv⟩ := y_bi_e hv
      refine z_thL hc hB (z_runS hc hB (mm_X11_fraction hSK l ad r22 r27 x2 h c30) md_X11_fraction qmX11_183 rfl rfl ⟨Nat.le_of_ble_eq_true rfl, Nat.le_of_ble_eq_true rfl⟩ rfl hl.1 rfl (Nat.le_of_ble_eq_true rfl) dX11_odds_56 ⟨Nat.le_of_ble_eq_true rfl, Nat.le_of_ble_eq_true rfl⟩) (fun H locs hB => ?_)
      replace hv := Option.some.inj hv
      subst hv
      rw [← kt]
      exact z_tret hc hB hr dX11_odds_59
    · replace hv := y_br_t hv c19
      exact b24 _ _ _ hB (lv_sub hl [] rfl) _ hv kt
theorem dX11_share_0 : decode cX11_share 0 = .ok (.aload_n 0, 1) := by decide +kernel
theorem dX11_share_1 : decode cX11_share 1 = .ok (.getfield 36, 3) := by decide +kernel
theorem dX11_share_4 : decode cX11_share 4 = .ok (.getfield 106, 3) := by decide +kernel
theorem dX11_share_7 : decode cX11_share 7 = .ok (.getfield 109, 3) := by decide +kernel
theorem dX11_share_10 : decode cX11_share 10 = .ok (.astore_n 3, 1) := by decide +kernel
theorem dX11_share_11 : decode cX11_share 11 = .ok (.aload_n 3, 1) := by decide +kernel
theorem dX11_share_12 : decode cX11_share 12 = .ok (.invokevirtual 259, 3) := by decide +kernel
theorem dX11_share_15 : decode cX11_share 15 = .ok (.istore 4, 2) := by decide +kernel
theorem dX11_share_17 : decode cX11_share 17 = .ok (.iload 4, 2) := by decide +kernel
theorem dX11_share_19 : decode cX11_share 19 = .ok (.ifCond .eq 18, 3) := by decide +kernel
theorem dX11_share_22 : decode cX11_share 22 = .ok (.aload_n 3, 1) := by decide +kernel
theorem dX11_share_23 : decode cX11_share 23 = .ok (.iload_n 1, 1) := by decide +kernel
theorem dX11_share_24 : decode cX11_share 24 = .ok (.invokevirtual 113, 3) := by decide +kernel
theorem dX11_share_27 : decode cX11_share 27 = .ok (.ifCond .eq 10, 3) := by decide +kernel
theorem dX11_share_30 : decode cX11_share 30 = .ok (.iload_n 2, 1) := by decide +kernel
theorem dX11_share_31 : decode cX11_share 31 = .ok (.invokestatic 133, 3) := by decide +kernel
theorem dX11_share_34 : decode cX11_share 34 = .ok (.ifCond .ne 11, 3) := by decide +kernel
theorem dX11_share_37 : decode cX11_share 37 = .ok (.new 173, 3) := by decide +kernel
theorem dX11_share_40 : decode cX11_share 40 = .ok (.dup, 1) := by decide +kernel
theorem dX11_share_41 : decode cX11_share 41 = .ok (.invokespecial 175, 3) := by decide +kernel
theorem dX11_share_44 : decode cX11_share 44 = .ok (.athrow, 1) := by decide +kernel
theorem dX11_share_45 : decode cX11_share 45 = .ok (.aload_n 3, 1) := by decide +kernel
theorem dX11_share_46 : decode cX11_share 46 = .ok (.iload 4, 2) := by decide +kernel
theorem dX11_share_48 : decode cX11_share 48 = .ok (.iconst 1, 1) := by decide +kernel
theorem dX11_share_49 : decode cX11_share 49 = .ok (.iload_n 1, 1) := by decide +kernel
theorem dX11_share_50 : decode cX11_share 50 = .ok (.ishl, 1) := by decide +kernel
theorem dX11_share_51 : decode cX11_share 51 = .ok (.iand, 1) := by decide +kernel
theorem dX11_share_52 : decode cX11_share 52 = .ok (.invokevirtual 266, 3) := by decide +kernel
theorem dX11_share_55 : decode cX11_share 55 = .ok (.aload_n 3, 1) := by decide +kernel
theorem dX11_share_56 : decode cX11_share 56 = .ok (.iload 4, 2) := by decide +kernel
theorem dX11_share_58 : decode cX11_share 58 = .ok (.invokevirtual 266, 3) := by decide +kernel
theorem dX11_share_61 : decode cX11_share 61 = .ok (.iload_n 2, 1) := by decide +kernel
theorem dX11_share_62 : decode cX11_share 62 = .ok (.invokestatic 183, 3) := by decide +kernel
theorem dX11_share_65 : decode cX11_share 65 = .ok (.lreturn, 1) := by decide +kernel
abbrev rm_X11_share : Room := { frames := 6, cells := 1, slots := 6, locals := 81 }
noncomputable def fX11_share_b37  (h : z_T) : Option (Option Int64) :=
  some none
noncomputable def fX11_share (o0 : Nat) (x1 : Int32) (x2 : Int32) (h : z_T) : Option (Option Int64) :=
  y_gd (z_ok h o0 10) <|
  y_bi (z_R h o0 3) fun ob2 =>
  y_gd (z_ok h ob2 8) <|
  y_bi (z_R h ob2 0) fun ob4 =>
  y_gd (z_ok h ob4 2) <|
  y_bi (z_R h ob4 0) fun ob6 =>
  y_gd (z_ok h ob6 0) <|
  y_bi (fX0_askedByLot ob6 h) fun r8 =>
  y_br (r8 = 0)
    (fX11_share_b37 h)
    (y_bi (fX0_hasTest ob6 x1 h) fun r15 =>
    y_br (r15 = 0)
      (fX11_share_b37 h)
      (y_bi (fX11_isSide x2) fun r21 =>
      y_br (r21 = 0)
        (fX11_share_b37 h)
        (y_bi (fX0_lotsOf ob6 (r8 &&& ((1 : Int32) <<< (x1 &&& 31))) h) fun r28 =>
        y_bi (fX0_lotsOf ob6 r8 h) fun r33 =>
        y_bi (fX11_fraction r28 r33 x2) fun r38 =>
        some (some r38))))
set_option maxHeartbeats 4000000 in
set_option maxRecDepth 100000 in
theorem mm_X11_share {G : z_Gt} (hSK : z_SK (z_S G)) (l : Launch) (hfl : l.stackTraces = false) (ad : Nat → Nat) (o0 : Nat) (x1 : Int32) (x2 : Int32) (h : z_T) {r0 : Option Int64} (hv : fX11_share o0 x1 x2 h = some r0) : z_Tl G (z_S G) l yX11_share cX11_share 5 rm_X11_share [.ref (ad o0), .int x1, .int x2] ad h h r0 := by
  refine z_ofT hSK (by decide) (Nat.le_of_ble_eq_true rfl) ?_
  intro p e s m args below meth c ls hc hr ht hs0 hB hl
  have hx := hc.1.1
  have hb := hc.1.2.1
  have hown := hc.1.2.2.2.1
  have hts := hc.1.2.2.2.2
  replace hc : z_C G (z_S G) ad (z_n h) p m c cX11_share 5 s args RX11 meth := hc
  replace hown : s.vm.findClass RX11 = some m.cls := hown
  replace hl : lv_has ls 5 [(0, .ref (ad o0)), (1, .int x1), (2, .int x2)] := hl
  show W p l e rm_X11_share s m args below meth c s.heap [] 0 0 (vx_MQ below (z_Qt G ad h (z_n h) s.heap.size r0) (z_Xt G ad h (z_n h) s.heap.size r0) args s 1 6 (z_A ad (z_n h) s.heap.size)) (F0 m 0 ls [])
  obtain ⟨rs, kt⟩ : ∃ rs : Option Int64, rs = r0 := ⟨_, rfl⟩
  generalize hn0 : z_n h = n0 at hc hB ⊢
  have b37 : ∀ (H : Heap) (locs : List Loc) (ls : Array Slot), z_B G ad n0 s h H locs → lv_has ls 5 [] → ∀ w, fX11_share_b37 h = some w → w = r0 → W p l e rm_X11_share s m args below meth c H locs 0 0 (vx_MQ below (z_Qt G ad h n0 s.heap.size r0) (z_Xt G ad h n0 s.heap.size r0) args s 1 6 (z_A ad n0 s.heap.size)) (F0 m 37 ls []) := by
    intro H locs ls hB hl w hv kb
    replace hv := Option.some.inj hv
    subst hv
    rw [← kb]
    exact z_throw hc hB hfl ht hs0 ql_throw qn_throw hl.1 dX11_share_37 dX11_share_40 dX11_share_41 dX11_share_44 ⟨by decide, by decide, by decide, by decide⟩
  rw [← kt] at hv
  refine lv_aload_n hx hb dX11_share_0 rfl (lv_at hl 0 rfl) ?_
  obtain ⟨g1, hv⟩ := y_gd_e hv
  obtain ⟨ob2, eob2, hv⟩ := y_bi_e hv
  refine z_getR hc hB 10 3 g1 eob2 (by decide) (by decide) rfl (z_l1 hc qfX11_36) dX11_share_1 ?_
  obtain ⟨g3, hv⟩ := y_gd_e hv
  obtain ⟨ob4, eob4, hv⟩ := y_bi_e hv
  refine z_getR hc hB 8 0 g3 eob4 (by decide) (by decide) rfl (z_l2 hc qfX11_106) dX11_share_4 ?_
  obtain ⟨g5, hv⟩ := y_gd_e hv
  obtain ⟨ob6, eob6, hv⟩ := y_bi_e hv
  refine z_getR hc hB 2 0 g5 eob6 (by decide) (by decide) rfl (z_l2 hc qfX11_109) dX11_share_7 ?_
  refine lv_astore_n (lv' := [(3, .ref (ad ob6)), (0, .ref (ad o0)), (1, .int x1), (2, .int x2)]) hx hb dX11_share_10 rfl hl (by decide) rfl (fun ls hl => ?_)
  refine lv_aload_n hx hb dX11_share_11 rfl (lv_at hl 0 rfl) ?_
  obtain ⟨g12, hv⟩ := y_gd_e hv
  obtain ⟨r8, c7, hv⟩ := y_bi_e hv
  refine z_thI hc hB (z_runV hc hB 0 (mm_X0_askedByLot hSK l ad ob6 h c7) md_X0_askedByLot qmX11_259 g12 (by decide) rfl rfl rfl ⟨Nat.le_of_ble_eq_true rfl, Nat.le_of_ble_eq_true rfl⟩ rfl hl.1 rfl (Nat.le_of_ble_eq_true rfl) dX11_share_12 ⟨Nat.le_of_ble_eq_true rfl, Nat.le_of_ble_eq_true rfl⟩) (fun H locs hB => ?_)
  refine lv_istore (lv' := [(4, .int r8), (3, .ref (ad ob6)), (0, .ref (ad o0)), (1, .int x1), (2, .int x2)]) hx hb dX11_share_15 hl (by decide) rfl (fun ls hl => ?_)
  refine lv_iload hx hb dX11_share_17 (lv_at hl 0 rfl) ?_
  refine lv_if_eq (tgt := 37) hx hb dX11_share_19 (by decide) (fun c13 => ?_) (fun c13 => ?_)
  · replace hv := y_br_t hv c13
    exact b37 _ _ _ hB (lv_sub hl [] rfl) _ hv kt
  · replace hv := y_br_f hv c13
    refine lv_aload_n hx hb dX11_share_22 rfl (lv_at hl 1 rfl) ?_
    refine lv_iload_n hx hb dX11_share_23 rfl (lv_at hl 3 rfl) ?_
    obtain ⟨r15, c14, hv⟩ := y_bi_e hv
    refine z_thI hc hB (z_runV hc hB 0 (mm_X0_hasTest hSK l ad ob6 x1 h c14) md_X0_hasTest qmX11_113 g12 (by decide) rfl rfl rfl ⟨Nat.le_of_ble_eq_true rfl, Nat.le_of_ble_eq_true rfl⟩ rfl hl.1 rfl (Nat.le_of_ble_eq_true rfl) dX11_share_24 ⟨Nat.le_of_ble_eq_true rfl, Nat.le_of_ble_eq_true rfl⟩) (fun H locs hB => ?_)
    refine lv_if_eq (tgt := 37) hx hb dX11_share_27 (by decide) (fun c19 => ?_) (fun c19 => ?_)
    · replace hv := y_br_t hv c19
      exact b37 _ _ _ hB (lv_sub hl [] rfl) _ hv kt
    · replace hv := y_br_f hv c19
      refine lv_iload_n hx hb dX11_share_30 rfl (lv_at hl 4 rfl) ?_
      obtain ⟨r21, c20, hv⟩ := y_bi_e hv
      refine z_thI hc hB (z_runS hc hB (mm_X11_isSide hSK l ad x2 h c20) md_X11_isSide qmX11_133 rfl rfl ⟨Nat.le_of_ble_eq_true rfl, Nat.le_of_ble_eq_true rfl⟩ rfl hl.1 rfl (Nat.le_of_ble_eq_true rfl) dX11_share_31 ⟨Nat.le_of_ble_eq_true rfl, Nat.le_of_ble_eq_true rfl⟩) (fun H locs hB => ?_)
      refine lv_if_ne (tgt := 45) hx hb dX11_share_34 (by decide) (fun c25 => ?_) (fun c25 => ?_)
      · replace hv := y_br_f hv c25
        refine lv_aload_n hx hb dX11_share_45 rfl (lv_at hl 1 rfl) ?_
        refine lv_iload hx hb dX11_share_46 (lv_at hl 0 rfl) ?_
        refine lv_iconst (v := (1 : Int32)) hx hb dX11_share_48 (by decide) ?_
        refine lv_iload_n hx hb dX11_share_49 rfl (lv_at hl 3 rfl) ?_
        refine lv_ishl hx hb dX11_share_50 ?_
        refine lv_iand hx hb dX11_share_51 ?_
        obtain ⟨r28, c26, hv⟩ := y_bi_e hv
        refine z_thL hc hB (z_runV hc hB 0 (mm_X0_lotsOf hSK l ad ob6 (r8 &&& ((1 : Int32) <<< (x1 &&& 31))) h c26) md_X0_lotsOf qmX11_266 g12 (by decide) rfl rfl rfl ⟨Nat.le_of_ble_eq_true rfl, Nat.le_of_ble_eq_true rfl⟩ rfl hl.1 rfl (Nat.le_of_ble_eq_true rfl) dX11_share_52 ⟨Nat.le_of_ble_eq_true rfl, Nat.le_of_ble_eq_true rfl⟩) (fun H locs hB => ?_)
        refine lv_aload_n hx hb dX11_share_55 rfl (lv_at hl 1 rfl) ?_
        refine lv_iload hx hb dX11_share_56 (lv_at hl 0 rfl) ?_
        obtain ⟨r33, c31, hv⟩ := y_bi_e hv
        refine z_thL hc hB (z_runV hc hB 0 (mm_X0_lotsOf hSK l ad ob6 r8 h c31) md_X0_lotsOf qmX11_266 g12 (by decide) rfl rfl rfl ⟨Nat.le_of_ble_eq_true rfl, Nat.le_of_ble_eq_true rfl⟩ rfl hl.1 rfl (Nat.le_of_ble_eq_true rfl) dX11_share_58 ⟨Nat.le_of_ble_eq_true rfl, Nat.le_of_ble_eq_true rfl⟩) (fun H locs hB => ?_)
        refine lv_iload_n hx hb dX11_share_61 rfl (lv_at hl 4 rfl) ?_
        obtain ⟨r38, c36, hv⟩ := y_bi_e hv
        refine z_thL hc hB (z_runS hc hB (mm_X11_fraction hSK l ad r28 r33 x2 h c36) md_X11_fraction qmX11_183 rfl rfl ⟨Nat.le_of_ble_eq_true rfl, Nat.le_of_ble_eq_true rfl⟩ rfl hl.1 rfl (Nat.le_of_ble_eq_true rfl) dX11_share_62 ⟨Nat.le_of_ble_eq_true rfl, Nat.le_of_ble_eq_true rfl⟩) (fun H locs hB => ?_)
        replace hv := Option.some.inj hv
        subst hv
        rw [← kt]
        exact z_tret hc hB hr dX11_share_65
      · replace hv := y_br_t hv c25
        exact b37 _ _ _ hB (lv_sub hl [] rfl) _ hv kt
theorem dX11_sure_0 : decode cX11_sure 0 = .ok (.iload_n 1, 1) := by decide +kernel
theorem dX11_sure_1 : decode cX11_sure 1 = .ok (.invokestatic 133, 3) := by decide +kernel
theorem dX11_sure_4 : decode cX11_sure 4 = .ok (.ifCond .ne 11, 3) := by decide +kernel
theorem dX11_sure_7 : decode cX11_sure 7 = .ok (.new 173, 3) := by decide +kernel
theorem dX11_sure_10 : decode cX11_sure 10 = .ok (.dup, 1) := by decide +kernel
theorem dX11_sure_11 : decode cX11_sure 11 = .ok (.invokespecial 175, 3) := by decide +kernel
theorem dX11_sure_14 : decode cX11_sure 14 = .ok (.athrow, 1) := by decide +kernel
theorem dX11_sure_15 : decode cX11_sure 15 = .ok (.aload_n 0, 1) := by decide +kernel
theorem dX11_sure_16 : decode cX11_sure 16 = .ok (.getfield 36, 3) := by decide +kernel
theorem dX11_sure_19 : decode cX11_sure 19 = .ok (.getfield 106, 3) := by decide +kernel
theorem dX11_sure_22 : decode cX11_sure 22 = .ok (.invokevirtual 176, 3) := by decide +kernel
theorem dX11_sure_25 : decode cX11_sure 25 = .ok (.aload_n 0, 1) := by decide +kernel
theorem dX11_sure_26 : decode cX11_sure 26 = .ok (.getfield 36, 3) := by decide +kernel
theorem dX11_sure_29 : decode cX11_sure 29 = .ok (.getfield 106, 3) := by decide +kernel
theorem dX11_sure_32 : decode cX11_sure 32 = .ok (.invokevirtual 180, 3) := by decide +kernel
theorem dX11_sure_35 : decode cX11_sure 35 = .ok (.iload_n 1, 1) := by decide +kernel
theorem dX11_sure_36 : decode cX11_sure 36 = .ok (.invokestatic 183, 3) := by decide +kernel
theorem dX11_sure_39 : decode cX11_sure 39 = .ok (.lreturn, 1) := by decide +kernel
abbrev rm_X11_sure : Room := { frames := 6, cells := 1, slots := 6, locals := 81 }
noncomputable def fX11_sure (o0 : Nat) (x1 : Int32) (h : z_T) : Option (Option Int64) :=
  y_bi (fX11_isSide x1) fun r2 =>
  y_br (r2 = 0)
    (some none)
    (y_gd (z_ok h o0 10) <|
    y_bi (z_R h o0 3) fun o8 =>
    y_gd (z_ok h o8 8) <|
    y_bi (z_R h o8 0) fun o10 =>
    y_gd (z_ok h o10 2) <|
    y_bi (fX2_ofRoom o10 h) fun r13 =>
    y_bi (fX2_ofAll o10 h) fun r19 =>
    y_bi (fX11_fraction r13 r19 x1) fun r24 =>
    some (some r24))
set_option maxHeartbeats 4000000 in
set_option maxRecDepth 100000 in
theorem mm_X11_sure {G : z_Gt} (hSK : z_SK (z_S G)) (l : Launch) (hfl : l.stackTraces = false) (ad : Nat → Nat) (o0 : Nat) (x1 : Int32) (h : z_T) {r0 : Option Int64} (hv : fX11_sure o0 x1 h = some r0) : z_Tl G (z_S G) l yX11_sure cX11_sure 2 rm_X11_sure [.ref (ad o0), .int x1] ad h h r0 := by
  refine z_ofT hSK (by decide) (Nat.le_of_ble_eq_true rfl) ?_
  intro p e s m args below meth c ls hc hr ht hs0 hB hl
  have hx := hc.1.1
  have hb := hc.1.2.1
  have hown := hc.1.2.2.2.1
  have hts := hc.1.2.2.2.2
  replace hc : z_C G (z_S G) ad (z_n h) p m c cX11_sure 2 s args RX11 meth := hc
  replace hown : s.vm.findClass RX11 = some m.cls := hown
  replace hl : lv_has ls 2 [(0, .ref (ad o0)), (1, .int x1)] := hl
  show W p l e rm_X11_sure s m args below meth c s.heap [] 0 0 (vx_MQ below (z_Qt G ad h (z_n h) s.heap.size r0) (z_Xt G ad h (z_n h) s.heap.size r0) args s 1 6 (z_A ad (z_n h) s.heap.size)) (F0 m 0 ls [])
  obtain ⟨rs, kt⟩ : ∃ rs : Option Int64, rs = r0 := ⟨_, rfl⟩
  generalize hn0 : z_n h = n0 at hc hB ⊢
  rw [← kt] at hv
  refine lv_iload_n hx hb dX11_sure_0 rfl (lv_at hl 1 rfl) ?_
  obtain ⟨r2, c1, hv⟩ := y_bi_e hv
  refine z_thI hc hB (z_runS hc hB (mm_X11_isSide hSK l ad x1 h c1) md_X11_isSide qmX11_133 rfl rfl ⟨Nat.le_of_ble_eq_true rfl, Nat.le_of_ble_eq_true rfl⟩ rfl hl.1 rfl (Nat.le_of_ble_eq_true rfl) dX11_sure_1 ⟨Nat.le_of_ble_eq_true rfl, Nat.le_of_ble_eq_true rfl⟩) (fun H locs hB => ?_)
  refine lv_if_ne (tgt := 15) hx hb dX11_sure_4 (by decide) (fun c6 => ?_) (fun c6 => ?_)
  · replace hv := y_br_f hv c6
    refine lv_aload_n hx hb dX11_sure_15 rfl (lv_at hl 0 rfl) ?_
    obtain ⟨g7, hv⟩ := y_gd_e hv
    obtain ⟨o8, eo8, hv⟩ := y_bi_e hv
    refine z_getR hc hB 10 3 g7 eo8 (by decide) (by decide) rfl (z_l1 hc qfX11_36) dX11_sure_16 ?_
    obtain ⟨g9, hv⟩ := y_gd_e hv
    obtain ⟨o10, eo10, hv⟩ := y_bi_e hv
    refine z_getR hc hB 8 0 g9 eo10 (by decide) (by decide) rfl (z_l2 hc qfX11_106) dX11_sure_19 ?_
    obtain ⟨g16, hv⟩ := y_gd_e hv
    obtain ⟨r13, c11, hv⟩ := y_bi_e hv
    refine z_thL hc hB (z_runV hc hB 2 (mm_X2_ofRoom hSK l ad o10 h c11) md_X2_ofRoom qmX11_176 g16 (by decide) rfl rfl rfl ⟨Nat.le_of_ble_eq_true rfl, Nat.le_of_ble_eq_true rfl⟩ rfl hl.1 rfl (Nat.le_of_ble_eq_true rfl) dX11_sure_22 ⟨Nat.le_of_ble_eq_true rfl, Nat.le_of_ble_eq_true rfl⟩) (fun H locs hB => ?_)
    refine lv_aload_n hx hb dX11_sure_25 rfl (lv_at hl 0 rfl) ?_
    refine z_getR hc hB 10 3 g7 eo8 (by decide) (by decide) rfl (z_l1 hc qfX11_36) dX11_sure_26 ?_
    refine z_getR hc hB 8 0 g9 eo10 (by decide) (by decide) rfl (z_l2 hc qfX11_106) dX11_sure_29 ?_
    obtain ⟨r19, c17, hv⟩ := y_bi_e hv
    refine z_thL hc hB (z_runV hc hB 2 (mm_X2_ofAll hSK l ad o10 h c17) md_X2_ofAll qmX11_180 g16 (by decide) rfl rfl rfl ⟨Nat.le_of_ble_eq_true rfl, Nat.le_of_ble_eq_true rfl⟩ rfl hl.1 rfl (Nat.le_of_ble_eq_true rfl) dX11_sure_32 ⟨Nat.le_of_ble_eq_true rfl, Nat.le_of_ble_eq_true rfl⟩) (fun H locs hB => ?_)
    refine lv_iload_n hx hb dX11_sure_35 rfl (lv_at hl 1 rfl) ?_
    obtain ⟨r24, c22, hv⟩ := y_bi_e hv
    refine z_thL hc hB (z_runS hc hB (mm_X11_fraction hSK l ad r13 r19 x1 h c22) md_X11_fraction qmX11_183 rfl rfl ⟨Nat.le_of_ble_eq_true rfl, Nat.le_of_ble_eq_true rfl⟩ rfl hl.1 rfl (Nat.le_of_ble_eq_true rfl) dX11_sure_36 ⟨Nat.le_of_ble_eq_true rfl, Nat.le_of_ble_eq_true rfl⟩) (fun H locs hB => ?_)
    replace hv := Option.some.inj hv
    subst hv
    rw [← kt]
    exact z_tret hc hB hr dX11_sure_39
  · replace hv := y_br_t hv c6
    replace hv := Option.some.inj hv
    subst hv
    rw [← kt]
    exact z_throw hc hB hfl ht hs0 ql_throw qn_throw hl.1 dX11_sure_7 dX11_sure_10 dX11_sure_11 dX11_sure_14 ⟨by decide, by decide, by decide, by decide⟩
theorem dX11_tells_0 : decode cX11_tells 0 = .ok (.aload_n 0, 1) := by decide +kernel
theorem dX11_tells_1 : decode cX11_tells 1 = .ok (.getfield 36, 3) := by decide +kernel
theorem dX11_tells_4 : decode cX11_tells 4 = .ok (.getfield 106, 3) := by decide +kernel
theorem dX11_tells_7 : decode cX11_tells 7 = .ok (.astore_n 3, 1) := by decide +kernel
theorem dX11_tells_8 : decode cX11_tells 8 = .ok (.aload_n 3, 1) := by decide +kernel
theorem dX11_tells_9 : decode cX11_tells 9 = .ok (.getfield 109, 3) := by decide +kernel
theorem dX11_tells_12 : decode cX11_tells 12 = .ok (.iload_n 1, 1) := by decide +kernel
theorem dX11_tells_13 : decode cX11_tells 13 = .ok (.invokevirtual 113, 3) := by decide +kernel
theorem dX11_tells_16 : decode cX11_tells 16 = .ok (.ifCond .eq 10, 3) := by decide +kernel
theorem dX11_tells_19 : decode cX11_tells 19 = .ok (.iload_n 2, 1) := by decide +kernel
theorem dX11_tells_20 : decode cX11_tells 20 = .ok (.invokestatic 133, 3) := by decide +kernel
theorem dX11_tells_23 : decode cX11_tells 23 = .ok (.ifCond .ne 11, 3) := by decide +kernel
theorem dX11_tells_26 : decode cX11_tells 26 = .ok (.new 173, 3) := by decide +kernel
theorem dX11_tells_29 : decode cX11_tells 29 = .ok (.dup, 1) := by decide +kernel
theorem dX11_tells_30 : decode cX11_tells 30 = .ok (.invokespecial 175, 3) := by decide +kernel
theorem dX11_tells_33 : decode cX11_tells 33 = .ok (.athrow, 1) := by decide +kernel
theorem dX11_tells_34 : decode cX11_tells 34 = .ok (.lconst 0, 1) := by decide +kernel
theorem dX11_tells_35 : decode cX11_tells 35 = .ok (.lstore 4, 2) := by decide +kernel
theorem dX11_tells_37 : decode cX11_tells 37 = .ok (.iconst 0, 1) := by decide +kernel
theorem dX11_tells_38 : decode cX11_tells 38 = .ok (.istore 6, 2) := by decide +kernel
theorem dX11_tells_40 : decode cX11_tells 40 = .ok (.iload 6, 2) := by decide +kernel
theorem dX11_tells_42 : decode cX11_tells 42 = .ok (.bipush 7, 2) := by decide +kernel
theorem dX11_tells_44 : decode cX11_tells 44 = .ok (.if_icmp .ge 29, 3) := by decide +kernel
theorem dX11_tells_47 : decode cX11_tells 47 = .ok (.lload 4, 2) := by decide +kernel
theorem dX11_tells_49 : decode cX11_tells 49 = .ok (.aload_n 3, 1) := by decide +kernel
theorem dX11_tells_50 : decode cX11_tells 50 = .ok (.iload 6, 2) := by decide +kernel
theorem dX11_tells_52 : decode cX11_tells 52 = .ok (.invokevirtual 187, 3) := by decide +kernel
theorem dX11_tells_55 : decode cX11_tells 55 = .ok (.aload_n 3, 1) := by decide +kernel
theorem dX11_tells_56 : decode cX11_tells 56 = .ok (.iload_n 1, 1) := by decide +kernel
theorem dX11_tells_57 : decode cX11_tells 57 = .ok (.iload 6, 2) := by decide +kernel
theorem dX11_tells_59 : decode cX11_tells 59 = .ok (.invokevirtual 142, 3) := by decide +kernel
theorem dX11_tells_62 : decode cX11_tells 62 = .ok (.i2l, 1) := by decide +kernel
theorem dX11_tells_63 : decode cX11_tells 63 = .ok (.lmul, 1) := by decide +kernel
theorem dX11_tells_64 : decode cX11_tells 64 = .ok (.ladd, 1) := by decide +kernel
theorem dX11_tells_65 : decode cX11_tells 65 = .ok (.lstore 4, 2) := by decide +kernel
theorem dX11_tells_67 : decode cX11_tells 67 = .ok (.iinc 6 1, 3) := by decide +kernel
theorem dX11_tells_70 : decode cX11_tells 70 = .ok (.goto (-30), 3) := by decide +kernel
theorem dX11_tells_73 : decode cX11_tells 73 = .ok (.lload 4, 2) := by decide +kernel
theorem dX11_tells_75 : decode cX11_tells 75 = .ok (.aload_n 3, 1) := by decide +kernel
theorem dX11_tells_76 : decode cX11_tells 76 = .ok (.invokevirtual 180, 3) := by decide +kernel
theorem dX11_tells_79 : decode cX11_tells 79 = .ok (.ldc2_w 264, 3) := by decide +kernel
theorem dX11_tells_82 : decode cX11_tells 82 = .ok (.lmul, 1) := by decide +kernel
theorem dX11_tells_83 : decode cX11_tells 83 = .ok (.iload_n 2, 1) := by decide +kernel
theorem dX11_tells_84 : decode cX11_tells 84 = .ok (.invokestatic 183, 3) := by decide +kernel
theorem dX11_tells_87 : decode cX11_tells 87 = .ok (.lreturn, 1) := by decide +kernel
abbrev rm_X11_tells : Room := { frames := 6, cells := 1, slots := 6, locals := 81 }
noncomputable def fX11_tells_b26  (h : z_T) : Option (Option Int64) :=
  some none
noncomputable def fX11_tells_b40_i (x1 : Int32) (x2 : Int32) (o3 : Nat) (h : z_T) (l4 : Int64) (x6 : Int32) : Option ((Int64 × Int32) ⊕ (Option Int64)) :=
  y_br ((7 : Int32) ≤ x6)
    (y_mp <|
    y_gd (z_ok h o3 2) <|
    y_bi (fX2_ofAll o3 h) fun r5 =>
    y_bi (fX11_fraction l4 (r5 * (9 : Int64)) x2) fun r11 =>
    some (some r11))
    (y_gd (z_ok h o3 2) <|
    y_bi (fX2_ofPlace o3 x6 h) fun r16 =>
    y_bi (fX2_chance o3 x1 x6 h) fun r21 =>
    y_nm ((l4 + (r16 * (r21).toInt64))) fun v25 =>
    y_nm (x6 + 1) fun v26 =>
    some (.inl (v25, v26)))
noncomputable def fX11_tells_b40 (x1 : Int32) (x2 : Int32) (o3 : Nat) (l4 : Int64) (x6 : Int32) (h : z_T) : Option (Option Int64) := y_lp (fun q : Int64 × Int32 => fX11_tells_b40_i x1 x2 o3 h q.1 q.2) (l4, x6)
noncomputable def fX11_tells (o0 : Nat) (x1 : Int32) (x2 : Int32) (h : z_T) : Option (Option Int64) :=
  y_gd (z_ok h o0 10) <|
  y_bi (z_R h o0 3) fun ob28 =>
  y_gd (z_ok h ob28 8) <|
  y_bi (z_R h ob28 0) fun ob30 =>
  y_gd (z_ok h ob30 2) <|
  y_bi (z_R h ob30 0) fun ob32 =>
  y_gd (z_ok h ob32 0) <|
  y_bi (fX0_hasTest ob32 x1 h) fun r34 =>
  y_br (r34 = 0)
    (fX11_tells_b26 h)
    (y_bi (fX11_isSide x2) fun r41 =>
    y_br (r41 = 0)
      (fX11_tells_b26 h)
      (fX11_tells_b40 x1 x2 ob30 (0 : Int64) (0 : Int32) h))
set_option maxHeartbeats 4000000 in
set_option maxRecDepth 100000 in
theorem mm_X11_tells {G : z_Gt} (hSK : z_SK (z_S G)) (l : Launch) (hfl : l.stackTraces = false) (ad : Nat → Nat) (o0 : Nat) (x1 : Int32) (x2 : Int32) (h : z_T) {r0 : Option Int64} (hv : fX11_tells o0 x1 x2 h = some r0) : z_Tl G (z_S G) l yX11_tells cX11_tells 7 rm_X11_tells [.ref (ad o0), .int x1, .int x2] ad h h r0 := by
  refine z_ofT hSK (by decide) (Nat.le_of_ble_eq_true rfl) ?_
  intro p e s m args below meth c ls hc hr ht hs0 hB hl
  have hx := hc.1.1
  have hb := hc.1.2.1
  have hown := hc.1.2.2.2.1
  have hts := hc.1.2.2.2.2
  replace hc : z_C G (z_S G) ad (z_n h) p m c cX11_tells 7 s args RX11 meth := hc
  replace hown : s.vm.findClass RX11 = some m.cls := hown
  replace hl : lv_has ls 7 [(0, .ref (ad o0)), (1, .int x1), (2, .int x2)] := hl
  show W p l e rm_X11_tells s m args below meth c s.heap [] 0 0 (vx_MQ below (z_Qt G ad h (z_n h) s.heap.size r0) (z_Xt G ad h (z_n h) s.heap.size r0) args s 1 6 (z_A ad (z_n h) s.heap.size)) (F0 m 0 ls [])
  obtain ⟨rs, kt⟩ : ∃ rs : Option Int64, rs = r0 := ⟨_, rfl⟩
  generalize hn0 : z_n h = n0 at hc hB ⊢
  have b26 : ∀ (H : Heap) (locs : List Loc) (ls : Array Slot), z_B G ad n0 s h H locs → lv_has ls 7 [] → ∀ w, fX11_tells_b26 h = some w → w = r0 → W p l e rm_X11_tells s m args below meth c H locs 0 0 (vx_MQ below (z_Qt G ad h n0 s.heap.size r0) (z_Xt G ad h n0 s.heap.size r0) args s 1 6 (z_A ad n0 s.heap.size)) (F0 m 26 ls []) := by
    intro H locs ls hB hl w hv kb
    replace hv := Option.some.inj hv
    subst hv
    rw [← kb]
    exact z_throw hc hB hfl ht hs0 ql_throw qn_throw hl.1 dX11_tells_26 dX11_tells_29 dX11_tells_30 dX11_tells_33 ⟨by decide, by decide, by decide, by decide⟩
  have L40 : ∀ (o3 : Nat) (nn40 : Nat) (l4 : Int64) (x6 : Int32) (H : Heap) (locs : List Loc) (ls : Array Slot), z_B G ad n0 s h H locs → lv_has ls 7 [(1, .int x1), (2, .int x2), (3, .ref (ad o3)), (4, .long l4), (6, .int x6)] → ∀ vv40, y_lpN (fun q : Int64 × Int32 => fX11_tells_b40_i x1 x2 o3 h q.1 q.2) nn40 (l4, x6) = some vv40 → vv40 = r0 → W p l e rm_X11_tells s m args below meth c H locs 0 0 (vx_MQ below (z_Qt G ad h n0 s.heap.size r0) (z_Xt G ad h n0 s.heap.size r0) args s 1 6 (z_A ad n0 s.heap.size)) (F0 m 40 ls []) := by
    intro o3 nn40
    induction nn40 with
    | zero => intro l4 x6 H locs ls hB hl vv40 hv kv40; exact absurd hv (fun q => y_lpN_0 q)
    | succ nn40 ih40 =>
      intro l4 x6 H locs ls hB hl vv40 hv kv40
      obtain ⟨w, hq, kw40⟩ := y_lpN_e hv
      clear hv
      have hv : fX11_tells_b40_i x1 x2 o3 h l4 x6 = some w := hq
      clear hq
      refine lv_iload hx hb dX11_tells_40 (lv_at hl 4 rfl) ?_
      refine lv_bipush (v := (7 : Int32)) hx hb dX11_tells_42 (by decide) ?_
      refine lv_icmp_ge (tgt := 73) hx hb dX11_tells_44 (by decide) (fun c1 => ?_) (fun c1 => ?_)
      · replace hv := y_br_t hv c1
        obtain ⟨t2, hq, ew⟩ := y_mp_e hv
        clear hv; subst ew
        replace kw40 : t2 = _ := kw40
        subst kw40
        have hv := hq
        clear hq
        refine lv_lload hx hb dX11_tells_73 (lv_at hl 3 rfl) ?_
        refine lv_aload_n hx hb dX11_tells_75 rfl (lv_at hl 2 rfl) ?_
        obtain ⟨g8, hv⟩ := y_gd_e hv
        obtain ⟨r5, c3, hv⟩ := y_bi_e hv
        refine z_thL hc hB (z_runV hc hB 2 (mm_X2_ofAll hSK l ad o3 h c3) md_X2_ofAll qmX11_180 g8 (by decide) rfl rfl rfl ⟨Nat.le_of_ble_eq_true rfl, Nat.le_of_ble_eq_true rfl⟩ rfl hl.1 rfl (Nat.le_of_ble_eq_true rfl) dX11_tells_76 ⟨Nat.le_of_ble_eq_true rfl, Nat.le_of_ble_eq_true rfl⟩) (fun H locs hB => ?_)
        refine lv_ldc2 (v := (9 : Int64)) hx hb hown (hts _ qkX11_264) dX11_tells_79 ?_
        refine lv_lmul hx hb dX11_tells_82 ?_
        refine lv_iload_n hx hb dX11_tells_83 rfl (lv_at hl 1 rfl) ?_
        obtain ⟨r11, c9, hv⟩ := y_bi_e hv
        refine z_thL hc hB (z_runS hc hB (mm_X11_fraction hSK l ad l4 (r5 * (9 : Int64)) x2 h c9) md_X11_fraction qmX11_183 rfl rfl ⟨Nat.le_of_ble_eq_true rfl, Nat.le_of_ble_eq_true rfl⟩ rfl hl.1 rfl (Nat.le_of_ble_eq_true rfl) dX11_tells_84 ⟨Nat.le_of_ble_eq_true rfl, Nat.le_of_ble_eq_true rfl⟩) (fun H locs hB => ?_)
        replace hv := Option.some.inj hv
        subst hv
        rw [← kv40]
        exact z_tret hc hB hr dX11_tells_87
      · replace hv := y_br_f hv c1
        refine lv_lload hx hb dX11_tells_47 (lv_at hl 3 rfl) ?_
        refine lv_aload_n hx hb dX11_tells_49 rfl (lv_at hl 2 rfl) ?_
        refine lv_iload hx hb dX11_tells_50 (lv_at hl 4 rfl) ?_
        obtain ⟨g19, hv⟩ := y_gd_e hv
        obtain ⟨r16, c14, hv⟩ := y_bi_e hv
        refine z_thL hc hB (z_runV hc hB 2 (mm_X2_ofPlace hSK l ad o3 x6 h c14) md_X2_ofPlace qmX11_187 g19 (by decide) rfl rfl rfl ⟨Nat.le_of_ble_eq_true rfl, Nat.le_of_ble_eq_true rfl⟩ rfl hl.1 rfl (Nat.le_of_ble_eq_true rfl) dX11_tells_52 ⟨Nat.le_of_ble_eq_true rfl, Nat.le_of_ble_eq_true rfl⟩) (fun H locs hB => ?_)
        refine lv_aload_n hx hb dX11_tells_55 rfl (lv_at hl 2 rfl) ?_
        refine lv_iload_n hx hb dX11_tells_56 rfl (lv_at hl 0 rfl) ?_
        refine lv_iload hx hb dX11_tells_57 (lv_at hl 4 rfl) ?_
        obtain ⟨r21, c20, hv⟩ := y_bi_e hv
        refine z_thI hc hB (z_runV hc hB 2 (mm_X2_chance hSK l ad o3 x1 x6 h c20) md_X2_chance qmX11_142 g19 (by decide) rfl rfl rfl ⟨Nat.le_of_ble_eq_true rfl, Nat.le_of_ble_eq_true rfl⟩ rfl hl.1 rfl (Nat.le_of_ble_eq_true rfl) dX11_tells_59 ⟨Nat.le_of_ble_eq_true rfl, Nat.le_of_ble_eq_true rfl⟩) (fun H locs hB => ?_)
        refine lv_i2l hx hb dX11_tells_62 rfl ?_
        refine lv_lmul hx hb dX11_tells_63 ?_
        refine lv_ladd hx hb dX11_tells_64 ?_
        obtain ⟨v25, ev25, hv⟩ := y_nm_e hv
        rw [← ev25]
        refine lv_lstore (lv' := [(4, .long v25), (1, .int x1), (2, .int x2), (3, .ref (ad o3)), (6, .int x6)]) hx hb dX11_tells_65 hl (by decide) rfl (fun ls hl => ?_)
        obtain ⟨v26, ev26, hv⟩ := y_nm_e hv
        refine lv_iinc (v := v26) (lv' := [(6, .int v26), (4, .long v25), (1, .int x1), (2, .int x2), (3, .ref (ad o3))]) hx hb dX11_tells_67 hl (k := 4) rfl (by rw [ev26]; rfl) (by decide) rfl (fun ls hl => ?_)
        refine lv_goto (tgt := 40) hx hb dX11_tells_70 (by decide) ?_
        replace hv := Option.some.inj hv
        subst hv
        exact ih40 v25 v26 _ _ _ hB (lv_sub hl [2, 3, 4, 1, 0] rfl) _ kw40 kv40
  rw [← kt] at hv
  refine lv_aload_n hx hb dX11_tells_0 rfl (lv_at hl 0 rfl) ?_
  obtain ⟨g27, hv⟩ := y_gd_e hv
  obtain ⟨ob28, eob28, hv⟩ := y_bi_e hv
  refine z_getR hc hB 10 3 g27 eob28 (by decide) (by decide) rfl (z_l1 hc qfX11_36) dX11_tells_1 ?_
  obtain ⟨g29, hv⟩ := y_gd_e hv
  obtain ⟨ob30, eob30, hv⟩ := y_bi_e hv
  refine z_getR hc hB 8 0 g29 eob30 (by decide) (by decide) rfl (z_l2 hc qfX11_106) dX11_tells_4 ?_
  refine lv_astore_n (lv' := [(3, .ref (ad ob30)), (0, .ref (ad o0)), (1, .int x1), (2, .int x2)]) hx hb dX11_tells_7 rfl hl (by decide) rfl (fun ls hl => ?_)
  refine lv_aload_n hx hb dX11_tells_8 rfl (lv_at hl 0 rfl) ?_
  obtain ⟨g31, hv⟩ := y_gd_e hv
  obtain ⟨ob32, eob32, hv⟩ := y_bi_e hv
  refine z_getR hc hB 2 0 g31 eob32 (by decide) (by decide) rfl (z_l2 hc qfX11_109) dX11_tells_9 ?_
  refine lv_iload_n hx hb dX11_tells_12 rfl (lv_at hl 2 rfl) ?_
  obtain ⟨g38, hv⟩ := y_gd_e hv
  obtain ⟨r34, c33, hv⟩ := y_bi_e hv
  refine z_thI hc hB (z_runV hc hB 0 (mm_X0_hasTest hSK l ad ob32 x1 h c33) md_X0_hasTest qmX11_113 g38 (by decide) rfl rfl rfl ⟨Nat.le_of_ble_eq_true rfl, Nat.le_of_ble_eq_true rfl⟩ rfl hl.1 rfl (Nat.le_of_ble_eq_true rfl) dX11_tells_13 ⟨Nat.le_of_ble_eq_true rfl, Nat.le_of_ble_eq_true rfl⟩) (fun H locs hB => ?_)
  refine lv_if_eq (tgt := 26) hx hb dX11_tells_16 (by decide) (fun c39 => ?_) (fun c39 => ?_)
  · replace hv := y_br_t hv c39
    exact b26 _ _ _ hB (lv_sub hl [] rfl) _ hv kt
  · replace hv := y_br_f hv c39
    refine lv_iload_n hx hb dX11_tells_19 rfl (lv_at hl 3 rfl) ?_
    obtain ⟨r41, c40, hv⟩ := y_bi_e hv
    refine z_thI hc hB (z_runS hc hB (mm_X11_isSide hSK l ad x2 h c40) md_X11_isSide qmX11_133 rfl rfl ⟨Nat.le_of_ble_eq_true rfl, Nat.le_of_ble_eq_true rfl⟩ rfl hl.1 rfl (Nat.le_of_ble_eq_true rfl) dX11_tells_20 ⟨Nat.le_of_ble_eq_true rfl, Nat.le_of_ble_eq_true rfl⟩) (fun H locs hB => ?_)
    refine lv_if_ne (tgt := 34) hx hb dX11_tells_23 (by decide) (fun c45 => ?_) (fun c45 => ?_)
    · replace hv := y_br_f hv c45
      refine lv_lconst (v := (0 : Int64)) hx hb dX11_tells_34 (by decide) ?_
      refine lv_lstore (lv' := [(4, .long (0 : Int64)), (3, .ref (ad ob30)), (0, .ref (ad o0)), (1, .int x1), (2, .int x2)]) hx hb dX11_tells_35 hl (by decide) rfl (fun ls hl => ?_)
      refine lv_iconst (v := (0 : Int32)) hx hb dX11_tells_37 (by decide) ?_
      refine lv_istore (lv' := [(6, .int (0 : Int32)), (4, .long (0 : Int64)), (3, .ref (ad ob30)), (0, .ref (ad o0)), (1, .int x1), (2, .int x2)]) hx hb dX11_tells_38 hl (by decide) rfl (fun ls hl => ?_)
      obtain ⟨n, hv⟩ := y_lp_e hv
      exact L40 ob30 n (0 : Int64) (0 : Int32) _ _ _ hB (lv_sub hl [4, 5, 2, 1, 0] rfl) _ hv kt
    · replace hv := y_br_t hv c45
      exact b26 _ _ _ hB (lv_sub hl [] rfl) _ hv kt
theorem qmX11_251 : Cond.methodLink RX11 251 yX9_costBy ∈ z_ws := List.mem_filter.mpr ⟨List.mem_append_right _ (List.mem_of_getElem? (i := 1181) (by decide +kernel)), rfl⟩
theorem qc_X9_costBy : Cond.code yX9_costBy cX9_costBy 6 (some .long) ∈ z_ws := List.mem_filter.mpr ⟨List.mem_append_right _ (List.mem_of_getElem? (i := 1184) (by decide +kernel)), rfl⟩
theorem qi_X9_costBy : Cond.instanceMethod yX9_costBy ∈ z_ws := List.mem_filter.mpr ⟨List.mem_append_right _ (List.mem_of_getElem? (i := 1182) (by decide +kernel)), rfl⟩
theorem qs_X9_costBy : Cond.selects RX9 yX9_costBy yX9_costBy ∈ z_ws := List.mem_filter.mpr ⟨List.mem_append_right _ (List.mem_of_getElem? (i := 1183) (by decide +kernel)), rfl⟩
theorem md_X9_costBy : z_mdV yX9_costBy cX9_costBy 6 (some .long) 1 := ⟨⟨qn_RX9, qc_X9_costBy, ⟨by decide +kernel, by decide +kernel, by decide +kernel⟩⟩, qi_X9_costBy, qs_X9_costBy⟩
theorem dX11_worth_0 : decode cX11_worth 0 = .ok (.aload_n 0, 1) := by decide +kernel
theorem dX11_worth_1 : decode cX11_worth 1 = .ok (.getfield 36, 3) := by decide +kernel
theorem dX11_worth_4 : decode cX11_worth 4 = .ok (.getfield 246, 3) := by decide +kernel
theorem dX11_worth_7 : decode cX11_worth 7 = .ok (.astore_n 2, 1) := by decide +kernel
theorem dX11_worth_8 : decode cX11_worth 8 = .ok (.aload_n 2, 1) := by decide +kernel
theorem dX11_worth_9 : decode cX11_worth 9 = .ok (.ifnull 10, 3) := by decide +kernel
theorem dX11_worth_12 : decode cX11_worth 12 = .ok (.iload_n 1, 1) := by decide +kernel
theorem dX11_worth_13 : decode cX11_worth 13 = .ok (.invokestatic 133, 3) := by decide +kernel
theorem dX11_worth_16 : decode cX11_worth 16 = .ok (.ifCond .ne 11, 3) := by decide +kernel
theorem dX11_worth_19 : decode cX11_worth 19 = .ok (.new 173, 3) := by decide +kernel
theorem dX11_worth_22 : decode cX11_worth 22 = .ok (.dup, 1) := by decide +kernel
theorem dX11_worth_23 : decode cX11_worth 23 = .ok (.invokespecial 175, 3) := by decide +kernel
theorem dX11_worth_26 : decode cX11_worth 26 = .ok (.athrow, 1) := by decide +kernel
theorem dX11_worth_27 : decode cX11_worth 27 = .ok (.aload_n 0, 1) := by decide +kernel
theorem dX11_worth_28 : decode cX11_worth 28 = .ok (.getfield 36, 3) := by decide +kernel
theorem dX11_worth_31 : decode cX11_worth 31 = .ok (.getfield 106, 3) := by decide +kernel
theorem dX11_worth_34 : decode cX11_worth 34 = .ok (.getfield 109, 3) := by decide +kernel
theorem dX11_worth_37 : decode cX11_worth 37 = .ok (.astore_n 3, 1) := by decide +kernel
theorem dX11_worth_38 : decode cX11_worth 38 = .ok (.aload_n 2, 1) := by decide +kernel
theorem dX11_worth_39 : decode cX11_worth 39 = .ok (.aload_n 3, 1) := by decide +kernel
theorem dX11_worth_40 : decode cX11_worth 40 = .ok (.invokevirtual 251, 3) := by decide +kernel
theorem dX11_worth_43 : decode cX11_worth 43 = .ok (.aload_n 3, 1) := by decide +kernel
theorem dX11_worth_44 : decode cX11_worth 44 = .ok (.invokevirtual 211, 3) := by decide +kernel
theorem dX11_worth_47 : decode cX11_worth 47 = .ok (.i2l, 1) := by decide +kernel
theorem dX11_worth_48 : decode cX11_worth 48 = .ok (.iconst 4, 1) := by decide +kernel
theorem dX11_worth_49 : decode cX11_worth 49 = .ok (.invokestatic 214, 3) := by decide +kernel
theorem dX11_worth_52 : decode cX11_worth 52 = .ok (.lmul, 1) := by decide +kernel
theorem dX11_worth_53 : decode cX11_worth 53 = .ok (.iload_n 1, 1) := by decide +kernel
theorem dX11_worth_54 : decode cX11_worth 54 = .ok (.invokestatic 183, 3) := by decide +kernel
theorem dX11_worth_57 : decode cX11_worth 57 = .ok (.lreturn, 1) := by decide +kernel
abbrev rm_X11_worth : Room := { frames := 6, cells := 1, slots := 6, locals := 97 }
noncomputable def fX11_worth_b19  (h : z_T) : Option (Option Int64) :=
  some none
noncomputable def fX11_worth (o0 : Nat) (x1 : Int32) (h : z_T) : Option (Option Int64) :=
  y_gd (z_ok h o0 10) <|
  y_bi (z_R h o0 3) fun ob2 =>
  y_gd (z_ok h ob2 8) <|
  y_op (z_R h ob2 1)
    (fX11_worth_b19 h)
    (fun ob4 =>
    y_bi (fX11_isSide x1) fun r6 =>
    y_br (r6 = 0)
      (fX11_worth_b19 h)
      (y_bi (z_R h ob2 0) fun ob11 =>
      y_gd (z_ok h ob11 2) <|
      y_bi (z_R h ob11 0) fun ob13 =>
      y_gd (z_ok h ob4 9) <|
      y_bi (fX9_costBy ob4 ob13 h) fun r16 =>
      y_gd (z_ok h ob13 0) <|
      y_bi (fX0_allWeights ob13 h) fun r21 =>
      y_bi (fX11_power (4 : Int32)) fun r28 =>
      y_bi (fX11_fraction r16 ((r21).toInt64 * r28) x1) fun r33 =>
      some (some r33)))
set_option maxHeartbeats 4000000 in
set_option maxRecDepth 100000 in
theorem mm_X11_worth {G : z_Gt} (hSK : z_SK (z_S G)) (l : Launch) (hfl : l.stackTraces = false) (ad : Nat → Nat) (o0 : Nat) (x1 : Int32) (h : z_T) {r0 : Option Int64} (hv : fX11_worth o0 x1 h = some r0) : z_Tl G (z_S G) l yX11_worth cX11_worth 4 rm_X11_worth [.ref (ad o0), .int x1] ad h h r0 := by
  refine z_ofT hSK (by decide) (Nat.le_of_ble_eq_true rfl) ?_
  intro p e s m args below meth c ls hc hr ht hs0 hB hl
  have hx := hc.1.1
  have hb := hc.1.2.1
  have hown := hc.1.2.2.2.1
  have hts := hc.1.2.2.2.2
  replace hc : z_C G (z_S G) ad (z_n h) p m c cX11_worth 4 s args RX11 meth := hc
  replace hown : s.vm.findClass RX11 = some m.cls := hown
  replace hl : lv_has ls 4 [(0, .ref (ad o0)), (1, .int x1)] := hl
  show W p l e rm_X11_worth s m args below meth c s.heap [] 0 0 (vx_MQ below (z_Qt G ad h (z_n h) s.heap.size r0) (z_Xt G ad h (z_n h) s.heap.size r0) args s 1 6 (z_A ad (z_n h) s.heap.size)) (F0 m 0 ls [])
  obtain ⟨rs, kt⟩ : ∃ rs : Option Int64, rs = r0 := ⟨_, rfl⟩
  generalize hn0 : z_n h = n0 at hc hB ⊢
  have b19 : ∀ (H : Heap) (locs : List Loc) (ls : Array Slot), z_B G ad n0 s h H locs → lv_has ls 4 [] → ∀ w, fX11_worth_b19 h = some w → w = r0 → W p l e rm_X11_worth s m args below meth c H locs 0 0 (vx_MQ below (z_Qt G ad h n0 s.heap.size r0) (z_Xt G ad h n0 s.heap.size r0) args s 1 6 (z_A ad n0 s.heap.size)) (F0 m 19 ls []) := by
    intro H locs ls hB hl w hv kb
    replace hv := Option.some.inj hv
    subst hv
    rw [← kb]
    exact z_throw hc hB hfl ht hs0 ql_throw qn_throw hl.1 dX11_worth_19 dX11_worth_22 dX11_worth_23 dX11_worth_26 ⟨by decide, by decide, by decide, by decide⟩
  rw [← kt] at hv
  refine lv_aload_n hx hb dX11_worth_0 rfl (lv_at hl 0 rfl) ?_
  obtain ⟨g1, hv⟩ := y_gd_e hv
  obtain ⟨ob2, eob2, hv⟩ := y_bi_e hv
  refine z_getR hc hB 10 3 g1 eob2 (by decide) (by decide) rfl (z_l1 hc qfX11_36) dX11_worth_1 ?_
  obtain ⟨g3, hv⟩ := y_gd_e hv
  rcases y_op_e hv with ⟨eo, hv⟩ | ⟨ob4, eo, hv⟩
  · refine z_getN hc hB 8 1 g3 eo (by decide) (by decide) rfl (z_l2 hc qfX11_246) dX11_worth_4 ?_
    refine lv_astore_nN (lv' := [(2, .null), (0, .ref (ad o0)), (1, .int x1)]) hx hb dX11_worth_7 rfl hl (by decide) rfl (fun ls hl => ?_)
    refine lv_aload_nN hx hb dX11_worth_8 rfl (lv_at hl 0 rfl) ?_
    refine lv_ifnullN (tgt := 19) hx hb dX11_worth_9 (by decide) ?_
    exact b19 _ _ _ hB (lv_sub hl [] rfl) _ hv kt
  · refine z_getR hc hB 8 1 g3 eo (by decide) (by decide) rfl (z_l2 hc qfX11_246) dX11_worth_4 ?_
    refine lv_astore_n (lv' := [(2, .ref (ad ob4)), (0, .ref (ad o0)), (1, .int x1)]) hx hb dX11_worth_7 rfl hl (by decide) rfl (fun ls hl => ?_)
    refine lv_aload_n hx hb dX11_worth_8 rfl (lv_at hl 0 rfl) ?_
    refine lv_ifnull hx hb dX11_worth_9 ?_
    refine lv_iload_n hx hb dX11_worth_12 rfl (lv_at hl 2 rfl) ?_
    obtain ⟨r6, c5, hv⟩ := y_bi_e hv
    refine z_thI hc hB (z_runS hc hB (mm_X11_isSide hSK l ad x1 h c5) md_X11_isSide qmX11_133 rfl rfl ⟨Nat.le_of_ble_eq_true rfl, Nat.le_of_ble_eq_true rfl⟩ rfl hl.1 rfl (Nat.le_of_ble_eq_true rfl) dX11_worth_13 ⟨Nat.le_of_ble_eq_true rfl, Nat.le_of_ble_eq_true rfl⟩) (fun H locs hB => ?_)
    refine lv_if_ne (tgt := 27) hx hb dX11_worth_16 (by decide) (fun c10 => ?_) (fun c10 => ?_)
    · replace hv := y_br_f hv c10
      refine lv_aload_n hx hb dX11_worth_27 rfl (lv_at hl 1 rfl) ?_
      refine z_getR hc hB 10 3 g1 eob2 (by decide) (by decide) rfl (z_l1 hc qfX11_36) dX11_worth_28 ?_
      obtain ⟨ob11, eob11, hv⟩ := y_bi_e hv
      refine z_getR hc hB 8 0 g3 eob11 (by decide) (by decide) rfl (z_l2 hc qfX11_106) dX11_worth_31 ?_
      obtain ⟨g12, hv⟩ := y_gd_e hv
      obtain ⟨ob13, eob13, hv⟩ := y_bi_e hv
      refine z_getR hc hB 2 0 g12 eob13 (by decide) (by decide) rfl (z_l2 hc qfX11_109) dX11_worth_34 ?_
      refine lv_astore_n (lv' := [(3, .ref (ad ob13)), (2, .ref (ad ob4)), (0, .ref (ad o0)), (1, .int x1)]) hx hb dX11_worth_37 rfl hl (by decide) rfl (fun ls hl => ?_)
      refine lv_aload_n hx hb dX11_worth_38 rfl (lv_at hl 1 rfl) ?_
      refine lv_aload_n hx hb dX11_worth_39 rfl (lv_at hl 0 rfl) ?_
      obtain ⟨g19, hv⟩ := y_gd_e hv
      obtain ⟨r16, c14, hv⟩ := y_bi_e hv
      refine z_thL hc hB (z_runV hc hB 9 (mm_X9_costBy hSK l ad ob4 ob13 h c14) md_X9_costBy qmX11_251 g19 (by decide) rfl rfl rfl ⟨Nat.le_of_ble_eq_true rfl, Nat.le_of_ble_eq_true rfl⟩ rfl hl.1 rfl (Nat.le_of_ble_eq_true rfl) dX11_worth_40 ⟨Nat.le_of_ble_eq_true rfl, Nat.le_of_ble_eq_true rfl⟩) (fun H locs hB => ?_)
      refine lv_aload_n hx hb dX11_worth_43 rfl (lv_at hl 0 rfl) ?_
      obtain ⟨g25, hv⟩ := y_gd_e hv
      obtain ⟨r21, c20, hv⟩ := y_bi_e hv
      refine z_thI hc hB (z_runV hc hB 0 (mm_X0_allWeights hSK l ad ob13 h c20) md_X0_allWeights qmX11_211 g25 (by decide) rfl rfl rfl ⟨Nat.le_of_ble_eq_true rfl, Nat.le_of_ble_eq_true rfl⟩ rfl hl.1 rfl (Nat.le_of_ble_eq_true rfl) dX11_worth_44 ⟨Nat.le_of_ble_eq_true rfl, Nat.le_of_ble_eq_true rfl⟩) (fun H locs hB => ?_)
      refine lv_i2l hx hb dX11_worth_47 rfl ?_
      refine lv_iconst (v := (4 : Int32)) hx hb dX11_worth_48 (by decide) ?_
      obtain ⟨r28, c26, hv⟩ := y_bi_e hv
      refine z_thL hc hB (z_runS hc hB (mm_X11_power hSK l ad (4 : Int32) h c26) md_X11_power qmX11_214 rfl rfl ⟨Nat.le_of_ble_eq_true rfl, Nat.le_of_ble_eq_true rfl⟩ rfl hl.1 rfl (Nat.le_of_ble_eq_true rfl) dX11_worth_49 ⟨Nat.le_of_ble_eq_true rfl, Nat.le_of_ble_eq_true rfl⟩) (fun H locs hB => ?_)
      refine lv_lmul hx hb dX11_worth_52 ?_
      refine lv_iload_n hx hb dX11_worth_53 rfl (lv_at hl 3 rfl) ?_
      obtain ⟨r33, c31, hv⟩ := y_bi_e hv
      refine z_thL hc hB (z_runS hc hB (mm_X11_fraction hSK l ad r16 ((r21).toInt64 * r28) x1 h c31) md_X11_fraction qmX11_183 rfl rfl ⟨Nat.le_of_ble_eq_true rfl, Nat.le_of_ble_eq_true rfl⟩ rfl hl.1 rfl (Nat.le_of_ble_eq_true rfl) dX11_worth_54 ⟨Nat.le_of_ble_eq_true rfl, Nat.le_of_ble_eq_true rfl⟩) (fun H locs hB => ?_)
      replace hv := Option.some.inj hv
      subst hv
      rw [← kt]
      exact z_tret hc hB hr dX11_worth_57
    · replace hv := y_br_t hv c10
      exact b19 _ _ _ hB (lv_sub hl [] rfl) _ hv kt
