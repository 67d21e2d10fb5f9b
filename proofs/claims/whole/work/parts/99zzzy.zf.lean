/-! the law from its entry: the two things are made, the row, and the loop begins -/
theorem rl_46 : Cond.methodLink RL 46 yX11_init ∈ z_ws := List.mem_filter.mpr ⟨List.mem_append_right _ (List.mem_of_getElem? (i := 28) (by decide +kernel)), rfl⟩
theorem rl_49 : Cond.methodLink RL 49 yX12_init ∈ z_ws := List.mem_filter.mpr ⟨List.mem_append_right _ (List.mem_of_getElem? (i := 1270) (by decide +kernel)), rfl⟩
theorem rl_8 : Cond.classLink RL 8 (z_c 10).1 ∈ z_ws := List.mem_filter.mpr ⟨List.mem_append_right _ (List.mem_of_getElem? (i := 26) (by decide +kernel)), rfl⟩
theorem rl_47 : Cond.classLink RL 47 (z_c 11).1 ∈ z_ws := List.mem_filter.mpr ⟨List.mem_append_right _ (List.mem_of_getElem? (i := 1269) (by decide +kernel)), rfl⟩
theorem rl_i10 : Cond.instantiable (z_c 10).1 (z_c 10).2.2 ∈ z_ws := List.mem_filter.mpr ⟨List.mem_append_right _ (List.mem_of_getElem? (i := 27) (by decide +kernel)), rfl⟩
theorem rl_i11 : Cond.instantiable (z_c 11).1 (z_c 11).2.2 ∈ z_ws := List.mem_filter.mpr ⟨List.mem_append_right _ (List.mem_of_getElem? (i := 1263) (by decide +kernel)), rfl⟩
theorem rl_c10 : Cond.code yX11_init cX11_init 2 none ∈ z_ws := List.mem_filter.mpr ⟨List.mem_append_right _ (List.mem_of_getElem? (i := 30) (by decide +kernel)), rfl⟩
theorem rl_c11 : Cond.code yX12_init cX12_init 2 none ∈ z_ws := List.mem_filter.mpr ⟨List.mem_append_right _ (List.mem_of_getElem? (i := 1272) (by decide +kernel)), rfl⟩
theorem rl_m10 : Cond.instanceMethod yX11_init ∈ z_ws := List.mem_filter.mpr ⟨List.mem_append_right _ (List.mem_of_getElem? (i := 29) (by decide +kernel)), rfl⟩
theorem rl_m11 : Cond.instanceMethod yX12_init ∈ z_ws := List.mem_filter.mpr ⟨List.mem_append_right _ (List.mem_of_getElem? (i := 1271) (by decide +kernel)), rfl⟩
theorem rl_d10 : z_mdI yX11_init cX11_init 2 0 := ⟨⟨qn_RX11, rl_c10, ⟨by decide +kernel, by decide +kernel, by decide +kernel⟩⟩, rfl, rl_m10⟩
theorem rl_d11 : z_mdI yX12_init cX12_init 2 0 := ⟨⟨qn_RX12, rl_c11, ⟨by decide +kernel, by decide +kernel, by decide +kernel⟩⟩, rfl, rl_m11⟩
section RN
variable {p : Program} {l : Launch} {e : Env} {R : Room} {s : State} {m : MethodId} {args : Array Value} {below : List Frame} {meth : Method} {c : Code} {H : Heap} {locs : List Loc} {cells slots : Nat} {Q : State → Prop}
variable {cc : ByteArray} {pc nL : Nat} {ls : Array Slot} {rest : List Value} {own : String} {G : z_Gt} {S : State → Prop} {ad ad2 : Nat → Nat} {h h1 h2 : z_T}
theorem z_2.made (w : z_2 G s ad ad2 h h2 H locs) {H1 : Heap} (hz : H.size ≤ H1.size) (hq : ∀ q : Nat, q < H.size → H1[q]? = H[q]?) (hB : z_B G ad 0 s h1 H1 locs) : z_2 G s ad (z_re ad2 (z_n h2) H1.size) h1 h2 H1 locs :=
  w.next hz (fun q g _ => hq q g) hB.2 hB.1 (fun _ _ => rfl) w.2.2.2.2.1
theorem z_2new (hc : z_C G S ad 0 p m c cc nL s args own meth) (w : z_2 G s ad ad2 h h2 H locs) (ci : Nat) {index : Nat} (eh : h1 = z_al h ci 0) (hci : ci < 12) (hl : Cond.classLink own index (z_c ci).1 ∈ z_ws) (hi : Cond.instantiable (z_c ci).1 (z_c ci).2.2 ∈ z_ws) (hn : Cond.initialized (z_c ci).1 ∈ z_ws) (hcells : cells + 1 ≤ R.cells) (hslots : slots + (z_c ci).2.2 ≤ R.slots) (hdg : decode cc pc = .ok (.new index, 3))
    (kk : ∀ (H1 : Heap) (ad2' : Nat → Nat), (∀ i, i < z_n h2 → ad2' i = ad2 i) → z_2 G s ad ad2' h1 h2 H1 locs → W p l e R s m args below meth c H1 locs (cells + 1) (slots + (z_c ci).2.2) Q (F0 m (pc + 3) ls (.ref (ad (z_n h)) :: rest))) : W p l e R s m args below meth c H locs cells slots Q (F0 m pc ls rest) := by
  subst eh
  have hB := w.B
  obtain ⟨⟨hx, hb, -, hown, hts⟩, hK, -⟩ := hc
  have hKn := hK.1 ci hci
  refine W.newcK hx hb hown (hts _ hl) (hts _ hi) (hts _ hn) rfl hdg hcells hslots hKn.2.1 rfl fun H1 kC hkC e1 z1 o1 => ?_
  have hb0 : t_OB (ad (z_n h)) (G.1 ci) (z_c ci).2.2 (G.2.1 ci) H1 (fun k => defaultValue (z_fty ci k)) := u_born (z_fty ci) hts (z_uw ci hci) hKn hkC (by rw [z_adn hB]; exact e1) (z_tyok ci hci)
  have hcell : z_cell G ad (z_al h ci 0) H1 (z_n h) := by
    refine ⟨fun _ => ?_, fun hh => ?_, fun j r _ g => by rw [z_al_R] at g; cases g⟩
    · rw [z_al_K]
      refine hb0.to (fun k hk => ?_)
      rw [z_dvok ci hci k hk]
      generalize z_tg ci k = t
      match t with
      | 0 => show Value.int 0 = .int (z_I _ _ _); rw [z_al_I]
      | 1 => show Value.long 0 = .long (z_L _ _ _); rw [z_al_L]
      | 2 => show Value.null = va_rf (Option.map _ (z_R _ _ _)); rw [z_al_R]; rfl
      | t + 3 => show Value.null = va_rf (Option.map _ (z_R _ _ _)); rw [z_al_R]; rfl
    · rw [z_al_K] at hh; omega
  rw [← z_adn hB]
  exact kk H1 _ (fun i hi => z_re_lt hi) (w.made (by omega) o1 ⟨hB.1.new ci 0 z1 o1 hcell, z_S_new hB z1 o1⟩)
theorem z_2newarr (hc : z_C G S ad 0 p m c cc nL s args own meth) (w : z_2 G s ad ad2 h h2 H locs) (N : Nat) {n : Int32} (eh : h1 = z_al h 14 N) (hN : n.toNatClampNeg = N) (hn : ¬ n < 0) (hbytes : N * 8 ≤ 536870912) (hcells : cells + 1 ≤ R.cells) (hslots : slots + N ≤ R.slots) (hdg : decode cc pc = .ok (.newarray .long, 2))
    (kk : ∀ (H1 : Heap) (ad2' : Nat → Nat), (∀ i, i < z_n h2 → ad2' i = ad2 i) → z_2 G s ad ad2' h1 h2 H1 locs → W p l e R s m args below meth c H1 locs (cells + 1) (slots + N) Q (F0 m (pc + 2) ls (.ref (ad (z_n h)) :: rest))) : W p l e R s m args below meth c H locs cells slots Q (F0 m pc ls (.int n :: rest)) := by
  subst eh
  have hB := w.B
  obtain ⟨⟨hx, hb, -, hown, hts⟩, hK, -⟩ := hc
  have hra := (hK.2.1 14 (by decide) (by decide)).2
  have hb8 : N * componentBytes (newarray.typeOf .long) ≤ 536870912 := Nat.le_trans (Nat.mul_le_mul_left N (by decide)) hbytes
  refine va_newaK hx hb (by exact hts _ qa_long) rfl hdg rfl hn hN hb8 hcells hslots rfl fun H1 cA e1 z1 o1 hAr hNm => ?_
  have eA : cA = G.2.2.1 14 := Option.some.inj (hNm.symm.trans hra)
  have hcell : z_cell G ad (z_al h 14 N) H1 (z_n h) := by
    refine z_arr_new 14 N cA hB (by decide) eA (fun j => ?_) e1
    show Value.long 0 = .long (z_L _ _ _); rw [z_al_L]
  rw [← z_adn hB]
  exact kk H1 _ (fun i hi => z_re_lt hi) (w.made (by omega) o1 ⟨hB.1.new 14 N z1 o1 hcell, z_S_new hB z1 o1⟩)
end RN
theorem z_2_0 {G : z_Gt} {s : State} (hG : G.2.2.2.2 = s.heap) : z_2 G s (fun i => s.heap.size + i) (fun i => s.heap.size + i) z_h0 z_h0 s.heap [] := by
  have w : z_W G (fun i => s.heap.size + i) z_h0 s.heap := ⟨fun o ho => absurd ho (Nat.not_lt_zero o), fun i j q => Nat.add_left_cancel q, fun i _ => rfl, fun i => by rw [hG]; exact Nat.le_add_right _ _, fun q _ => by rw [hG], fun i hi => absurd hi (Nat.not_lt_zero i), by rw [hG]; exact Nat.le_refl _⟩
  exact ⟨w, w, ⟨Nat.le_refl _, fun _ _ _ => rfl, fun _ h => absurd h List.not_mem_nil⟩, fun i hi => absurd hi (Nat.not_lt_zero i), fun i => Nat.le_add_right _ _, fun i => Nat.le_add_right _ _⟩
section RW
variable {p : Program} {l : Launch} {e : Env} {s : State} {m : MethodId} {below : List Frame} {meth : Method} {c : Code} {b L : Nat} {xs : Nat → Int32} {G : z_Gt} {Q : State → Prop}
set_option maxHeartbeats 4000000 in
theorem lq_in (C : lq_C G p s m meth c b L xs) (hG : G.2.2.2.2 = s.heap) (hfl : l.stackTraces = false)
    (kx : ∀ (H : Heap) (locs : List Loc) (ls : Array Slot) (cells slots : Nat), va_S (fun q => s.heap.size ≤ q) s.heap H locs → cells ≤ 601024 → slots ≤ 7293034 → W p l e room_1 s m #[.ref b] below meth c H locs cells slots Q (F0 m 1728 ls [])) :
    W p l e room_1 s m #[.ref b] below meth c s.heap [] 0 0 Q (entryFrame m ([Value.ref b] : List Value).toArray 8) := by
  have hx := C.1.1
  have hb := C.1.2.1
  have hL := C.2.2.2.2.2.2.2
  obtain ⟨hX, eX, nX, -⟩ := x_st
  obtain ⟨hM, eM, -⟩ := m_st
  obtain ⟨-, I⟩ := iv_0 eX eM
  have hl := lv_entry [Value.ref b] (n := 8) (Nat.le_of_ble_eq_true rfl)
  rw [lg_entry_eq]
  have w := z_2_0 (G := G) hG
  generalize (fun i => s.heap.size + i : Nat → Nat) = adX at w
  have w' : ∃ adM, z_2 G s adX adM z_h0 z_h0 s.heap [] := ⟨adX, w⟩
  clear w
  obtain ⟨adM, w⟩ := w'
  refine z_2new (lq_cc C w.2.2.2.2.1) w 10 rfl (by decide) rl_8 rl_i10 qn_RX11 (Nat.le_of_ble_eq_true rfl) (Nat.le_of_ble_eq_true rfl) dw_0 (fun H adM1 _ w => ?_)
  refine lv_dup hx hb dw_3 rfl ?_
  refine z_2V (lq_cc C w.2.2.2.2.1) w (z_runI (rest := [.ref (adX 0)]) (lq_cc C w.2.2.2.2.1) w.B (mm_X11_init C.2.2.1 l adX 0 (z_al z_h0 10 0) eX) rl_d10 rl_46 rfl rfl ⟨Nat.le_of_ble_eq_true rfl, Nat.le_of_ble_eq_true rfl⟩ rfl hl.1 rfl (Nat.le_of_ble_eq_true rfl) dw_4 ⟨Nat.le_of_ble_eq_true rfl, Nat.le_of_ble_eq_true rfl⟩) (fun H locs adM2 _ w => ?_)
  refine lv_astore_n (lv' := [(1, .ref (adX 0)), (0, .ref b)]) hx hb dw_7 rfl hl (by decide) rfl (fun ls hl => ?_)
  refine z_2new (lq_cc C w.swap.2.2.2.2.1) w.swap 11 rfl (by decide) rl_47 rl_i11 qn_RX12 (Nat.le_of_ble_eq_true rfl) (Nat.le_of_ble_eq_true rfl) dw_8 (fun H adX1 ag1 w => ?_)
  refine lv_dup hx hb dw_11 rfl ?_
  refine z_2V (lq_cc C w.2.2.2.2.1) w (z_runI (rest := [.ref (adM2 0)]) (lq_cc C w.2.2.2.2.1) w.B (mm_X12_init C.2.2.1 l adM2 0 (z_al z_h0 11 0) eM) rl_d11 rl_49 rfl rfl ⟨Nat.le_of_ble_eq_true rfl, Nat.le_of_ble_eq_true rfl⟩ rfl hl.1 rfl (Nat.le_of_ble_eq_true rfl) dw_12 ⟨Nat.le_of_ble_eq_true rfl, Nat.le_of_ble_eq_true rfl⟩) (fun H locs adX2 ag2 w => ?_)
  refine lv_astore_n (lv' := [(2, .ref (adM2 0)), (1, .ref (adX 0)), (0, .ref b)]) hx hb dw_15 rfl hl (by decide) rfl (fun ls hl => ?_)
  refine lv_iconst (v := (1 : Int32)) hx hb dw_16 rfl ?_
  have e2 : adX2 0 = adX 0 := (ag2 0 (by omega)).trans (ag1 0 (by omega))
  refine z_2newarr (lq_cc C w.swap.2.2.2.2.1) w.swap 1 rfl (by decide) (by decide) (by decide) (Nat.le_of_ble_eq_true rfl) (Nat.le_of_ble_eq_true rfl) dw_17 (fun H adM3 ag3 w => ?_)
  rw [nX]
  refine lv_astore_n (lv' := [(3, .ref (adX2 82)), (2, .ref (adM2 0)), (1, .ref (adX 0)), (0, .ref b)]) hx hb dw_19 rfl hl (by decide) rfl (fun ls hl => ?_)
  refine lv_iconst (v := (0 : Int32)) hx hb dw_20 rfl ?_
  refine lv_istore (lv' := [(4, .int 0), (3, .ref (adX2 82)), (2, .ref (adM2 0)), (1, .ref (adX 0)), (0, .ref b)]) hx hb dw_21 hl (by decide) rfl (fun ls hl => ?_)
  have hV := iv_V
  obtain ⟨hV1, hV2, -⟩ := hV _ _ I
  refine lq_loop C hfl iv_V iv_Ops kx 512 0 adX2 adM3 (z_al hX 14 1) hM H _ _ _ _ (by omega) (by omega) w I (Nat.le_of_ble_eq_true rfl) (Nat.le_of_ble_eq_true rfl) ?_
  show lv_has ls 8 [(4, .int (nI 0)), (3, .ref (adX2 82)), (2, .ref (adM3 0)), (1, .ref (adX2 0)), (0, .ref b)]
  rw [e2, ag3 0 (z_ok_lt hV2)]
  exact hl
end RW
