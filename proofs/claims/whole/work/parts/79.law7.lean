/-! the law's walk, an operation each -/
def lq_C (G : z_Gt) (p : Program) (s : State) (m : MethodId) (meth : Method) (c : Code) (b L : Nat) (xs : Nat → Int32) : Prop := CallFix p m c code 8 s #[.ref b] z_ws RL ∧ z_KK G (z_S G) s ∧ z_SK (z_S G) ∧ meth.locks = false ∧ va_X b L xs s s.heap ∧ b < s.heap.size ∧ meth.sig.returnType = ret ∧ L ≤ 3072
abbrev lq_l (adX adM : Nat → Nat) (oX oM oO b i : Nat) : List (Nat × Value) := [(4, .int (nI i)), (3, .ref (adX oO)), (2, .ref (adM oM)), (1, .ref (adX oX)), (0, .ref b)]
def lq_V (Inv : z_T → z_T → Prop) (oX oM oO : Nat) : Prop := ∀ hX hM, Inv hX hM → z_ok hX oX 10 = true ∧ z_ok hM oM 11 = true ∧ z_ok hX oO 14 = true ∧ z_ix 0 (z_N hX oO) = true
theorem qini_RL : Cond.initialized RL ∈ z_ws := List.mem_filter.mpr ⟨List.mem_append_right _ (List.mem_of_getElem? (i := 0) (by decide +kernel)), rfl⟩
theorem lq_cmp (v : Int64) : lg_cmp v v = 0 := by unfold lg_cmp; rw [if_neg (by show ¬ v < v; exact Int64.lt_irrefl), if_pos rfl]
theorem lq_rm {c0 s0 c1 s1 : Nat} (h : c0 + 8 ≤ room_1.cells ∧ s0 + 125 ≤ room_1.slots) (h1 : c1 ≤ 8) (h2 : s1 ≤ 125) : c0 + c1 ≤ room_1.cells ∧ s0 + s1 ≤ room_1.slots := ⟨by omega, by omega⟩
theorem lq_rm2 {c0 s0 c1 s1 c2 s2 : Nat} (h : c0 + 8 ≤ room_1.cells ∧ s0 + 125 ≤ room_1.slots) (h1 : c1 + c2 ≤ 8) (h2 : s1 + s2 ≤ 125) : c0 + c1 + c2 ≤ room_1.cells ∧ s0 + s1 + s2 ≤ room_1.slots := ⟨by omega, by omega⟩
theorem lq_rm3 {c0 s0 c1 s1 c2 s2 c3 s3 : Nat} (h : c0 + 8 ≤ room_1.cells ∧ s0 + 125 ≤ room_1.slots) (h1 : c1 + c2 + c3 ≤ 8) (h2 : s1 + s2 + s3 ≤ 125) : c0 + c1 + c2 + c3 ≤ room_1.cells ∧ s0 + s1 + s2 + s3 ≤ room_1.slots := ⟨by omega, by omega⟩
theorem lq_ag {ls : Array Slot} {adX adM adX1 adM1 : Nat → Nat} {oX oM oO b i : Nat} (h1 : adX1 oX = adX oX) (h2 : adM1 oM = adM oM) (h3 : adX1 oO = adX oO) (h : lv_has ls 8 (lq_l adX adM oX oM oO b i)) : lv_has ls 8 (lq_l adX1 adM1 oX oM oO b i) := by unfold lq_l at h ⊢; rw [h1, h2, h3]; exact h
theorem lq_ag5 {ls : Array Slot} {adX adM adX1 adM1 : Nat → Nat} {oX oM oO b i : Nat} {k : Int32} (h1 : adX1 oX = adX oX) (h2 : adM1 oM = adM oM) (h3 : adX1 oO = adX oO) (h : lv_has ls 8 ((5, .int k) :: lq_l adX adM oX oM oO b i)) : lv_has ls 8 ((5, .int k) :: lq_l adX1 adM1 oX oM oO b i) := by unfold lq_l at h ⊢; rw [h1, h2, h3]; exact h
theorem lq_ag6 {ls : Array Slot} {adX adM adX1 adM1 : Nat → Nat} {oX oM oO b i : Nat} {k : Int32} {v : Int64} (h1 : adX1 oX = adX oX) (h2 : adM1 oM = adM oM) (h3 : adX1 oO = adX oO) (h : lv_has ls 8 ((6, .long v) :: (5, .int k) :: lq_l adX adM oX oM oO b i)) : lv_has ls 8 ((6, .long v) :: (5, .int k) :: lq_l adX1 adM1 oX oM oO b i) := by unfold lq_l at h ⊢; rw [h1, h2, h3]; exact h
section LQ
variable {p : Program} {l : Launch} {e : Env} {s : State} {m : MethodId} {below : List Frame} {meth : Method} {c : Code} {b L : Nat} {xs : Nat → Int32} {G : z_Gt} {Q : State → Prop}
theorem lq_cc (C : lq_C G p s m meth c b L xs) {ad : Nat → Nat} (h : ∀ i, s.heap.size ≤ ad i) : z_C G (z_S G) ad 0 p m c code 8 s #[.ref b] RL meth := ⟨C.1, C.2.1, fun i => Or.inr (h i), C.2.2.1, C.2.2.2.1⟩
theorem lq_rd {H : Heap} {locs : List Loc} {ls : Array Slot} {cells slots i pc p1 p2 p3 p4 : Nat} {rest : List Value} (C : lq_C G p s m meth c b L xs) (hS : va_S (fun q => s.heap.size ≤ q) s.heap H locs) (h0 : ls[0]? = some (.val (.ref b))) (h4 : ls[4]? = some (.val (.int (nI i)))) {k : Nat} {n : Int} (hk : i + k < L) (hv : Int32.ofInt n = nI k) (d0 : decode code pc = .ok (.aload_n 0, 1)) (d1 : decode code p1 = .ok (.iload 4, 2)) (d2 : decode code p2 = .ok (.iconst n, 1)) (d3 : decode code p3 = .ok (.iadd, 1)) (d4 : decode code p4 = .ok (.iaload, 1))
    (kk : W p l e room_1 s m #[.ref b] below meth c H locs cells slots Q (F0 m (p4 + 1) ls (.int (xs (i + k)) :: rest))) (q1 : p1 = pc + 1 := by rfl) (q2 : p2 = pc + 1 + 2 := by rfl) (q3 : p3 = pc + 1 + 2 + 1 := by rfl) (q4 : p4 = pc + 1 + 2 + 1 + 1 := by rfl) : W p l e room_1 s m #[.ref b] below meth c H locs cells slots Q (F0 m pc ls rest) := by
  subst q1 q2 q3 q4
  have hx := C.1.1
  have hb := C.1.2.1
  have hL := C.2.2.2.2.2.2.2
  refine lv_aload_n hx hb d0 rfl h0 ?_
  refine lv_iload hx hb d1 h4 ?_
  refine lv_iconst (v := nI k) hx hb d2 hv ?_
  refine lv_iadd hx hb d3 ?_
  rw [nI_add]
  refine va_sld hx hb C.2.2.2.2.1 C.2.2.2.2.2.1 (Nat.not_le.mpr C.2.2.2.2.2.1) hS (vp_in_nI hk (by omega)) d4 ?_
  rw [nI_clamp (by omega)]
  exact kk
theorem qmL_50 : Cond.methodLink RL 50 yX11_feed ∈ z_ws := List.mem_filter.mpr ⟨List.mem_append_right _ (List.mem_of_getElem? (i := 315) (by decide +kernel)), rfl⟩
theorem qc_X11_feed : Cond.code yX11_feed cX11_feed 6 (some .int) ∈ z_ws := List.mem_filter.mpr ⟨List.mem_append_right _ (List.mem_of_getElem? (i := 318) (by decide +kernel)), rfl⟩
theorem qi_X11_feed : Cond.instanceMethod yX11_feed ∈ z_ws := List.mem_filter.mpr ⟨List.mem_append_right _ (List.mem_of_getElem? (i := 316) (by decide +kernel)), rfl⟩
theorem qs_X11_feed : Cond.selects RX11 yX11_feed yX11_feed ∈ z_ws := List.mem_filter.mpr ⟨List.mem_append_right _ (List.mem_of_getElem? (i := 317) (by decide +kernel)), rfl⟩
theorem md_X11_feed : z_mdV yX11_feed cX11_feed 6 (some .int) 5 := ⟨⟨qn_RX11, qc_X11_feed, ⟨by decide +kernel, by decide +kernel, by decide +kernel⟩⟩, qi_X11_feed, qs_X11_feed⟩
theorem qmL_54 : Cond.methodLink RL 54 yX12_feed ∈ z_ws := List.mem_filter.mpr ⟨List.mem_append_right _ (List.mem_of_getElem? (i := 1256) (by decide +kernel)), rfl⟩
theorem qc_X12_feed : Cond.code yX12_feed cX12_feed 6 (some .int) ∈ z_ws := List.mem_filter.mpr ⟨List.mem_append_right _ (List.mem_of_getElem? (i := 1259) (by decide +kernel)), rfl⟩
theorem qi_X12_feed : Cond.instanceMethod yX12_feed ∈ z_ws := List.mem_filter.mpr ⟨List.mem_append_right _ (List.mem_of_getElem? (i := 1257) (by decide +kernel)), rfl⟩
theorem qs_X12_feed : Cond.selects RX12 yX12_feed yX12_feed ∈ z_ws := List.mem_filter.mpr ⟨List.mem_append_right _ (List.mem_of_getElem? (i := 1258) (by decide +kernel)), rfl⟩
theorem md_X12_feed : z_mdV yX12_feed cX12_feed 6 (some .int) 5 := ⟨⟨qn_RX12, qc_X12_feed, ⟨by decide +kernel, by decide +kernel, by decide +kernel⟩⟩, qi_X12_feed, qs_X12_feed⟩
theorem qmL_55 : Cond.methodLink RL 55 yX11_end ∈ z_ws := List.mem_filter.mpr ⟨List.mem_append_right _ (List.mem_of_getElem? (i := 331) (by decide +kernel)), rfl⟩
theorem qc_X11_end : Cond.code yX11_end cX11_end 2 (some .boolean) ∈ z_ws := List.mem_filter.mpr ⟨List.mem_append_right _ (List.mem_of_getElem? (i := 334) (by decide +kernel)), rfl⟩
theorem qi_X11_end : Cond.instanceMethod yX11_end ∈ z_ws := List.mem_filter.mpr ⟨List.mem_append_right _ (List.mem_of_getElem? (i := 332) (by decide +kernel)), rfl⟩
theorem qs_X11_end : Cond.selects RX11 yX11_end yX11_end ∈ z_ws := List.mem_filter.mpr ⟨List.mem_append_right _ (List.mem_of_getElem? (i := 333) (by decide +kernel)), rfl⟩
theorem md_X11_end : z_mdV yX11_end cX11_end 2 (some .boolean) 1 := ⟨⟨qn_RX11, qc_X11_end, ⟨by decide +kernel, by decide +kernel, by decide +kernel⟩⟩, qi_X11_end, qs_X11_end⟩
theorem qmL_59 : Cond.methodLink RL 59 yX12_end ∈ z_ws := List.mem_filter.mpr ⟨List.mem_append_right _ (List.mem_of_getElem? (i := 1265) (by decide +kernel)), rfl⟩
theorem qc_X12_end : Cond.code yX12_end cX12_end 2 (some .boolean) ∈ z_ws := List.mem_filter.mpr ⟨List.mem_append_right _ (List.mem_of_getElem? (i := 1268) (by decide +kernel)), rfl⟩
theorem qi_X12_end : Cond.instanceMethod yX12_end ∈ z_ws := List.mem_filter.mpr ⟨List.mem_append_right _ (List.mem_of_getElem? (i := 1266) (by decide +kernel)), rfl⟩
theorem qs_X12_end : Cond.selects RX12 yX12_end yX12_end ∈ z_ws := List.mem_filter.mpr ⟨List.mem_append_right _ (List.mem_of_getElem? (i := 1267) (by decide +kernel)), rfl⟩
theorem md_X12_end : z_mdV yX12_end cX12_end 2 (some .boolean) 1 := ⟨⟨qn_RX12, qc_X12_end, ⟨by decide +kernel, by decide +kernel, by decide +kernel⟩⟩, qi_X12_end, qs_X12_end⟩
theorem qmL_60 : Cond.methodLink RL 60 yX11_book ∈ z_ws := List.mem_filter.mpr ⟨List.mem_append_right _ (List.mem_of_getElem? (i := 335) (by decide +kernel)), rfl⟩
theorem qc_X11_book : Cond.code yX11_book cX11_book 3 (some .int) ∈ z_ws := List.mem_filter.mpr ⟨List.mem_append_right _ (List.mem_of_getElem? (i := 338) (by decide +kernel)), rfl⟩
theorem qi_X11_book : Cond.instanceMethod yX11_book ∈ z_ws := List.mem_filter.mpr ⟨List.mem_append_right _ (List.mem_of_getElem? (i := 336) (by decide +kernel)), rfl⟩
theorem qs_X11_book : Cond.selects RX11 yX11_book yX11_book ∈ z_ws := List.mem_filter.mpr ⟨List.mem_append_right _ (List.mem_of_getElem? (i := 337) (by decide +kernel)), rfl⟩
theorem md_X11_book : z_mdV yX11_book cX11_book 3 (some .int) 0 := ⟨⟨qn_RX11, qc_X11_book, ⟨by decide +kernel, by decide +kernel, by decide +kernel⟩⟩, qi_X11_book, qs_X11_book⟩
theorem qmL_64 : Cond.methodLink RL 64 yX12_book ∈ z_ws := List.mem_filter.mpr ⟨List.mem_append_right _ (List.mem_of_getElem? (i := 1472) (by decide +kernel)), rfl⟩
theorem qc_X12_book : Cond.code yX12_book cX12_book 2 (some .int) ∈ z_ws := List.mem_filter.mpr ⟨List.mem_append_right _ (List.mem_of_getElem? (i := 1475) (by decide +kernel)), rfl⟩
theorem qi_X12_book : Cond.instanceMethod yX12_book ∈ z_ws := List.mem_filter.mpr ⟨List.mem_append_right _ (List.mem_of_getElem? (i := 1473) (by decide +kernel)), rfl⟩
theorem qs_X12_book : Cond.selects RX12 yX12_book yX12_book ∈ z_ws := List.mem_filter.mpr ⟨List.mem_append_right _ (List.mem_of_getElem? (i := 1474) (by decide +kernel)), rfl⟩
theorem md_X12_book : z_mdV yX12_book cX12_book 2 (some .int) 0 := ⟨⟨qn_RX12, qc_X12_book, ⟨by decide +kernel, by decide +kernel, by decide +kernel⟩⟩, qi_X12_book, qs_X12_book⟩
theorem qmL_65 : Cond.methodLink RL 65 yX11_fault ∈ z_ws := List.mem_filter.mpr ⟨List.mem_append_right _ (List.mem_of_getElem? (i := 453) (by decide +kernel)), rfl⟩
theorem qc_X11_fault : Cond.code yX11_fault cX11_fault 1 (some .int) ∈ z_ws := List.mem_filter.mpr ⟨List.mem_append_right _ (List.mem_of_getElem? (i := 456) (by decide +kernel)), rfl⟩
theorem qi_X11_fault : Cond.instanceMethod yX11_fault ∈ z_ws := List.mem_filter.mpr ⟨List.mem_append_right _ (List.mem_of_getElem? (i := 454) (by decide +kernel)), rfl⟩
theorem qs_X11_fault : Cond.selects RX11 yX11_fault yX11_fault ∈ z_ws := List.mem_filter.mpr ⟨List.mem_append_right _ (List.mem_of_getElem? (i := 455) (by decide +kernel)), rfl⟩
theorem md_X11_fault : z_mdV yX11_fault cX11_fault 1 (some .int) 0 := ⟨⟨qn_RX11, qc_X11_fault, ⟨by decide +kernel, by decide +kernel, by decide +kernel⟩⟩, qi_X11_fault, qs_X11_fault⟩
theorem qmL_68 : Cond.methodLink RL 68 yX12_fault ∈ z_ws := List.mem_filter.mpr ⟨List.mem_append_right _ (List.mem_of_getElem? (i := 1544) (by decide +kernel)), rfl⟩
theorem qc_X12_fault : Cond.code yX12_fault cX12_fault 1 (some .int) ∈ z_ws := List.mem_filter.mpr ⟨List.mem_append_right _ (List.mem_of_getElem? (i := 1547) (by decide +kernel)), rfl⟩
theorem qi_X12_fault : Cond.instanceMethod yX12_fault ∈ z_ws := List.mem_filter.mpr ⟨List.mem_append_right _ (List.mem_of_getElem? (i := 1545) (by decide +kernel)), rfl⟩
theorem qs_X12_fault : Cond.selects RX12 yX12_fault yX12_fault ∈ z_ws := List.mem_filter.mpr ⟨List.mem_append_right _ (List.mem_of_getElem? (i := 1546) (by decide +kernel)), rfl⟩
theorem md_X12_fault : z_mdV yX12_fault cX12_fault 1 (some .int) 0 := ⟨⟨qn_RX12, qc_X12_fault, ⟨by decide +kernel, by decide +kernel, by decide +kernel⟩⟩, qi_X12_fault, qs_X12_fault⟩
theorem qmL_69 : Cond.methodLink RL 69 yX11_test ∈ z_ws := List.mem_filter.mpr ⟨List.mem_append_right _ (List.mem_of_getElem? (i := 457) (by decide +kernel)), rfl⟩
theorem qc_X11_test : Cond.code yX11_test cX11_test 4 (some .int) ∈ z_ws := List.mem_filter.mpr ⟨List.mem_append_right _ (List.mem_of_getElem? (i := 460) (by decide +kernel)), rfl⟩
theorem qi_X11_test : Cond.instanceMethod yX11_test ∈ z_ws := List.mem_filter.mpr ⟨List.mem_append_right _ (List.mem_of_getElem? (i := 458) (by decide +kernel)), rfl⟩
theorem qs_X11_test : Cond.selects RX11 yX11_test yX11_test ∈ z_ws := List.mem_filter.mpr ⟨List.mem_append_right _ (List.mem_of_getElem? (i := 459) (by decide +kernel)), rfl⟩
theorem md_X11_test : z_mdV yX11_test cX11_test 4 (some .int) 2 := ⟨⟨qn_RX11, qc_X11_test, ⟨by decide +kernel, by decide +kernel, by decide +kernel⟩⟩, qi_X11_test, qs_X11_test⟩
theorem qmL_73 : Cond.methodLink RL 73 yX12_test ∈ z_ws := List.mem_filter.mpr ⟨List.mem_append_right _ (List.mem_of_getElem? (i := 1548) (by decide +kernel)), rfl⟩
theorem qc_X12_test : Cond.code yX12_test cX12_test 5 (some .int) ∈ z_ws := List.mem_filter.mpr ⟨List.mem_append_right _ (List.mem_of_getElem? (i := 1551) (by decide +kernel)), rfl⟩
theorem qi_X12_test : Cond.instanceMethod yX12_test ∈ z_ws := List.mem_filter.mpr ⟨List.mem_append_right _ (List.mem_of_getElem? (i := 1549) (by decide +kernel)), rfl⟩
theorem qs_X12_test : Cond.selects RX12 yX12_test yX12_test ∈ z_ws := List.mem_filter.mpr ⟨List.mem_append_right _ (List.mem_of_getElem? (i := 1550) (by decide +kernel)), rfl⟩
theorem md_X12_test : z_mdV yX12_test cX12_test 5 (some .int) 2 := ⟨⟨qn_RX12, qc_X12_test, ⟨by decide +kernel, by decide +kernel, by decide +kernel⟩⟩, qi_X12_test, qs_X12_test⟩
theorem qmL_74 : Cond.methodLink RL 74 yX11_dream ∈ z_ws := List.mem_filter.mpr ⟨List.mem_append_right _ (List.mem_of_getElem? (i := 485) (by decide +kernel)), rfl⟩
theorem qc_X11_dream : Cond.code yX11_dream cX11_dream 4 (some .int) ∈ z_ws := List.mem_filter.mpr ⟨List.mem_append_right _ (List.mem_of_getElem? (i := 488) (by decide +kernel)), rfl⟩
theorem qi_X11_dream : Cond.instanceMethod yX11_dream ∈ z_ws := List.mem_filter.mpr ⟨List.mem_append_right _ (List.mem_of_getElem? (i := 486) (by decide +kernel)), rfl⟩
theorem qs_X11_dream : Cond.selects RX11 yX11_dream yX11_dream ∈ z_ws := List.mem_filter.mpr ⟨List.mem_append_right _ (List.mem_of_getElem? (i := 487) (by decide +kernel)), rfl⟩
theorem md_X11_dream : z_mdV yX11_dream cX11_dream 4 (some .int) 2 := ⟨⟨qn_RX11, qc_X11_dream, ⟨by decide +kernel, by decide +kernel, by decide +kernel⟩⟩, qi_X11_dream, qs_X11_dream⟩
theorem qmL_77 : Cond.methodLink RL 77 yX12_dream ∈ z_ws := List.mem_filter.mpr ⟨List.mem_append_right _ (List.mem_of_getElem? (i := 1560) (by decide +kernel)), rfl⟩
theorem qc_X12_dream : Cond.code yX12_dream cX12_dream 3 (some .int) ∈ z_ws := List.mem_filter.mpr ⟨List.mem_append_right _ (List.mem_of_getElem? (i := 1563) (by decide +kernel)), rfl⟩
theorem qi_X12_dream : Cond.instanceMethod yX12_dream ∈ z_ws := List.mem_filter.mpr ⟨List.mem_append_right _ (List.mem_of_getElem? (i := 1561) (by decide +kernel)), rfl⟩
theorem qs_X12_dream : Cond.selects RX12 yX12_dream yX12_dream ∈ z_ws := List.mem_filter.mpr ⟨List.mem_append_right _ (List.mem_of_getElem? (i := 1562) (by decide +kernel)), rfl⟩
theorem md_X12_dream : z_mdV yX12_dream cX12_dream 3 (some .int) 2 := ⟨⟨qn_RX12, qc_X12_dream, ⟨by decide +kernel, by decide +kernel, by decide +kernel⟩⟩, qi_X12_dream, qs_X12_dream⟩
theorem qmL_78 : Cond.methodLink RL 78 yX11_stays ∈ z_ws := List.mem_filter.mpr ⟨List.mem_append_right _ (List.mem_of_getElem? (i := 498) (by decide +kernel)), rfl⟩
theorem qc_X11_stays : Cond.code yX11_stays cX11_stays 4 (some .int) ∈ z_ws := List.mem_filter.mpr ⟨List.mem_append_right _ (List.mem_of_getElem? (i := 501) (by decide +kernel)), rfl⟩
theorem qi_X11_stays : Cond.instanceMethod yX11_stays ∈ z_ws := List.mem_filter.mpr ⟨List.mem_append_right _ (List.mem_of_getElem? (i := 499) (by decide +kernel)), rfl⟩
theorem qs_X11_stays : Cond.selects RX11 yX11_stays yX11_stays ∈ z_ws := List.mem_filter.mpr ⟨List.mem_append_right _ (List.mem_of_getElem? (i := 500) (by decide +kernel)), rfl⟩
theorem md_X11_stays : z_mdV yX11_stays cX11_stays 4 (some .int) 2 := ⟨⟨qn_RX11, qc_X11_stays, ⟨by decide +kernel, by decide +kernel, by decide +kernel⟩⟩, qi_X11_stays, qs_X11_stays⟩
theorem qmL_81 : Cond.methodLink RL 81 yX12_stays ∈ z_ws := List.mem_filter.mpr ⟨List.mem_append_right _ (List.mem_of_getElem? (i := 1568) (by decide +kernel)), rfl⟩
theorem qc_X12_stays : Cond.code yX12_stays cX12_stays 3 (some .int) ∈ z_ws := List.mem_filter.mpr ⟨List.mem_append_right _ (List.mem_of_getElem? (i := 1571) (by decide +kernel)), rfl⟩
theorem qi_X12_stays : Cond.instanceMethod yX12_stays ∈ z_ws := List.mem_filter.mpr ⟨List.mem_append_right _ (List.mem_of_getElem? (i := 1569) (by decide +kernel)), rfl⟩
theorem qs_X12_stays : Cond.selects RX12 yX12_stays yX12_stays ∈ z_ws := List.mem_filter.mpr ⟨List.mem_append_right _ (List.mem_of_getElem? (i := 1570) (by decide +kernel)), rfl⟩
theorem md_X12_stays : z_mdV yX12_stays cX12_stays 3 (some .int) 2 := ⟨⟨qn_RX12, qc_X12_stays, ⟨by decide +kernel, by decide +kernel, by decide +kernel⟩⟩, qi_X12_stays, qs_X12_stays⟩
theorem qmL_82 : Cond.methodLink RL 82 yX11_ask ∈ z_ws := List.mem_filter.mpr ⟨List.mem_append_right _ (List.mem_of_getElem? (i := 518) (by decide +kernel)), rfl⟩
theorem qc_X11_ask : Cond.code yX11_ask cX11_ask 4 (some .int) ∈ z_ws := List.mem_filter.mpr ⟨List.mem_append_right _ (List.mem_of_getElem? (i := 521) (by decide +kernel)), rfl⟩
theorem qi_X11_ask : Cond.instanceMethod yX11_ask ∈ z_ws := List.mem_filter.mpr ⟨List.mem_append_right _ (List.mem_of_getElem? (i := 519) (by decide +kernel)), rfl⟩
theorem qs_X11_ask : Cond.selects RX11 yX11_ask yX11_ask ∈ z_ws := List.mem_filter.mpr ⟨List.mem_append_right _ (List.mem_of_getElem? (i := 520) (by decide +kernel)), rfl⟩
theorem md_X11_ask : z_mdV yX11_ask cX11_ask 4 (some .int) 2 := ⟨⟨qn_RX11, qc_X11_ask, ⟨by decide +kernel, by decide +kernel, by decide +kernel⟩⟩, qi_X11_ask, qs_X11_ask⟩
theorem qmL_85 : Cond.methodLink RL 85 yX12_ask ∈ z_ws := List.mem_filter.mpr ⟨List.mem_append_right _ (List.mem_of_getElem? (i := 1584) (by decide +kernel)), rfl⟩
theorem qc_X12_ask : Cond.code yX12_ask cX12_ask 4 (some .int) ∈ z_ws := List.mem_filter.mpr ⟨List.mem_append_right _ (List.mem_of_getElem? (i := 1587) (by decide +kernel)), rfl⟩
theorem qi_X12_ask : Cond.instanceMethod yX12_ask ∈ z_ws := List.mem_filter.mpr ⟨List.mem_append_right _ (List.mem_of_getElem? (i := 1585) (by decide +kernel)), rfl⟩
theorem qs_X12_ask : Cond.selects RX12 yX12_ask yX12_ask ∈ z_ws := List.mem_filter.mpr ⟨List.mem_append_right _ (List.mem_of_getElem? (i := 1586) (by decide +kernel)), rfl⟩
theorem md_X12_ask : z_mdV yX12_ask cX12_ask 4 (some .int) 2 := ⟨⟨qn_RX12, qc_X12_ask, ⟨by decide +kernel, by decide +kernel, by decide +kernel⟩⟩, qi_X12_ask, qs_X12_ask⟩
theorem qmL_86 : Cond.methodLink RL 86 yX11_sleep ∈ z_ws := List.mem_filter.mpr ⟨List.mem_append_right _ (List.mem_of_getElem? (i := 557) (by decide +kernel)), rfl⟩
theorem qc_X11_sleep : Cond.code yX11_sleep cX11_sleep 2 (some .int) ∈ z_ws := List.mem_filter.mpr ⟨List.mem_append_right _ (List.mem_of_getElem? (i := 560) (by decide +kernel)), rfl⟩
theorem qi_X11_sleep : Cond.instanceMethod yX11_sleep ∈ z_ws := List.mem_filter.mpr ⟨List.mem_append_right _ (List.mem_of_getElem? (i := 558) (by decide +kernel)), rfl⟩
theorem qs_X11_sleep : Cond.selects RX11 yX11_sleep yX11_sleep ∈ z_ws := List.mem_filter.mpr ⟨List.mem_append_right _ (List.mem_of_getElem? (i := 559) (by decide +kernel)), rfl⟩
theorem md_X11_sleep : z_mdV yX11_sleep cX11_sleep 2 (some .int) 0 := ⟨⟨qn_RX11, qc_X11_sleep, ⟨by decide +kernel, by decide +kernel, by decide +kernel⟩⟩, qi_X11_sleep, qs_X11_sleep⟩
theorem qmL_89 : Cond.methodLink RL 89 yX12_sleep ∈ z_ws := List.mem_filter.mpr ⟨List.mem_append_right _ (List.mem_of_getElem? (i := 1604) (by decide +kernel)), rfl⟩
theorem qc_X12_sleep : Cond.code yX12_sleep cX12_sleep 2 (some .int) ∈ z_ws := List.mem_filter.mpr ⟨List.mem_append_right _ (List.mem_of_getElem? (i := 1607) (by decide +kernel)), rfl⟩
theorem qi_X12_sleep : Cond.instanceMethod yX12_sleep ∈ z_ws := List.mem_filter.mpr ⟨List.mem_append_right _ (List.mem_of_getElem? (i := 1605) (by decide +kernel)), rfl⟩
theorem qs_X12_sleep : Cond.selects RX12 yX12_sleep yX12_sleep ∈ z_ws := List.mem_filter.mpr ⟨List.mem_append_right _ (List.mem_of_getElem? (i := 1606) (by decide +kernel)), rfl⟩
theorem md_X12_sleep : z_mdV yX12_sleep cX12_sleep 2 (some .int) 0 := ⟨⟨qn_RX12, qc_X12_sleep, ⟨by decide +kernel, by decide +kernel, by decide +kernel⟩⟩, qi_X12_sleep, qs_X12_sleep⟩
theorem qmL_90 : Cond.methodLink RL 90 yX11_answer ∈ z_ws := List.mem_filter.mpr ⟨List.mem_append_right _ (List.mem_of_getElem? (i := 562) (by decide +kernel)), rfl⟩
theorem qc_X11_answer : Cond.code yX11_answer cX11_answer 2 (some .int) ∈ z_ws := List.mem_filter.mpr ⟨List.mem_append_right _ (List.mem_of_getElem? (i := 565) (by decide +kernel)), rfl⟩
theorem qi_X11_answer : Cond.instanceMethod yX11_answer ∈ z_ws := List.mem_filter.mpr ⟨List.mem_append_right _ (List.mem_of_getElem? (i := 563) (by decide +kernel)), rfl⟩
theorem qs_X11_answer : Cond.selects RX11 yX11_answer yX11_answer ∈ z_ws := List.mem_filter.mpr ⟨List.mem_append_right _ (List.mem_of_getElem? (i := 564) (by decide +kernel)), rfl⟩
theorem md_X11_answer : z_mdV yX11_answer cX11_answer 2 (some .int) 1 := ⟨⟨qn_RX11, qc_X11_answer, ⟨by decide +kernel, by decide +kernel, by decide +kernel⟩⟩, qi_X11_answer, qs_X11_answer⟩
theorem qmL_94 : Cond.methodLink RL 94 yX12_answer ∈ z_ws := List.mem_filter.mpr ⟨List.mem_append_right _ (List.mem_of_getElem? (i := 1608) (by decide +kernel)), rfl⟩
theorem qc_X12_answer : Cond.code yX12_answer cX12_answer 2 (some .int) ∈ z_ws := List.mem_filter.mpr ⟨List.mem_append_right _ (List.mem_of_getElem? (i := 1611) (by decide +kernel)), rfl⟩
theorem qi_X12_answer : Cond.instanceMethod yX12_answer ∈ z_ws := List.mem_filter.mpr ⟨List.mem_append_right _ (List.mem_of_getElem? (i := 1609) (by decide +kernel)), rfl⟩
theorem qs_X12_answer : Cond.selects RX12 yX12_answer yX12_answer ∈ z_ws := List.mem_filter.mpr ⟨List.mem_append_right _ (List.mem_of_getElem? (i := 1610) (by decide +kernel)), rfl⟩
theorem md_X12_answer : z_mdV yX12_answer cX12_answer 2 (some .int) 1 := ⟨⟨qn_RX12, qc_X12_answer, ⟨by decide +kernel, by decide +kernel, by decide +kernel⟩⟩, qi_X12_answer, qs_X12_answer⟩
theorem qmL_95 : Cond.methodLink RL 95 yX11_undo ∈ z_ws := List.mem_filter.mpr ⟨List.mem_append_right _ (List.mem_of_getElem? (i := 570) (by decide +kernel)), rfl⟩
theorem qc_X11_undo : Cond.code yX11_undo cX11_undo 1 (some .int) ∈ z_ws := List.mem_filter.mpr ⟨List.mem_append_right _ (List.mem_of_getElem? (i := 573) (by decide +kernel)), rfl⟩
theorem qi_X11_undo : Cond.instanceMethod yX11_undo ∈ z_ws := List.mem_filter.mpr ⟨List.mem_append_right _ (List.mem_of_getElem? (i := 571) (by decide +kernel)), rfl⟩
theorem qs_X11_undo : Cond.selects RX11 yX11_undo yX11_undo ∈ z_ws := List.mem_filter.mpr ⟨List.mem_append_right _ (List.mem_of_getElem? (i := 572) (by decide +kernel)), rfl⟩
theorem md_X11_undo : z_mdV yX11_undo cX11_undo 1 (some .int) 0 := ⟨⟨qn_RX11, qc_X11_undo, ⟨by decide +kernel, by decide +kernel, by decide +kernel⟩⟩, qi_X11_undo, qs_X11_undo⟩
theorem qmL_98 : Cond.methodLink RL 98 yX12_undo ∈ z_ws := List.mem_filter.mpr ⟨List.mem_append_right _ (List.mem_of_getElem? (i := 1580) (by decide +kernel)), rfl⟩
theorem qc_X12_undo : Cond.code yX12_undo cX12_undo 2 (some .int) ∈ z_ws := List.mem_filter.mpr ⟨List.mem_append_right _ (List.mem_of_getElem? (i := 1583) (by decide +kernel)), rfl⟩
theorem qi_X12_undo : Cond.instanceMethod yX12_undo ∈ z_ws := List.mem_filter.mpr ⟨List.mem_append_right _ (List.mem_of_getElem? (i := 1581) (by decide +kernel)), rfl⟩
theorem qs_X12_undo : Cond.selects RX12 yX12_undo yX12_undo ∈ z_ws := List.mem_filter.mpr ⟨List.mem_append_right _ (List.mem_of_getElem? (i := 1582) (by decide +kernel)), rfl⟩
theorem md_X12_undo : z_mdV yX12_undo cX12_undo 2 (some .int) 0 := ⟨⟨qn_RX12, qc_X12_undo, ⟨by decide +kernel, by decide +kernel, by decide +kernel⟩⟩, qi_X12_undo, qs_X12_undo⟩
theorem qmL_99 : Cond.methodLink RL 99 yL_sure ∈ z_ws := List.mem_filter.mpr ⟨List.mem_append_right _ (List.mem_of_getElem? (i := 1069) (by decide +kernel)), rfl⟩
theorem qmL_104 : Cond.methodLink RL 104 yX12_sure ∈ z_ws := List.mem_filter.mpr ⟨List.mem_append_right _ (List.mem_of_getElem? (i := 1612) (by decide +kernel)), rfl⟩
theorem qc_X12_sure : Cond.code yX12_sure cX12_sure 4 (some .long) ∈ z_ws := List.mem_filter.mpr ⟨List.mem_append_right _ (List.mem_of_getElem? (i := 1615) (by decide +kernel)), rfl⟩
theorem qi_X12_sure : Cond.instanceMethod yX12_sure ∈ z_ws := List.mem_filter.mpr ⟨List.mem_append_right _ (List.mem_of_getElem? (i := 1613) (by decide +kernel)), rfl⟩
theorem qs_X12_sure : Cond.selects RX12 yX12_sure yX12_sure ∈ z_ws := List.mem_filter.mpr ⟨List.mem_append_right _ (List.mem_of_getElem? (i := 1614) (by decide +kernel)), rfl⟩
theorem md_X12_sure : z_mdV yX12_sure cX12_sure 4 (some .long) 1 := ⟨⟨qn_RX12, qc_X12_sure, ⟨by decide +kernel, by decide +kernel, by decide +kernel⟩⟩, qi_X12_sure, qs_X12_sure⟩
theorem qmL_105 : Cond.methodLink RL 105 yX12_thrown ∈ z_ws := List.mem_filter.mpr ⟨List.mem_append_right _ (List.mem_of_getElem? (i := 1252) (by decide +kernel)), rfl⟩
theorem qc_X12_thrown : Cond.code yX12_thrown cX12_thrown 1 (some .int) ∈ z_ws := List.mem_filter.mpr ⟨List.mem_append_right _ (List.mem_of_getElem? (i := 1255) (by decide +kernel)), rfl⟩
theorem qi_X12_thrown : Cond.instanceMethod yX12_thrown ∈ z_ws := List.mem_filter.mpr ⟨List.mem_append_right _ (List.mem_of_getElem? (i := 1253) (by decide +kernel)), rfl⟩
theorem qs_X12_thrown : Cond.selects RX12 yX12_thrown yX12_thrown ∈ z_ws := List.mem_filter.mpr ⟨List.mem_append_right _ (List.mem_of_getElem? (i := 1254) (by decide +kernel)), rfl⟩
theorem md_X12_thrown : z_mdV yX12_thrown cX12_thrown 1 (some .int) 0 := ⟨⟨qn_RX12, qc_X12_thrown, ⟨by decide +kernel, by decide +kernel, by decide +kernel⟩⟩, qi_X12_thrown, qs_X12_thrown⟩
theorem qmL_108 : Cond.methodLink RL 108 yL_odds ∈ z_ws := List.mem_filter.mpr ⟨List.mem_append_right _ (List.mem_of_getElem? (i := 1143) (by decide +kernel)), rfl⟩
theorem qmL_111 : Cond.methodLink RL 111 yX12_odds ∈ z_ws := List.mem_filter.mpr ⟨List.mem_append_right _ (List.mem_of_getElem? (i := 1629) (by decide +kernel)), rfl⟩
theorem qc_X12_odds : Cond.code yX12_odds cX12_odds 5 (some .long) ∈ z_ws := List.mem_filter.mpr ⟨List.mem_append_right _ (List.mem_of_getElem? (i := 1632) (by decide +kernel)), rfl⟩
theorem qi_X12_odds : Cond.instanceMethod yX12_odds ∈ z_ws := List.mem_filter.mpr ⟨List.mem_append_right _ (List.mem_of_getElem? (i := 1630) (by decide +kernel)), rfl⟩
theorem qs_X12_odds : Cond.selects RX12 yX12_odds yX12_odds ∈ z_ws := List.mem_filter.mpr ⟨List.mem_append_right _ (List.mem_of_getElem? (i := 1631) (by decide +kernel)), rfl⟩
theorem md_X12_odds : z_mdV yX12_odds cX12_odds 5 (some .long) 2 := ⟨⟨qn_RX12, qc_X12_odds, ⟨by decide +kernel, by decide +kernel, by decide +kernel⟩⟩, qi_X12_odds, qs_X12_odds⟩
theorem qmL_112 : Cond.methodLink RL 112 yX11_up ∈ z_ws := List.mem_filter.mpr ⟨List.mem_append_right _ (List.mem_of_getElem? (i := 578) (by decide +kernel)), rfl⟩
theorem qc_X11_up : Cond.code yX11_up cX11_up 1 (some .int) ∈ z_ws := List.mem_filter.mpr ⟨List.mem_append_right _ (List.mem_of_getElem? (i := 581) (by decide +kernel)), rfl⟩
theorem qi_X11_up : Cond.instanceMethod yX11_up ∈ z_ws := List.mem_filter.mpr ⟨List.mem_append_right _ (List.mem_of_getElem? (i := 579) (by decide +kernel)), rfl⟩
theorem qs_X11_up : Cond.selects RX11 yX11_up yX11_up ∈ z_ws := List.mem_filter.mpr ⟨List.mem_append_right _ (List.mem_of_getElem? (i := 580) (by decide +kernel)), rfl⟩
theorem md_X11_up : z_mdV yX11_up cX11_up 1 (some .int) 0 := ⟨⟨qn_RX11, qc_X11_up, ⟨by decide +kernel, by decide +kernel, by decide +kernel⟩⟩, qi_X11_up, qs_X11_up⟩
theorem qmL_115 : Cond.methodLink RL 115 yX12_up ∈ z_ws := List.mem_filter.mpr ⟨List.mem_append_right _ (List.mem_of_getElem? (i := 1637) (by decide +kernel)), rfl⟩
theorem qc_X12_up : Cond.code yX12_up cX12_up 1 (some .int) ∈ z_ws := List.mem_filter.mpr ⟨List.mem_append_right _ (List.mem_of_getElem? (i := 1640) (by decide +kernel)), rfl⟩
theorem qi_X12_up : Cond.instanceMethod yX12_up ∈ z_ws := List.mem_filter.mpr ⟨List.mem_append_right _ (List.mem_of_getElem? (i := 1638) (by decide +kernel)), rfl⟩
theorem qs_X12_up : Cond.selects RX12 yX12_up yX12_up ∈ z_ws := List.mem_filter.mpr ⟨List.mem_append_right _ (List.mem_of_getElem? (i := 1639) (by decide +kernel)), rfl⟩
theorem md_X12_up : z_mdV yX12_up cX12_up 1 (some .int) 0 := ⟨⟨qn_RX12, qc_X12_up, ⟨by decide +kernel, by decide +kernel, by decide +kernel⟩⟩, qi_X12_up, qs_X12_up⟩
theorem qmL_116 : Cond.methodLink RL 116 yX11_likely ∈ z_ws := List.mem_filter.mpr ⟨List.mem_append_right _ (List.mem_of_getElem? (i := 594) (by decide +kernel)), rfl⟩
theorem qc_X11_likely : Cond.code yX11_likely cX11_likely 4 (some .int) ∈ z_ws := List.mem_filter.mpr ⟨List.mem_append_right _ (List.mem_of_getElem? (i := 597) (by decide +kernel)), rfl⟩
theorem qi_X11_likely : Cond.instanceMethod yX11_likely ∈ z_ws := List.mem_filter.mpr ⟨List.mem_append_right _ (List.mem_of_getElem? (i := 595) (by decide +kernel)), rfl⟩
theorem qs_X11_likely : Cond.selects RX11 yX11_likely yX11_likely ∈ z_ws := List.mem_filter.mpr ⟨List.mem_append_right _ (List.mem_of_getElem? (i := 596) (by decide +kernel)), rfl⟩
theorem md_X11_likely : z_mdV yX11_likely cX11_likely 4 (some .int) 0 := ⟨⟨qn_RX11, qc_X11_likely, ⟨by decide +kernel, by decide +kernel, by decide +kernel⟩⟩, qi_X11_likely, qs_X11_likely⟩
theorem qmL_119 : Cond.methodLink RL 119 yX12_likely ∈ z_ws := List.mem_filter.mpr ⟨List.mem_append_right _ (List.mem_of_getElem? (i := 1645) (by decide +kernel)), rfl⟩
theorem qc_X12_likely : Cond.code yX12_likely cX12_likely 3 (some .int) ∈ z_ws := List.mem_filter.mpr ⟨List.mem_append_right _ (List.mem_of_getElem? (i := 1648) (by decide +kernel)), rfl⟩
theorem qi_X12_likely : Cond.instanceMethod yX12_likely ∈ z_ws := List.mem_filter.mpr ⟨List.mem_append_right _ (List.mem_of_getElem? (i := 1646) (by decide +kernel)), rfl⟩
theorem qs_X12_likely : Cond.selects RX12 yX12_likely yX12_likely ∈ z_ws := List.mem_filter.mpr ⟨List.mem_append_right _ (List.mem_of_getElem? (i := 1647) (by decide +kernel)), rfl⟩
theorem md_X12_likely : z_mdV yX12_likely cX12_likely 3 (some .int) 0 := ⟨⟨qn_RX12, qc_X12_likely, ⟨by decide +kernel, by decide +kernel, by decide +kernel⟩⟩, qi_X12_likely, qs_X12_likely⟩
theorem qmL_120 : Cond.methodLink RL 120 yX11_fits ∈ z_ws := List.mem_filter.mpr ⟨List.mem_append_right _ (List.mem_of_getElem? (i := 599) (by decide +kernel)), rfl⟩
theorem qc_X11_fits : Cond.code yX11_fits cX11_fits 3 (some .int) ∈ z_ws := List.mem_filter.mpr ⟨List.mem_append_right _ (List.mem_of_getElem? (i := 602) (by decide +kernel)), rfl⟩
theorem qi_X11_fits : Cond.instanceMethod yX11_fits ∈ z_ws := List.mem_filter.mpr ⟨List.mem_append_right _ (List.mem_of_getElem? (i := 600) (by decide +kernel)), rfl⟩
theorem qs_X11_fits : Cond.selects RX11 yX11_fits yX11_fits ∈ z_ws := List.mem_filter.mpr ⟨List.mem_append_right _ (List.mem_of_getElem? (i := 601) (by decide +kernel)), rfl⟩
theorem md_X11_fits : z_mdV yX11_fits cX11_fits 3 (some .int) 0 := ⟨⟨qn_RX11, qc_X11_fits, ⟨by decide +kernel, by decide +kernel, by decide +kernel⟩⟩, qi_X11_fits, qs_X11_fits⟩
theorem qmL_123 : Cond.methodLink RL 123 yX12_fits ∈ z_ws := List.mem_filter.mpr ⟨List.mem_append_right _ (List.mem_of_getElem? (i := 1649) (by decide +kernel)), rfl⟩
theorem qc_X12_fits : Cond.code yX12_fits cX12_fits 3 (some .int) ∈ z_ws := List.mem_filter.mpr ⟨List.mem_append_right _ (List.mem_of_getElem? (i := 1652) (by decide +kernel)), rfl⟩
theorem qi_X12_fits : Cond.instanceMethod yX12_fits ∈ z_ws := List.mem_filter.mpr ⟨List.mem_append_right _ (List.mem_of_getElem? (i := 1650) (by decide +kernel)), rfl⟩
theorem qs_X12_fits : Cond.selects RX12 yX12_fits yX12_fits ∈ z_ws := List.mem_filter.mpr ⟨List.mem_append_right _ (List.mem_of_getElem? (i := 1651) (by decide +kernel)), rfl⟩
theorem md_X12_fits : z_mdV yX12_fits cX12_fits 3 (some .int) 0 := ⟨⟨qn_RX12, qc_X12_fits, ⟨by decide +kernel, by decide +kernel, by decide +kernel⟩⟩, qi_X12_fits, qs_X12_fits⟩
theorem qmL_124 : Cond.methodLink RL 124 yX11_enough ∈ z_ws := List.mem_filter.mpr ⟨List.mem_append_right _ (List.mem_of_getElem? (i := 603) (by decide +kernel)), rfl⟩
theorem qc_X11_enough : Cond.code yX11_enough cX11_enough 6 (some .int) ∈ z_ws := List.mem_filter.mpr ⟨List.mem_append_right _ (List.mem_of_getElem? (i := 606) (by decide +kernel)), rfl⟩
theorem qi_X11_enough : Cond.instanceMethod yX11_enough ∈ z_ws := List.mem_filter.mpr ⟨List.mem_append_right _ (List.mem_of_getElem? (i := 604) (by decide +kernel)), rfl⟩
theorem qs_X11_enough : Cond.selects RX11 yX11_enough yX11_enough ∈ z_ws := List.mem_filter.mpr ⟨List.mem_append_right _ (List.mem_of_getElem? (i := 605) (by decide +kernel)), rfl⟩
theorem md_X11_enough : z_mdV yX11_enough cX11_enough 6 (some .int) 0 := ⟨⟨qn_RX11, qc_X11_enough, ⟨by decide +kernel, by decide +kernel, by decide +kernel⟩⟩, qi_X11_enough, qs_X11_enough⟩
theorem qmL_127 : Cond.methodLink RL 127 yX12_enough ∈ z_ws := List.mem_filter.mpr ⟨List.mem_append_right _ (List.mem_of_getElem? (i := 1653) (by decide +kernel)), rfl⟩
theorem qc_X12_enough : Cond.code yX12_enough cX12_enough 5 (some .int) ∈ z_ws := List.mem_filter.mpr ⟨List.mem_append_right _ (List.mem_of_getElem? (i := 1656) (by decide +kernel)), rfl⟩
theorem qi_X12_enough : Cond.instanceMethod yX12_enough ∈ z_ws := List.mem_filter.mpr ⟨List.mem_append_right _ (List.mem_of_getElem? (i := 1654) (by decide +kernel)), rfl⟩
theorem qs_X12_enough : Cond.selects RX12 yX12_enough yX12_enough ∈ z_ws := List.mem_filter.mpr ⟨List.mem_append_right _ (List.mem_of_getElem? (i := 1655) (by decide +kernel)), rfl⟩
theorem md_X12_enough : z_mdV yX12_enough cX12_enough 5 (some .int) 0 := ⟨⟨qn_RX12, qc_X12_enough, ⟨by decide +kernel, by decide +kernel, by decide +kernel⟩⟩, qi_X12_enough, qs_X12_enough⟩
theorem qmL_128 : Cond.methodLink RL 128 yX11_forger ∈ z_ws := List.mem_filter.mpr ⟨List.mem_append_right _ (List.mem_of_getElem? (i := 621) (by decide +kernel)), rfl⟩
theorem qc_X11_forger : Cond.code yX11_forger cX11_forger 1 (some .int) ∈ z_ws := List.mem_filter.mpr ⟨List.mem_append_right _ (List.mem_of_getElem? (i := 624) (by decide +kernel)), rfl⟩
theorem qi_X11_forger : Cond.instanceMethod yX11_forger ∈ z_ws := List.mem_filter.mpr ⟨List.mem_append_right _ (List.mem_of_getElem? (i := 622) (by decide +kernel)), rfl⟩
theorem qs_X11_forger : Cond.selects RX11 yX11_forger yX11_forger ∈ z_ws := List.mem_filter.mpr ⟨List.mem_append_right _ (List.mem_of_getElem? (i := 623) (by decide +kernel)), rfl⟩
theorem md_X11_forger : z_mdV yX11_forger cX11_forger 1 (some .int) 0 := ⟨⟨qn_RX11, qc_X11_forger, ⟨by decide +kernel, by decide +kernel, by decide +kernel⟩⟩, qi_X11_forger, qs_X11_forger⟩
theorem qmL_131 : Cond.methodLink RL 131 yX12_forger ∈ z_ws := List.mem_filter.mpr ⟨List.mem_append_right _ (List.mem_of_getElem? (i := 1664) (by decide +kernel)), rfl⟩
theorem qc_X12_forger : Cond.code yX12_forger cX12_forger 2 (some .int) ∈ z_ws := List.mem_filter.mpr ⟨List.mem_append_right _ (List.mem_of_getElem? (i := 1667) (by decide +kernel)), rfl⟩
theorem qi_X12_forger : Cond.instanceMethod yX12_forger ∈ z_ws := List.mem_filter.mpr ⟨List.mem_append_right _ (List.mem_of_getElem? (i := 1665) (by decide +kernel)), rfl⟩
theorem qs_X12_forger : Cond.selects RX12 yX12_forger yX12_forger ∈ z_ws := List.mem_filter.mpr ⟨List.mem_append_right _ (List.mem_of_getElem? (i := 1666) (by decide +kernel)), rfl⟩
theorem md_X12_forger : z_mdV yX12_forger cX12_forger 2 (some .int) 0 := ⟨⟨qn_RX12, qc_X12_forger, ⟨by decide +kernel, by decide +kernel, by decide +kernel⟩⟩, qi_X12_forger, qs_X12_forger⟩
theorem qmL_132 : Cond.methodLink RL 132 yL_error ∈ z_ws := List.mem_filter.mpr ⟨List.mem_append_right _ (List.mem_of_getElem? (i := 1150) (by decide +kernel)), rfl⟩
theorem qmL_134 : Cond.methodLink RL 134 yX12_error ∈ z_ws := List.mem_filter.mpr ⟨List.mem_append_right _ (List.mem_of_getElem? (i := 1668) (by decide +kernel)), rfl⟩
theorem qc_X12_error : Cond.code yX12_error cX12_error 3 (some .long) ∈ z_ws := List.mem_filter.mpr ⟨List.mem_append_right _ (List.mem_of_getElem? (i := 1671) (by decide +kernel)), rfl⟩
theorem qi_X12_error : Cond.instanceMethod yX12_error ∈ z_ws := List.mem_filter.mpr ⟨List.mem_append_right _ (List.mem_of_getElem? (i := 1669) (by decide +kernel)), rfl⟩
theorem qs_X12_error : Cond.selects RX12 yX12_error yX12_error ∈ z_ws := List.mem_filter.mpr ⟨List.mem_append_right _ (List.mem_of_getElem? (i := 1670) (by decide +kernel)), rfl⟩
theorem md_X12_error : z_mdV yX12_error cX12_error 3 (some .long) 2 := ⟨⟨qn_RX12, qc_X12_error, ⟨by decide +kernel, by decide +kernel, by decide +kernel⟩⟩, qi_X12_error, qs_X12_error⟩
theorem qmL_135 : Cond.methodLink RL 135 yX11_pair ∈ z_ws := List.mem_filter.mpr ⟨List.mem_append_right _ (List.mem_of_getElem? (i := 625) (by decide +kernel)), rfl⟩
theorem qc_X11_pair : Cond.code yX11_pair cX11_pair 9 (some .int) ∈ z_ws := List.mem_filter.mpr ⟨List.mem_append_right _ (List.mem_of_getElem? (i := 628) (by decide +kernel)), rfl⟩
theorem qi_X11_pair : Cond.instanceMethod yX11_pair ∈ z_ws := List.mem_filter.mpr ⟨List.mem_append_right _ (List.mem_of_getElem? (i := 626) (by decide +kernel)), rfl⟩
theorem qs_X11_pair : Cond.selects RX11 yX11_pair yX11_pair ∈ z_ws := List.mem_filter.mpr ⟨List.mem_append_right _ (List.mem_of_getElem? (i := 627) (by decide +kernel)), rfl⟩
theorem md_X11_pair : z_mdV yX11_pair cX11_pair 9 (some .int) 0 := ⟨⟨qn_RX11, qc_X11_pair, ⟨by decide +kernel, by decide +kernel, by decide +kernel⟩⟩, qi_X11_pair, qs_X11_pair⟩
theorem qmL_138 : Cond.methodLink RL 138 yX12_pair ∈ z_ws := List.mem_filter.mpr ⟨List.mem_append_right _ (List.mem_of_getElem? (i := 1691) (by decide +kernel)), rfl⟩
theorem qc_X12_pair : Cond.code yX12_pair cX12_pair 8 (some .int) ∈ z_ws := List.mem_filter.mpr ⟨List.mem_append_right _ (List.mem_of_getElem? (i := 1694) (by decide +kernel)), rfl⟩
theorem qi_X12_pair : Cond.instanceMethod yX12_pair ∈ z_ws := List.mem_filter.mpr ⟨List.mem_append_right _ (List.mem_of_getElem? (i := 1692) (by decide +kernel)), rfl⟩
theorem qs_X12_pair : Cond.selects RX12 yX12_pair yX12_pair ∈ z_ws := List.mem_filter.mpr ⟨List.mem_append_right _ (List.mem_of_getElem? (i := 1693) (by decide +kernel)), rfl⟩
theorem md_X12_pair : z_mdV yX12_pair cX12_pair 8 (some .int) 0 := ⟨⟨qn_RX12, qc_X12_pair, ⟨by decide +kernel, by decide +kernel, by decide +kernel⟩⟩, qi_X12_pair, qs_X12_pair⟩
theorem qmL_139 : Cond.methodLink RL 139 yL_cost ∈ z_ws := List.mem_filter.mpr ⟨List.mem_append_right _ (List.mem_of_getElem? (i := 1163) (by decide +kernel)), rfl⟩
theorem qmL_141 : Cond.methodLink RL 141 yX12_cost ∈ z_ws := List.mem_filter.mpr ⟨List.mem_append_right _ (List.mem_of_getElem? (i := 1695) (by decide +kernel)), rfl⟩
theorem qc_X12_cost : Cond.code yX12_cost cX12_cost 3 (some .long) ∈ z_ws := List.mem_filter.mpr ⟨List.mem_append_right _ (List.mem_of_getElem? (i := 1698) (by decide +kernel)), rfl⟩
theorem qi_X12_cost : Cond.instanceMethod yX12_cost ∈ z_ws := List.mem_filter.mpr ⟨List.mem_append_right _ (List.mem_of_getElem? (i := 1696) (by decide +kernel)), rfl⟩
theorem qs_X12_cost : Cond.selects RX12 yX12_cost yX12_cost ∈ z_ws := List.mem_filter.mpr ⟨List.mem_append_right _ (List.mem_of_getElem? (i := 1697) (by decide +kernel)), rfl⟩
theorem md_X12_cost : z_mdV yX12_cost cX12_cost 3 (some .long) 2 := ⟨⟨qn_RX12, qc_X12_cost, ⟨by decide +kernel, by decide +kernel, by decide +kernel⟩⟩, qi_X12_cost, qs_X12_cost⟩
theorem qmL_142 : Cond.methodLink RL 142 yX11_first ∈ z_ws := List.mem_filter.mpr ⟨List.mem_append_right _ (List.mem_of_getElem? (i := 642) (by decide +kernel)), rfl⟩
theorem qc_X11_first : Cond.code yX11_first cX11_first 2 (some .int) ∈ z_ws := List.mem_filter.mpr ⟨List.mem_append_right _ (List.mem_of_getElem? (i := 645) (by decide +kernel)), rfl⟩
theorem qi_X11_first : Cond.instanceMethod yX11_first ∈ z_ws := List.mem_filter.mpr ⟨List.mem_append_right _ (List.mem_of_getElem? (i := 643) (by decide +kernel)), rfl⟩
theorem qs_X11_first : Cond.selects RX11 yX11_first yX11_first ∈ z_ws := List.mem_filter.mpr ⟨List.mem_append_right _ (List.mem_of_getElem? (i := 644) (by decide +kernel)), rfl⟩
theorem md_X11_first : z_mdV yX11_first cX11_first 2 (some .int) 1 := ⟨⟨qn_RX11, qc_X11_first, ⟨by decide +kernel, by decide +kernel, by decide +kernel⟩⟩, qi_X11_first, qs_X11_first⟩
theorem qmL_145 : Cond.methodLink RL 145 yX12_first ∈ z_ws := List.mem_filter.mpr ⟨List.mem_append_right _ (List.mem_of_getElem? (i := 1719) (by decide +kernel)), rfl⟩
theorem qc_X12_first : Cond.code yX12_first cX12_first 2 (some .int) ∈ z_ws := List.mem_filter.mpr ⟨List.mem_append_right _ (List.mem_of_getElem? (i := 1722) (by decide +kernel)), rfl⟩
theorem qi_X12_first : Cond.instanceMethod yX12_first ∈ z_ws := List.mem_filter.mpr ⟨List.mem_append_right _ (List.mem_of_getElem? (i := 1720) (by decide +kernel)), rfl⟩
theorem qs_X12_first : Cond.selects RX12 yX12_first yX12_first ∈ z_ws := List.mem_filter.mpr ⟨List.mem_append_right _ (List.mem_of_getElem? (i := 1721) (by decide +kernel)), rfl⟩
theorem md_X12_first : z_mdV yX12_first cX12_first 2 (some .int) 1 := ⟨⟨qn_RX12, qc_X12_first, ⟨by decide +kernel, by decide +kernel, by decide +kernel⟩⟩, qi_X12_first, qs_X12_first⟩
theorem qmL_146 : Cond.methodLink RL 146 yX11_write ∈ z_ws := List.mem_filter.mpr ⟨List.mem_append_right _ (List.mem_of_getElem? (i := 694) (by decide +kernel)), rfl⟩
theorem qc_X11_write : Cond.code yX11_write cX11_write 2 (some .int) ∈ z_ws := List.mem_filter.mpr ⟨List.mem_append_right _ (List.mem_of_getElem? (i := 697) (by decide +kernel)), rfl⟩
theorem qi_X11_write : Cond.instanceMethod yX11_write ∈ z_ws := List.mem_filter.mpr ⟨List.mem_append_right _ (List.mem_of_getElem? (i := 695) (by decide +kernel)), rfl⟩
theorem qs_X11_write : Cond.selects RX11 yX11_write yX11_write ∈ z_ws := List.mem_filter.mpr ⟨List.mem_append_right _ (List.mem_of_getElem? (i := 696) (by decide +kernel)), rfl⟩
theorem md_X11_write : z_mdV yX11_write cX11_write 2 (some .int) 1 := ⟨⟨qn_RX11, qc_X11_write, ⟨by decide +kernel, by decide +kernel, by decide +kernel⟩⟩, qi_X11_write, qs_X11_write⟩
theorem qmL_149 : Cond.methodLink RL 149 yX12_write ∈ z_ws := List.mem_filter.mpr ⟨List.mem_append_right _ (List.mem_of_getElem? (i := 1723) (by decide +kernel)), rfl⟩
theorem qc_X12_write : Cond.code yX12_write cX12_write 6 (some .int) ∈ z_ws := List.mem_filter.mpr ⟨List.mem_append_right _ (List.mem_of_getElem? (i := 1726) (by decide +kernel)), rfl⟩
theorem qi_X12_write : Cond.instanceMethod yX12_write ∈ z_ws := List.mem_filter.mpr ⟨List.mem_append_right _ (List.mem_of_getElem? (i := 1724) (by decide +kernel)), rfl⟩
theorem qs_X12_write : Cond.selects RX12 yX12_write yX12_write ∈ z_ws := List.mem_filter.mpr ⟨List.mem_append_right _ (List.mem_of_getElem? (i := 1725) (by decide +kernel)), rfl⟩
theorem md_X12_write : z_mdV yX12_write cX12_write 6 (some .int) 1 := ⟨⟨qn_RX12, qc_X12_write, ⟨by decide +kernel, by decide +kernel, by decide +kernel⟩⟩, qi_X12_write, qs_X12_write⟩
theorem qmL_150 : Cond.methodLink RL 150 yX11_byteAt ∈ z_ws := List.mem_filter.mpr ⟨List.mem_append_right _ (List.mem_of_getElem? (i := 771) (by decide +kernel)), rfl⟩
theorem qc_X11_byteAt : Cond.code yX11_byteAt cX11_byteAt 2 (some .int) ∈ z_ws := List.mem_filter.mpr ⟨List.mem_append_right _ (List.mem_of_getElem? (i := 774) (by decide +kernel)), rfl⟩
theorem qi_X11_byteAt : Cond.instanceMethod yX11_byteAt ∈ z_ws := List.mem_filter.mpr ⟨List.mem_append_right _ (List.mem_of_getElem? (i := 772) (by decide +kernel)), rfl⟩
theorem qs_X11_byteAt : Cond.selects RX11 yX11_byteAt yX11_byteAt ∈ z_ws := List.mem_filter.mpr ⟨List.mem_append_right _ (List.mem_of_getElem? (i := 773) (by decide +kernel)), rfl⟩
theorem md_X11_byteAt : z_mdV yX11_byteAt cX11_byteAt 2 (some .int) 1 := ⟨⟨qn_RX11, qc_X11_byteAt, ⟨by decide +kernel, by decide +kernel, by decide +kernel⟩⟩, qi_X11_byteAt, qs_X11_byteAt⟩
theorem qmL_153 : Cond.methodLink RL 153 yX12_byteAt ∈ z_ws := List.mem_filter.mpr ⟨List.mem_append_right _ (List.mem_of_getElem? (i := 1740) (by decide +kernel)), rfl⟩
theorem qc_X12_byteAt : Cond.code yX12_byteAt cX12_byteAt 2 (some .int) ∈ z_ws := List.mem_filter.mpr ⟨List.mem_append_right _ (List.mem_of_getElem? (i := 1743) (by decide +kernel)), rfl⟩
theorem qi_X12_byteAt : Cond.instanceMethod yX12_byteAt ∈ z_ws := List.mem_filter.mpr ⟨List.mem_append_right _ (List.mem_of_getElem? (i := 1741) (by decide +kernel)), rfl⟩
theorem qs_X12_byteAt : Cond.selects RX12 yX12_byteAt yX12_byteAt ∈ z_ws := List.mem_filter.mpr ⟨List.mem_append_right _ (List.mem_of_getElem? (i := 1742) (by decide +kernel)), rfl⟩
theorem md_X12_byteAt : z_mdV yX12_byteAt cX12_byteAt 2 (some .int) 1 := ⟨⟨qn_RX12, qc_X12_byteAt, ⟨by decide +kernel, by decide +kernel, by decide +kernel⟩⟩, qi_X12_byteAt, qs_X12_byteAt⟩
theorem qmL_154 : Cond.methodLink RL 154 yX11_tree ∈ z_ws := List.mem_filter.mpr ⟨List.mem_append_right _ (List.mem_of_getElem? (i := 776) (by decide +kernel)), rfl⟩
theorem qc_X11_tree : Cond.code yX11_tree cX11_tree 3 (some .int) ∈ z_ws := List.mem_filter.mpr ⟨List.mem_append_right _ (List.mem_of_getElem? (i := 779) (by decide +kernel)), rfl⟩
theorem qi_X11_tree : Cond.instanceMethod yX11_tree ∈ z_ws := List.mem_filter.mpr ⟨List.mem_append_right _ (List.mem_of_getElem? (i := 777) (by decide +kernel)), rfl⟩
theorem qs_X11_tree : Cond.selects RX11 yX11_tree yX11_tree ∈ z_ws := List.mem_filter.mpr ⟨List.mem_append_right _ (List.mem_of_getElem? (i := 778) (by decide +kernel)), rfl⟩
theorem md_X11_tree : z_mdV yX11_tree cX11_tree 3 (some .int) 0 := ⟨⟨qn_RX11, qc_X11_tree, ⟨by decide +kernel, by decide +kernel, by decide +kernel⟩⟩, qi_X11_tree, qs_X11_tree⟩
theorem qmL_157 : Cond.methodLink RL 157 yX12_tree ∈ z_ws := List.mem_filter.mpr ⟨List.mem_append_right _ (List.mem_of_getElem? (i := 1744) (by decide +kernel)), rfl⟩
theorem qc_X12_tree : Cond.code yX12_tree cX12_tree 2 (some .int) ∈ z_ws := List.mem_filter.mpr ⟨List.mem_append_right _ (List.mem_of_getElem? (i := 1747) (by decide +kernel)), rfl⟩
theorem qi_X12_tree : Cond.instanceMethod yX12_tree ∈ z_ws := List.mem_filter.mpr ⟨List.mem_append_right _ (List.mem_of_getElem? (i := 1745) (by decide +kernel)), rfl⟩
theorem qs_X12_tree : Cond.selects RX12 yX12_tree yX12_tree ∈ z_ws := List.mem_filter.mpr ⟨List.mem_append_right _ (List.mem_of_getElem? (i := 1746) (by decide +kernel)), rfl⟩
theorem md_X12_tree : z_mdV yX12_tree cX12_tree 2 (some .int) 0 := ⟨⟨qn_RX12, qc_X12_tree, ⟨by decide +kernel, by decide +kernel, by decide +kernel⟩⟩, qi_X12_tree, qs_X12_tree⟩
theorem qmL_158 : Cond.methodLink RL 158 yL_worth ∈ z_ws := List.mem_filter.mpr ⟨List.mem_append_right _ (List.mem_of_getElem? (i := 1174) (by decide +kernel)), rfl⟩
theorem qmL_160 : Cond.methodLink RL 160 yX12_worth ∈ z_ws := List.mem_filter.mpr ⟨List.mem_append_right _ (List.mem_of_getElem? (i := 1760) (by decide +kernel)), rfl⟩
theorem qc_X12_worth : Cond.code yX12_worth cX12_worth 5 (some .long) ∈ z_ws := List.mem_filter.mpr ⟨List.mem_append_right _ (List.mem_of_getElem? (i := 1763) (by decide +kernel)), rfl⟩
theorem qi_X12_worth : Cond.instanceMethod yX12_worth ∈ z_ws := List.mem_filter.mpr ⟨List.mem_append_right _ (List.mem_of_getElem? (i := 1761) (by decide +kernel)), rfl⟩
theorem qs_X12_worth : Cond.selects RX12 yX12_worth yX12_worth ∈ z_ws := List.mem_filter.mpr ⟨List.mem_append_right _ (List.mem_of_getElem? (i := 1762) (by decide +kernel)), rfl⟩
theorem md_X12_worth : z_mdV yX12_worth cX12_worth 5 (some .long) 1 := ⟨⟨qn_RX12, qc_X12_worth, ⟨by decide +kernel, by decide +kernel, by decide +kernel⟩⟩, qi_X12_worth, qs_X12_worth⟩
theorem qmL_161 : Cond.methodLink RL 161 yX11_leads ∈ z_ws := List.mem_filter.mpr ⟨List.mem_append_right _ (List.mem_of_getElem? (i := 815) (by decide +kernel)), rfl⟩
theorem qc_X11_leads : Cond.code yX11_leads cX11_leads 2 (some .int) ∈ z_ws := List.mem_filter.mpr ⟨List.mem_append_right _ (List.mem_of_getElem? (i := 818) (by decide +kernel)), rfl⟩
theorem qi_X11_leads : Cond.instanceMethod yX11_leads ∈ z_ws := List.mem_filter.mpr ⟨List.mem_append_right _ (List.mem_of_getElem? (i := 816) (by decide +kernel)), rfl⟩
theorem qs_X11_leads : Cond.selects RX11 yX11_leads yX11_leads ∈ z_ws := List.mem_filter.mpr ⟨List.mem_append_right _ (List.mem_of_getElem? (i := 817) (by decide +kernel)), rfl⟩
theorem md_X11_leads : z_mdV yX11_leads cX11_leads 2 (some .int) 0 := ⟨⟨qn_RX11, qc_X11_leads, ⟨by decide +kernel, by decide +kernel, by decide +kernel⟩⟩, qi_X11_leads, qs_X11_leads⟩
theorem qmL_164 : Cond.methodLink RL 164 yX12_leads ∈ z_ws := List.mem_filter.mpr ⟨List.mem_append_right _ (List.mem_of_getElem? (i := 1768) (by decide +kernel)), rfl⟩
theorem qc_X12_leads : Cond.code yX12_leads cX12_leads 3 (some .int) ∈ z_ws := List.mem_filter.mpr ⟨List.mem_append_right _ (List.mem_of_getElem? (i := 1771) (by decide +kernel)), rfl⟩
theorem qi_X12_leads : Cond.instanceMethod yX12_leads ∈ z_ws := List.mem_filter.mpr ⟨List.mem_append_right _ (List.mem_of_getElem? (i := 1769) (by decide +kernel)), rfl⟩
theorem qs_X12_leads : Cond.selects RX12 yX12_leads yX12_leads ∈ z_ws := List.mem_filter.mpr ⟨List.mem_append_right _ (List.mem_of_getElem? (i := 1770) (by decide +kernel)), rfl⟩
theorem md_X12_leads : z_mdV yX12_leads cX12_leads 3 (some .int) 0 := ⟨⟨qn_RX12, qc_X12_leads, ⟨by decide +kernel, by decide +kernel, by decide +kernel⟩⟩, qi_X12_leads, qs_X12_leads⟩
theorem qmL_165 : Cond.methodLink RL 165 yL_after ∈ z_ws := List.mem_filter.mpr ⟨List.mem_append_right _ (List.mem_of_getElem? (i := 1193) (by decide +kernel)), rfl⟩
theorem qmL_167 : Cond.methodLink RL 167 yX12_after ∈ z_ws := List.mem_filter.mpr ⟨List.mem_append_right _ (List.mem_of_getElem? (i := 1633) (by decide +kernel)), rfl⟩
theorem qc_X12_after : Cond.code yX12_after cX12_after 5 (some .long) ∈ z_ws := List.mem_filter.mpr ⟨List.mem_append_right _ (List.mem_of_getElem? (i := 1636) (by decide +kernel)), rfl⟩
theorem qi_X12_after : Cond.instanceMethod yX12_after ∈ z_ws := List.mem_filter.mpr ⟨List.mem_append_right _ (List.mem_of_getElem? (i := 1634) (by decide +kernel)), rfl⟩
theorem qs_X12_after : Cond.selects RX12 yX12_after yX12_after ∈ z_ws := List.mem_filter.mpr ⟨List.mem_append_right _ (List.mem_of_getElem? (i := 1635) (by decide +kernel)), rfl⟩
theorem md_X12_after : z_mdV yX12_after cX12_after 5 (some .long) 2 := ⟨⟨qn_RX12, qc_X12_after, ⟨by decide +kernel, by decide +kernel, by decide +kernel⟩⟩, qi_X12_after, qs_X12_after⟩
theorem qmL_168 : Cond.methodLink RL 168 yL_lot ∈ z_ws := List.mem_filter.mpr ⟨List.mem_append_right _ (List.mem_of_getElem? (i := 1200) (by decide +kernel)), rfl⟩
theorem qmL_170 : Cond.methodLink RL 170 yX12_lot ∈ z_ws := List.mem_filter.mpr ⟨List.mem_append_right _ (List.mem_of_getElem? (i := 1772) (by decide +kernel)), rfl⟩
theorem qc_X12_lot : Cond.code yX12_lot cX12_lot 2 (some .long) ∈ z_ws := List.mem_filter.mpr ⟨List.mem_append_right _ (List.mem_of_getElem? (i := 1775) (by decide +kernel)), rfl⟩
theorem qi_X12_lot : Cond.instanceMethod yX12_lot ∈ z_ws := List.mem_filter.mpr ⟨List.mem_append_right _ (List.mem_of_getElem? (i := 1773) (by decide +kernel)), rfl⟩
theorem qs_X12_lot : Cond.selects RX12 yX12_lot yX12_lot ∈ z_ws := List.mem_filter.mpr ⟨List.mem_append_right _ (List.mem_of_getElem? (i := 1774) (by decide +kernel)), rfl⟩
theorem md_X12_lot : z_mdV yX12_lot cX12_lot 2 (some .long) 1 := ⟨⟨qn_RX12, qc_X12_lot, ⟨by decide +kernel, by decide +kernel, by decide +kernel⟩⟩, qi_X12_lot, qs_X12_lot⟩
theorem qmL_171 : Cond.methodLink RL 171 yL_share ∈ z_ws := List.mem_filter.mpr ⟨List.mem_append_right _ (List.mem_of_getElem? (i := 1223) (by decide +kernel)), rfl⟩
theorem qmL_173 : Cond.methodLink RL 173 yX12_share ∈ z_ws := List.mem_filter.mpr ⟨List.mem_append_right _ (List.mem_of_getElem? (i := 1782) (by decide +kernel)), rfl⟩
theorem qc_X12_share : Cond.code yX12_share cX12_share 3 (some .long) ∈ z_ws := List.mem_filter.mpr ⟨List.mem_append_right _ (List.mem_of_getElem? (i := 1785) (by decide +kernel)), rfl⟩
theorem qi_X12_share : Cond.instanceMethod yX12_share ∈ z_ws := List.mem_filter.mpr ⟨List.mem_append_right _ (List.mem_of_getElem? (i := 1783) (by decide +kernel)), rfl⟩
theorem qs_X12_share : Cond.selects RX12 yX12_share yX12_share ∈ z_ws := List.mem_filter.mpr ⟨List.mem_append_right _ (List.mem_of_getElem? (i := 1784) (by decide +kernel)), rfl⟩
theorem md_X12_share : z_mdV yX12_share cX12_share 3 (some .long) 2 := ⟨⟨qn_RX12, qc_X12_share, ⟨by decide +kernel, by decide +kernel, by decide +kernel⟩⟩, qi_X12_share, qs_X12_share⟩
theorem qmL_174 : Cond.methodLink RL 174 yX11_next ∈ z_ws := List.mem_filter.mpr ⟨List.mem_append_right _ (List.mem_of_getElem? (i := 828) (by decide +kernel)), rfl⟩
theorem qc_X11_next : Cond.code yX11_next cX11_next 8 (some .int) ∈ z_ws := List.mem_filter.mpr ⟨List.mem_append_right _ (List.mem_of_getElem? (i := 831) (by decide +kernel)), rfl⟩
theorem qi_X11_next : Cond.instanceMethod yX11_next ∈ z_ws := List.mem_filter.mpr ⟨List.mem_append_right _ (List.mem_of_getElem? (i := 829) (by decide +kernel)), rfl⟩
theorem qs_X11_next : Cond.selects RX11 yX11_next yX11_next ∈ z_ws := List.mem_filter.mpr ⟨List.mem_append_right _ (List.mem_of_getElem? (i := 830) (by decide +kernel)), rfl⟩
theorem md_X11_next : z_mdV yX11_next cX11_next 8 (some .int) 0 := ⟨⟨qn_RX11, qc_X11_next, ⟨by decide +kernel, by decide +kernel, by decide +kernel⟩⟩, qi_X11_next, qs_X11_next⟩
theorem qmL_177 : Cond.methodLink RL 177 yX12_next ∈ z_ws := List.mem_filter.mpr ⟨List.mem_append_right _ (List.mem_of_getElem? (i := 1786) (by decide +kernel)), rfl⟩
theorem qc_X12_next : Cond.code yX12_next cX12_next 16 (some .int) ∈ z_ws := List.mem_filter.mpr ⟨List.mem_append_right _ (List.mem_of_getElem? (i := 1789) (by decide +kernel)), rfl⟩
theorem qi_X12_next : Cond.instanceMethod yX12_next ∈ z_ws := List.mem_filter.mpr ⟨List.mem_append_right _ (List.mem_of_getElem? (i := 1787) (by decide +kernel)), rfl⟩
theorem qs_X12_next : Cond.selects RX12 yX12_next yX12_next ∈ z_ws := List.mem_filter.mpr ⟨List.mem_append_right _ (List.mem_of_getElem? (i := 1788) (by decide +kernel)), rfl⟩
theorem md_X12_next : z_mdV yX12_next cX12_next 16 (some .int) 0 := ⟨⟨qn_RX12, qc_X12_next, ⟨by decide +kernel, by decide +kernel, by decide +kernel⟩⟩, qi_X12_next, qs_X12_next⟩
theorem qmL_178 : Cond.methodLink RL 178 yL_fails ∈ z_ws := List.mem_filter.mpr ⟨List.mem_append_right _ (List.mem_of_getElem? (i := 1230) (by decide +kernel)), rfl⟩
theorem qmL_180 : Cond.methodLink RL 180 yX12_fails ∈ z_ws := List.mem_filter.mpr ⟨List.mem_append_right _ (List.mem_of_getElem? (i := 1790) (by decide +kernel)), rfl⟩
theorem qc_X12_fails : Cond.code yX12_fails cX12_fails 8 (some .long) ∈ z_ws := List.mem_filter.mpr ⟨List.mem_append_right _ (List.mem_of_getElem? (i := 1793) (by decide +kernel)), rfl⟩
theorem qi_X12_fails : Cond.instanceMethod yX12_fails ∈ z_ws := List.mem_filter.mpr ⟨List.mem_append_right _ (List.mem_of_getElem? (i := 1791) (by decide +kernel)), rfl⟩
theorem qs_X12_fails : Cond.selects RX12 yX12_fails yX12_fails ∈ z_ws := List.mem_filter.mpr ⟨List.mem_append_right _ (List.mem_of_getElem? (i := 1792) (by decide +kernel)), rfl⟩
theorem md_X12_fails : z_mdV yX12_fails cX12_fails 8 (some .long) 2 := ⟨⟨qn_RX12, qc_X12_fails, ⟨by decide +kernel, by decide +kernel, by decide +kernel⟩⟩, qi_X12_fails, qs_X12_fails⟩
theorem qmL_181 : Cond.methodLink RL 181 yL_deep ∈ z_ws := List.mem_filter.mpr ⟨List.mem_append_right _ (List.mem_of_getElem? (i := 1238) (by decide +kernel)), rfl⟩
theorem qmL_183 : Cond.methodLink RL 183 yX12_deep ∈ z_ws := List.mem_filter.mpr ⟨List.mem_append_right _ (List.mem_of_getElem? (i := 1794) (by decide +kernel)), rfl⟩
theorem qc_X12_deep : Cond.code yX12_deep cX12_deep 3 (some .long) ∈ z_ws := List.mem_filter.mpr ⟨List.mem_append_right _ (List.mem_of_getElem? (i := 1797) (by decide +kernel)), rfl⟩
theorem qi_X12_deep : Cond.instanceMethod yX12_deep ∈ z_ws := List.mem_filter.mpr ⟨List.mem_append_right _ (List.mem_of_getElem? (i := 1795) (by decide +kernel)), rfl⟩
theorem qs_X12_deep : Cond.selects RX12 yX12_deep yX12_deep ∈ z_ws := List.mem_filter.mpr ⟨List.mem_append_right _ (List.mem_of_getElem? (i := 1796) (by decide +kernel)), rfl⟩
theorem md_X12_deep : z_mdV yX12_deep cX12_deep 3 (some .long) 2 := ⟨⟨qn_RX12, qc_X12_deep, ⟨by decide +kernel, by decide +kernel, by decide +kernel⟩⟩, qi_X12_deep, qs_X12_deep⟩
theorem qmL_184 : Cond.methodLink RL 184 yL_tells ∈ z_ws := List.mem_filter.mpr ⟨List.mem_append_right _ (List.mem_of_getElem? (i := 1245) (by decide +kernel)), rfl⟩
theorem qmL_186 : Cond.methodLink RL 186 yX12_tells ∈ z_ws := List.mem_filter.mpr ⟨List.mem_append_right _ (List.mem_of_getElem? (i := 1798) (by decide +kernel)), rfl⟩
theorem qc_X12_tells : Cond.code yX12_tells cX12_tells 8 (some .long) ∈ z_ws := List.mem_filter.mpr ⟨List.mem_append_right _ (List.mem_of_getElem? (i := 1801) (by decide +kernel)), rfl⟩
theorem qi_X12_tells : Cond.instanceMethod yX12_tells ∈ z_ws := List.mem_filter.mpr ⟨List.mem_append_right _ (List.mem_of_getElem? (i := 1799) (by decide +kernel)), rfl⟩
theorem qs_X12_tells : Cond.selects RX12 yX12_tells yX12_tells ∈ z_ws := List.mem_filter.mpr ⟨List.mem_append_right _ (List.mem_of_getElem? (i := 1800) (by decide +kernel)), rfl⟩
theorem md_X12_tells : z_mdV yX12_tells cX12_tells 8 (some .long) 2 := ⟨⟨qn_RX12, qc_X12_tells, ⟨by decide +kernel, by decide +kernel, by decide +kernel⟩⟩, qi_X12_tells, qs_X12_tells⟩
theorem qmL_187 : Cond.methodLink RL 187 yX11_apart ∈ z_ws := List.mem_filter.mpr ⟨List.mem_append_right _ (List.mem_of_getElem? (i := 839) (by decide +kernel)), rfl⟩
theorem qc_X11_apart : Cond.code yX11_apart cX11_apart 4 (some .int) ∈ z_ws := List.mem_filter.mpr ⟨List.mem_append_right _ (List.mem_of_getElem? (i := 842) (by decide +kernel)), rfl⟩
theorem qi_X11_apart : Cond.instanceMethod yX11_apart ∈ z_ws := List.mem_filter.mpr ⟨List.mem_append_right _ (List.mem_of_getElem? (i := 840) (by decide +kernel)), rfl⟩
theorem qs_X11_apart : Cond.selects RX11 yX11_apart yX11_apart ∈ z_ws := List.mem_filter.mpr ⟨List.mem_append_right _ (List.mem_of_getElem? (i := 841) (by decide +kernel)), rfl⟩
theorem md_X11_apart : z_mdV yX11_apart cX11_apart 4 (some .int) 2 := ⟨⟨qn_RX11, qc_X11_apart, ⟨by decide +kernel, by decide +kernel, by decide +kernel⟩⟩, qi_X11_apart, qs_X11_apart⟩
theorem qmL_190 : Cond.methodLink RL 190 yX12_apart ∈ z_ws := List.mem_filter.mpr ⟨List.mem_append_right _ (List.mem_of_getElem? (i := 1802) (by decide +kernel)), rfl⟩
theorem qc_X12_apart : Cond.code yX12_apart cX12_apart 3 (some .int) ∈ z_ws := List.mem_filter.mpr ⟨List.mem_append_right _ (List.mem_of_getElem? (i := 1805) (by decide +kernel)), rfl⟩
theorem qi_X12_apart : Cond.instanceMethod yX12_apart ∈ z_ws := List.mem_filter.mpr ⟨List.mem_append_right _ (List.mem_of_getElem? (i := 1803) (by decide +kernel)), rfl⟩
theorem qs_X12_apart : Cond.selects RX12 yX12_apart yX12_apart ∈ z_ws := List.mem_filter.mpr ⟨List.mem_append_right _ (List.mem_of_getElem? (i := 1804) (by decide +kernel)), rfl⟩
theorem md_X12_apart : z_mdV yX12_apart cX12_apart 3 (some .int) 2 := ⟨⟨qn_RX12, qc_X12_apart, ⟨by decide +kernel, by decide +kernel, by decide +kernel⟩⟩, qi_X12_apart, qs_X12_apart⟩
theorem qmL_191 : Cond.methodLink RL 191 yX11_nights ∈ z_ws := List.mem_filter.mpr ⟨List.mem_append_right _ (List.mem_of_getElem? (i := 843) (by decide +kernel)), rfl⟩
theorem qc_X11_nights : Cond.code yX11_nights cX11_nights 2 (some .int) ∈ z_ws := List.mem_filter.mpr ⟨List.mem_append_right _ (List.mem_of_getElem? (i := 846) (by decide +kernel)), rfl⟩
theorem qi_X11_nights : Cond.instanceMethod yX11_nights ∈ z_ws := List.mem_filter.mpr ⟨List.mem_append_right _ (List.mem_of_getElem? (i := 844) (by decide +kernel)), rfl⟩
theorem qs_X11_nights : Cond.selects RX11 yX11_nights yX11_nights ∈ z_ws := List.mem_filter.mpr ⟨List.mem_append_right _ (List.mem_of_getElem? (i := 845) (by decide +kernel)), rfl⟩
theorem md_X11_nights : z_mdV yX11_nights cX11_nights 2 (some .int) 0 := ⟨⟨qn_RX11, qc_X11_nights, ⟨by decide +kernel, by decide +kernel, by decide +kernel⟩⟩, qi_X11_nights, qs_X11_nights⟩
theorem qmL_194 : Cond.methodLink RL 194 yX12_nights ∈ z_ws := List.mem_filter.mpr ⟨List.mem_append_right _ (List.mem_of_getElem? (i := 1806) (by decide +kernel)), rfl⟩
theorem qc_X12_nights : Cond.code yX12_nights cX12_nights 3 (some .int) ∈ z_ws := List.mem_filter.mpr ⟨List.mem_append_right _ (List.mem_of_getElem? (i := 1809) (by decide +kernel)), rfl⟩
theorem qi_X12_nights : Cond.instanceMethod yX12_nights ∈ z_ws := List.mem_filter.mpr ⟨List.mem_append_right _ (List.mem_of_getElem? (i := 1807) (by decide +kernel)), rfl⟩
theorem qs_X12_nights : Cond.selects RX12 yX12_nights yX12_nights ∈ z_ws := List.mem_filter.mpr ⟨List.mem_append_right _ (List.mem_of_getElem? (i := 1808) (by decide +kernel)), rfl⟩
theorem md_X12_nights : z_mdV yX12_nights cX12_nights 3 (some .int) 0 := ⟨⟨qn_RX12, qc_X12_nights, ⟨by decide +kernel, by decide +kernel, by decide +kernel⟩⟩, qi_X12_nights, qs_X12_nights⟩
theorem qmL_195 : Cond.methodLink RL 195 yX11_judged ∈ z_ws := List.mem_filter.mpr ⟨List.mem_append_right _ (List.mem_of_getElem? (i := 912) (by decide +kernel)), rfl⟩
theorem qc_X11_judged : Cond.code yX11_judged cX11_judged 2 (some .int) ∈ z_ws := List.mem_filter.mpr ⟨List.mem_append_right _ (List.mem_of_getElem? (i := 915) (by decide +kernel)), rfl⟩
theorem qi_X11_judged : Cond.instanceMethod yX11_judged ∈ z_ws := List.mem_filter.mpr ⟨List.mem_append_right _ (List.mem_of_getElem? (i := 913) (by decide +kernel)), rfl⟩
theorem qs_X11_judged : Cond.selects RX11 yX11_judged yX11_judged ∈ z_ws := List.mem_filter.mpr ⟨List.mem_append_right _ (List.mem_of_getElem? (i := 914) (by decide +kernel)), rfl⟩
theorem md_X11_judged : z_mdV yX11_judged cX11_judged 2 (some .int) 1 := ⟨⟨qn_RX11, qc_X11_judged, ⟨by decide +kernel, by decide +kernel, by decide +kernel⟩⟩, qi_X11_judged, qs_X11_judged⟩
theorem qmL_198 : Cond.methodLink RL 198 yX12_judged ∈ z_ws := List.mem_filter.mpr ⟨List.mem_append_right _ (List.mem_of_getElem? (i := 1830) (by decide +kernel)), rfl⟩
theorem qc_X12_judged : Cond.code yX12_judged cX12_judged 2 (some .int) ∈ z_ws := List.mem_filter.mpr ⟨List.mem_append_right _ (List.mem_of_getElem? (i := 1833) (by decide +kernel)), rfl⟩
theorem qi_X12_judged : Cond.instanceMethod yX12_judged ∈ z_ws := List.mem_filter.mpr ⟨List.mem_append_right _ (List.mem_of_getElem? (i := 1831) (by decide +kernel)), rfl⟩
theorem qs_X12_judged : Cond.selects RX12 yX12_judged yX12_judged ∈ z_ws := List.mem_filter.mpr ⟨List.mem_append_right _ (List.mem_of_getElem? (i := 1832) (by decide +kernel)), rfl⟩
theorem md_X12_judged : z_mdV yX12_judged cX12_judged 2 (some .int) 1 := ⟨⟨qn_RX12, qc_X12_judged, ⟨by decide +kernel, by decide +kernel, by decide +kernel⟩⟩, qi_X12_judged, qs_X12_judged⟩
theorem qmL_199 : Cond.methodLink RL 199 yX11_drawn ∈ z_ws := List.mem_filter.mpr ⟨List.mem_append_right _ (List.mem_of_getElem? (i := 916) (by decide +kernel)), rfl⟩
theorem qc_X11_drawn : Cond.code yX11_drawn cX11_drawn 4 (some .int) ∈ z_ws := List.mem_filter.mpr ⟨List.mem_append_right _ (List.mem_of_getElem? (i := 919) (by decide +kernel)), rfl⟩
theorem qi_X11_drawn : Cond.instanceMethod yX11_drawn ∈ z_ws := List.mem_filter.mpr ⟨List.mem_append_right _ (List.mem_of_getElem? (i := 917) (by decide +kernel)), rfl⟩
theorem qs_X11_drawn : Cond.selects RX11 yX11_drawn yX11_drawn ∈ z_ws := List.mem_filter.mpr ⟨List.mem_append_right _ (List.mem_of_getElem? (i := 918) (by decide +kernel)), rfl⟩
theorem md_X11_drawn : z_mdV yX11_drawn cX11_drawn 4 (some .int) 2 := ⟨⟨qn_RX11, qc_X11_drawn, ⟨by decide +kernel, by decide +kernel, by decide +kernel⟩⟩, qi_X11_drawn, qs_X11_drawn⟩
theorem qmL_202 : Cond.methodLink RL 202 yX12_drawn ∈ z_ws := List.mem_filter.mpr ⟨List.mem_append_right _ (List.mem_of_getElem? (i := 1834) (by decide +kernel)), rfl⟩
theorem qc_X12_drawn : Cond.code yX12_drawn cX12_drawn 3 (some .int) ∈ z_ws := List.mem_filter.mpr ⟨List.mem_append_right _ (List.mem_of_getElem? (i := 1837) (by decide +kernel)), rfl⟩
theorem qi_X12_drawn : Cond.instanceMethod yX12_drawn ∈ z_ws := List.mem_filter.mpr ⟨List.mem_append_right _ (List.mem_of_getElem? (i := 1835) (by decide +kernel)), rfl⟩
theorem qs_X12_drawn : Cond.selects RX12 yX12_drawn yX12_drawn ∈ z_ws := List.mem_filter.mpr ⟨List.mem_append_right _ (List.mem_of_getElem? (i := 1836) (by decide +kernel)), rfl⟩
theorem md_X12_drawn : z_mdV yX12_drawn cX12_drawn 3 (some .int) 2 := ⟨⟨qn_RX12, qc_X12_drawn, ⟨by decide +kernel, by decide +kernel, by decide +kernel⟩⟩, qi_X12_drawn, qs_X12_drawn⟩
theorem qmL_203 : Cond.methodLink RL 203 yX11_wrongs ∈ z_ws := List.mem_filter.mpr ⟨List.mem_append_right _ (List.mem_of_getElem? (i := 942) (by decide +kernel)), rfl⟩
theorem qc_X11_wrongs : Cond.code yX11_wrongs cX11_wrongs 8 (some .int) ∈ z_ws := List.mem_filter.mpr ⟨List.mem_append_right _ (List.mem_of_getElem? (i := 945) (by decide +kernel)), rfl⟩
theorem qi_X11_wrongs : Cond.instanceMethod yX11_wrongs ∈ z_ws := List.mem_filter.mpr ⟨List.mem_append_right _ (List.mem_of_getElem? (i := 943) (by decide +kernel)), rfl⟩
theorem qs_X11_wrongs : Cond.selects RX11 yX11_wrongs yX11_wrongs ∈ z_ws := List.mem_filter.mpr ⟨List.mem_append_right _ (List.mem_of_getElem? (i := 944) (by decide +kernel)), rfl⟩
theorem md_X11_wrongs : z_mdV yX11_wrongs cX11_wrongs 8 (some .int) 3 := ⟨⟨qn_RX11, qc_X11_wrongs, ⟨by decide +kernel, by decide +kernel, by decide +kernel⟩⟩, qi_X11_wrongs, qs_X11_wrongs⟩
theorem qmL_207 : Cond.methodLink RL 207 yX12_wrongs ∈ z_ws := List.mem_filter.mpr ⟨List.mem_append_right _ (List.mem_of_getElem? (i := 1851) (by decide +kernel)), rfl⟩
theorem qc_X12_wrongs : Cond.code yX12_wrongs cX12_wrongs 6 (some .int) ∈ z_ws := List.mem_filter.mpr ⟨List.mem_append_right _ (List.mem_of_getElem? (i := 1854) (by decide +kernel)), rfl⟩
theorem qi_X12_wrongs : Cond.instanceMethod yX12_wrongs ∈ z_ws := List.mem_filter.mpr ⟨List.mem_append_right _ (List.mem_of_getElem? (i := 1852) (by decide +kernel)), rfl⟩
theorem qs_X12_wrongs : Cond.selects RX12 yX12_wrongs yX12_wrongs ∈ z_ws := List.mem_filter.mpr ⟨List.mem_append_right _ (List.mem_of_getElem? (i := 1853) (by decide +kernel)), rfl⟩
theorem md_X12_wrongs : z_mdV yX12_wrongs cX12_wrongs 6 (some .int) 3 := ⟨⟨qn_RX12, qc_X12_wrongs, ⟨by decide +kernel, by decide +kernel, by decide +kernel⟩⟩, qi_X12_wrongs, qs_X12_wrongs⟩
theorem qmL_208 : Cond.methodLink RL 208 yX11_sentence ∈ z_ws := List.mem_filter.mpr ⟨List.mem_append_right _ (List.mem_of_getElem? (i := 946) (by decide +kernel)), rfl⟩
theorem qc_X11_sentence : Cond.code yX11_sentence cX11_sentence 3 (some .int) ∈ z_ws := List.mem_filter.mpr ⟨List.mem_append_right _ (List.mem_of_getElem? (i := 949) (by decide +kernel)), rfl⟩
theorem qi_X11_sentence : Cond.instanceMethod yX11_sentence ∈ z_ws := List.mem_filter.mpr ⟨List.mem_append_right _ (List.mem_of_getElem? (i := 947) (by decide +kernel)), rfl⟩
theorem qs_X11_sentence : Cond.selects RX11 yX11_sentence yX11_sentence ∈ z_ws := List.mem_filter.mpr ⟨List.mem_append_right _ (List.mem_of_getElem? (i := 948) (by decide +kernel)), rfl⟩
theorem md_X11_sentence : z_mdV yX11_sentence cX11_sentence 3 (some .int) 0 := ⟨⟨qn_RX11, qc_X11_sentence, ⟨by decide +kernel, by decide +kernel, by decide +kernel⟩⟩, qi_X11_sentence, qs_X11_sentence⟩
theorem qmL_211 : Cond.methodLink RL 211 yX12_sentence ∈ z_ws := List.mem_filter.mpr ⟨List.mem_append_right _ (List.mem_of_getElem? (i := 1855) (by decide +kernel)), rfl⟩
theorem qc_X12_sentence : Cond.code yX12_sentence cX12_sentence 3 (some .int) ∈ z_ws := List.mem_filter.mpr ⟨List.mem_append_right _ (List.mem_of_getElem? (i := 1858) (by decide +kernel)), rfl⟩
theorem qi_X12_sentence : Cond.instanceMethod yX12_sentence ∈ z_ws := List.mem_filter.mpr ⟨List.mem_append_right _ (List.mem_of_getElem? (i := 1856) (by decide +kernel)), rfl⟩
theorem qs_X12_sentence : Cond.selects RX12 yX12_sentence yX12_sentence ∈ z_ws := List.mem_filter.mpr ⟨List.mem_append_right _ (List.mem_of_getElem? (i := 1857) (by decide +kernel)), rfl⟩
theorem md_X12_sentence : z_mdV yX12_sentence cX12_sentence 3 (some .int) 0 := ⟨⟨qn_RX12, qc_X12_sentence, ⟨by decide +kernel, by decide +kernel, by decide +kernel⟩⟩, qi_X12_sentence, qs_X12_sentence⟩
theorem qmL_212 : Cond.methodLink RL 212 yX11_said ∈ z_ws := List.mem_filter.mpr ⟨List.mem_append_right _ (List.mem_of_getElem? (i := 1036) (by decide +kernel)), rfl⟩
theorem qc_X11_said : Cond.code yX11_said cX11_said 4 (some .int) ∈ z_ws := List.mem_filter.mpr ⟨List.mem_append_right _ (List.mem_of_getElem? (i := 1039) (by decide +kernel)), rfl⟩
theorem qi_X11_said : Cond.instanceMethod yX11_said ∈ z_ws := List.mem_filter.mpr ⟨List.mem_append_right _ (List.mem_of_getElem? (i := 1037) (by decide +kernel)), rfl⟩
theorem qs_X11_said : Cond.selects RX11 yX11_said yX11_said ∈ z_ws := List.mem_filter.mpr ⟨List.mem_append_right _ (List.mem_of_getElem? (i := 1038) (by decide +kernel)), rfl⟩
theorem md_X11_said : z_mdV yX11_said cX11_said 4 (some .int) 1 := ⟨⟨qn_RX11, qc_X11_said, ⟨by decide +kernel, by decide +kernel, by decide +kernel⟩⟩, qi_X11_said, qs_X11_said⟩
theorem qmL_215 : Cond.methodLink RL 215 yX12_said ∈ z_ws := List.mem_filter.mpr ⟨List.mem_append_right _ (List.mem_of_getElem? (i := 1883) (by decide +kernel)), rfl⟩
theorem qc_X12_said : Cond.code yX12_said cX12_said 4 (some .int) ∈ z_ws := List.mem_filter.mpr ⟨List.mem_append_right _ (List.mem_of_getElem? (i := 1886) (by decide +kernel)), rfl⟩
theorem qi_X12_said : Cond.instanceMethod yX12_said ∈ z_ws := List.mem_filter.mpr ⟨List.mem_append_right _ (List.mem_of_getElem? (i := 1884) (by decide +kernel)), rfl⟩
theorem qs_X12_said : Cond.selects RX12 yX12_said yX12_said ∈ z_ws := List.mem_filter.mpr ⟨List.mem_append_right _ (List.mem_of_getElem? (i := 1885) (by decide +kernel)), rfl⟩
theorem md_X12_said : z_mdV yX12_said cX12_said 4 (some .int) 1 := ⟨⟨qn_RX12, qc_X12_said, ⟨by decide +kernel, by decide +kernel, by decide +kernel⟩⟩, qi_X12_said, qs_X12_said⟩
theorem qmL_216 : Cond.methodLink RL 216 yX11_image ∈ z_ws := List.mem_filter.mpr ⟨List.mem_append_right _ (List.mem_of_getElem? (i := 1051) (by decide +kernel)), rfl⟩
theorem qc_X11_image : Cond.code yX11_image cX11_image 2 (some .boolean) ∈ z_ws := List.mem_filter.mpr ⟨List.mem_append_right _ (List.mem_of_getElem? (i := 1054) (by decide +kernel)), rfl⟩
theorem qi_X11_image : Cond.instanceMethod yX11_image ∈ z_ws := List.mem_filter.mpr ⟨List.mem_append_right _ (List.mem_of_getElem? (i := 1052) (by decide +kernel)), rfl⟩
theorem qs_X11_image : Cond.selects RX11 yX11_image yX11_image ∈ z_ws := List.mem_filter.mpr ⟨List.mem_append_right _ (List.mem_of_getElem? (i := 1053) (by decide +kernel)), rfl⟩
theorem md_X11_image : z_mdV yX11_image cX11_image 2 (some .boolean) 1 := ⟨⟨qn_RX11, qc_X11_image, ⟨by decide +kernel, by decide +kernel, by decide +kernel⟩⟩, qi_X11_image, qs_X11_image⟩
theorem qmL_219 : Cond.methodLink RL 219 yX12_image ∈ z_ws := List.mem_filter.mpr ⟨List.mem_append_right _ (List.mem_of_getElem? (i := 1895) (by decide +kernel)), rfl⟩
theorem qc_X12_image : Cond.code yX12_image cX12_image 3 (some .boolean) ∈ z_ws := List.mem_filter.mpr ⟨List.mem_append_right _ (List.mem_of_getElem? (i := 1898) (by decide +kernel)), rfl⟩
theorem qi_X12_image : Cond.instanceMethod yX12_image ∈ z_ws := List.mem_filter.mpr ⟨List.mem_append_right _ (List.mem_of_getElem? (i := 1896) (by decide +kernel)), rfl⟩
theorem qs_X12_image : Cond.selects RX12 yX12_image yX12_image ∈ z_ws := List.mem_filter.mpr ⟨List.mem_append_right _ (List.mem_of_getElem? (i := 1897) (by decide +kernel)), rfl⟩
theorem md_X12_image : z_mdV yX12_image cX12_image 3 (some .boolean) 1 := ⟨⟨qn_RX12, qc_X12_image, ⟨by decide +kernel, by decide +kernel, by decide +kernel⟩⟩, qi_X12_image, qs_X12_image⟩
theorem qmL_220 : Cond.methodLink RL 220 yX11_restore ∈ z_ws := List.mem_filter.mpr ⟨List.mem_append_right _ (List.mem_of_getElem? (i := 1060) (by decide +kernel)), rfl⟩
theorem qc_X11_restore : Cond.code yX11_restore cX11_restore 2 (some .boolean) ∈ z_ws := List.mem_filter.mpr ⟨List.mem_append_right _ (List.mem_of_getElem? (i := 1063) (by decide +kernel)), rfl⟩
theorem qi_X11_restore : Cond.instanceMethod yX11_restore ∈ z_ws := List.mem_filter.mpr ⟨List.mem_append_right _ (List.mem_of_getElem? (i := 1061) (by decide +kernel)), rfl⟩
theorem qs_X11_restore : Cond.selects RX11 yX11_restore yX11_restore ∈ z_ws := List.mem_filter.mpr ⟨List.mem_append_right _ (List.mem_of_getElem? (i := 1062) (by decide +kernel)), rfl⟩
theorem md_X11_restore : z_mdV yX11_restore cX11_restore 2 (some .boolean) 1 := ⟨⟨qn_RX11, qc_X11_restore, ⟨by decide +kernel, by decide +kernel, by decide +kernel⟩⟩, qi_X11_restore, qs_X11_restore⟩
theorem qmL_223 : Cond.methodLink RL 223 yX12_restore ∈ z_ws := List.mem_filter.mpr ⟨List.mem_append_right _ (List.mem_of_getElem? (i := 1899) (by decide +kernel)), rfl⟩
theorem qc_X12_restore : Cond.code yX12_restore cX12_restore 3 (some .boolean) ∈ z_ws := List.mem_filter.mpr ⟨List.mem_append_right _ (List.mem_of_getElem? (i := 1902) (by decide +kernel)), rfl⟩
theorem qi_X12_restore : Cond.instanceMethod yX12_restore ∈ z_ws := List.mem_filter.mpr ⟨List.mem_append_right _ (List.mem_of_getElem? (i := 1900) (by decide +kernel)), rfl⟩
theorem qs_X12_restore : Cond.selects RX12 yX12_restore yX12_restore ∈ z_ws := List.mem_filter.mpr ⟨List.mem_append_right _ (List.mem_of_getElem? (i := 1901) (by decide +kernel)), rfl⟩
theorem md_X12_restore : z_mdV yX12_restore cX12_restore 3 (some .boolean) 1 := ⟨⟨qn_RX12, qc_X12_restore, ⟨by decide +kernel, by decide +kernel, by decide +kernel⟩⟩, qi_X12_restore, qs_X12_restore⟩
theorem qmL_224 : Cond.methodLink RL 224 yX11_count ∈ z_ws := List.mem_filter.mpr ⟨List.mem_append_right _ (List.mem_of_getElem? (i := 1064) (by decide +kernel)), rfl⟩
theorem qc_X11_count : Cond.code yX11_count cX11_count 3 (some .int) ∈ z_ws := List.mem_filter.mpr ⟨List.mem_append_right _ (List.mem_of_getElem? (i := 1067) (by decide +kernel)), rfl⟩
theorem qi_X11_count : Cond.instanceMethod yX11_count ∈ z_ws := List.mem_filter.mpr ⟨List.mem_append_right _ (List.mem_of_getElem? (i := 1065) (by decide +kernel)), rfl⟩
theorem qs_X11_count : Cond.selects RX11 yX11_count yX11_count ∈ z_ws := List.mem_filter.mpr ⟨List.mem_append_right _ (List.mem_of_getElem? (i := 1066) (by decide +kernel)), rfl⟩
theorem md_X11_count : z_mdV yX11_count cX11_count 3 (some .int) 1 := ⟨⟨qn_RX11, qc_X11_count, ⟨by decide +kernel, by decide +kernel, by decide +kernel⟩⟩, qi_X11_count, qs_X11_count⟩
theorem qmL_227 : Cond.methodLink RL 227 yX12_count ∈ z_ws := List.mem_filter.mpr ⟨List.mem_append_right _ (List.mem_of_getElem? (i := 1903) (by decide +kernel)), rfl⟩
theorem qc_X12_count : Cond.code yX12_count cX12_count 2 (some .int) ∈ z_ws := List.mem_filter.mpr ⟨List.mem_append_right _ (List.mem_of_getElem? (i := 1906) (by decide +kernel)), rfl⟩
theorem qi_X12_count : Cond.instanceMethod yX12_count ∈ z_ws := List.mem_filter.mpr ⟨List.mem_append_right _ (List.mem_of_getElem? (i := 1904) (by decide +kernel)), rfl⟩
theorem qs_X12_count : Cond.selects RX12 yX12_count yX12_count ∈ z_ws := List.mem_filter.mpr ⟨List.mem_append_right _ (List.mem_of_getElem? (i := 1905) (by decide +kernel)), rfl⟩
theorem md_X12_count : z_mdV yX12_count cX12_count 2 (some .int) 1 := ⟨⟨qn_RX12, qc_X12_count, ⟨by decide +kernel, by decide +kernel, by decide +kernel⟩⟩, qi_X12_count, qs_X12_count⟩
theorem qcw_sure : Cond.codeWith yL_sure cL_sure 4 (some .int) [(0, 8, 11, 13)] ∈ z_ws := List.mem_filter.mpr ⟨List.mem_append_right _ (List.mem_of_getElem? (i := 1071) (by decide +kernel)), rfl⟩
theorem qst_sure : Cond.static yL_sure ∈ z_ws := List.mem_filter.mpr ⟨List.mem_append_right _ (List.mem_of_getElem? (i := 1070) (by decide +kernel)), rfl⟩
theorem qcw_odds : Cond.codeWith yL_odds cL_odds 5 (some .int) [(0, 9, 12, 13)] ∈ z_ws := List.mem_filter.mpr ⟨List.mem_append_right _ (List.mem_of_getElem? (i := 1145) (by decide +kernel)), rfl⟩
theorem qst_odds : Cond.static yL_odds ∈ z_ws := List.mem_filter.mpr ⟨List.mem_append_right _ (List.mem_of_getElem? (i := 1144) (by decide +kernel)), rfl⟩
theorem qcw_error : Cond.codeWith yL_error cL_error 5 (some .int) [(0, 9, 12, 13)] ∈ z_ws := List.mem_filter.mpr ⟨List.mem_append_right _ (List.mem_of_getElem? (i := 1152) (by decide +kernel)), rfl⟩
theorem qst_error : Cond.static yL_error ∈ z_ws := List.mem_filter.mpr ⟨List.mem_append_right _ (List.mem_of_getElem? (i := 1151) (by decide +kernel)), rfl⟩
theorem qcw_cost : Cond.codeWith yL_cost cL_cost 5 (some .int) [(0, 9, 12, 13)] ∈ z_ws := List.mem_filter.mpr ⟨List.mem_append_right _ (List.mem_of_getElem? (i := 1165) (by decide +kernel)), rfl⟩
theorem qst_cost : Cond.static yL_cost ∈ z_ws := List.mem_filter.mpr ⟨List.mem_append_right _ (List.mem_of_getElem? (i := 1164) (by decide +kernel)), rfl⟩
theorem qcw_worth : Cond.codeWith yL_worth cL_worth 4 (some .int) [(0, 8, 11, 13)] ∈ z_ws := List.mem_filter.mpr ⟨List.mem_append_right _ (List.mem_of_getElem? (i := 1176) (by decide +kernel)), rfl⟩
theorem qst_worth : Cond.static yL_worth ∈ z_ws := List.mem_filter.mpr ⟨List.mem_append_right _ (List.mem_of_getElem? (i := 1175) (by decide +kernel)), rfl⟩
theorem qcw_after : Cond.codeWith yL_after cL_after 5 (some .int) [(0, 9, 12, 13)] ∈ z_ws := List.mem_filter.mpr ⟨List.mem_append_right _ (List.mem_of_getElem? (i := 1195) (by decide +kernel)), rfl⟩
theorem qst_after : Cond.static yL_after ∈ z_ws := List.mem_filter.mpr ⟨List.mem_append_right _ (List.mem_of_getElem? (i := 1194) (by decide +kernel)), rfl⟩
theorem qcw_lot : Cond.codeWith yL_lot cL_lot 4 (some .int) [(0, 8, 11, 13)] ∈ z_ws := List.mem_filter.mpr ⟨List.mem_append_right _ (List.mem_of_getElem? (i := 1202) (by decide +kernel)), rfl⟩
theorem qst_lot : Cond.static yL_lot ∈ z_ws := List.mem_filter.mpr ⟨List.mem_append_right _ (List.mem_of_getElem? (i := 1201) (by decide +kernel)), rfl⟩
theorem qcw_share : Cond.codeWith yL_share cL_share 5 (some .int) [(0, 9, 12, 13)] ∈ z_ws := List.mem_filter.mpr ⟨List.mem_append_right _ (List.mem_of_getElem? (i := 1225) (by decide +kernel)), rfl⟩
theorem qst_share : Cond.static yL_share ∈ z_ws := List.mem_filter.mpr ⟨List.mem_append_right _ (List.mem_of_getElem? (i := 1224) (by decide +kernel)), rfl⟩
theorem qcw_fails : Cond.codeWith yL_fails cL_fails 5 (some .int) [(0, 9, 12, 13)] ∈ z_ws := List.mem_filter.mpr ⟨List.mem_append_right _ (List.mem_of_getElem? (i := 1232) (by decide +kernel)), rfl⟩
theorem qst_fails : Cond.static yL_fails ∈ z_ws := List.mem_filter.mpr ⟨List.mem_append_right _ (List.mem_of_getElem? (i := 1231) (by decide +kernel)), rfl⟩
theorem qcw_deep : Cond.codeWith yL_deep cL_deep 5 (some .int) [(0, 9, 12, 13)] ∈ z_ws := List.mem_filter.mpr ⟨List.mem_append_right _ (List.mem_of_getElem? (i := 1240) (by decide +kernel)), rfl⟩
theorem qst_deep : Cond.static yL_deep ∈ z_ws := List.mem_filter.mpr ⟨List.mem_append_right _ (List.mem_of_getElem? (i := 1239) (by decide +kernel)), rfl⟩
theorem qcw_tells : Cond.codeWith yL_tells cL_tells 5 (some .int) [(0, 9, 12, 13)] ∈ z_ws := List.mem_filter.mpr ⟨List.mem_append_right _ (List.mem_of_getElem? (i := 1247) (by decide +kernel)), rfl⟩
theorem qst_tells : Cond.static yL_tells ∈ z_ws := List.mem_filter.mpr ⟨List.mem_append_right _ (List.mem_of_getElem? (i := 1246) (by decide +kernel)), rfl⟩
set_option maxHeartbeats 4000000 in
set_option maxRecDepth 100000 in
theorem lc_feed (C : lq_C G p s m meth c b L xs) (hfl : l.stackTraces = false) {Inv : z_T → z_T → Prop} {oX oM oO : Nat} (hV : lq_V Inv oX oM oO) {adX adM : Nat → Nat} {hX hM : z_T} {H : Heap} {locs : List Loc} {ls : Array Slot} {cells slots i : Nat} (w : z_2 G s adX adM hX hM H locs) (hI : Inv hX hM) (hi : i + 6 ≤ L) (hcs : cells + 8 ≤ room_1.cells ∧ slots + 125 ≤ room_1.slots) (hl : lv_has ls 8 (lq_l adX adM oX oM oO b i))
    (hop : ∃ (r : Int32) (hX' hM' : z_T), fX11_feed oX (xs (i + 1)) (xs (i + 2)) (xs (i + 3)) (xs (i + 4)) (xs (i + 5)) hX = some (r, hX') ∧ fX12_feed oM (xs (i + 1)) (xs (i + 2)) (xs (i + 3)) (xs (i + 4)) (xs (i + 5)) hM = some (r, hM') ∧ Inv hX' hM')
    (kk : ∀ (adX adM : Nat → Nat) (hX hM : z_T) (H : Heap) (locs : List Loc) (ls : Array Slot), Inv hX hM → z_2 G s adX adM hX hM H locs → lv_has ls 8 (lq_l adX adM oX oM oO b i) → W p l e room_1 s m #[.ref b] below meth c H locs (cells + 8) (slots + 125) Q (F0 m 1722 ls [])) : W p l e room_1 s m #[.ref b] below meth c H locs cells slots Q (F0 m 232 ls []) := by
  obtain ⟨r, hX', hM', e1, e2, hI1⟩ := hop
  obtain ⟨gX, gM, gO, -⟩ := hV _ _ hI
  obtain ⟨gX1, gM1, gO1, gI1⟩ := hV _ _ hI1
  have hx := C.1.1
  have hb := C.1.2.1
  refine lv_aload_n hx hb dw_232 rfl (lv_at hl 3 rfl) ?_
  refine lq_rd C w.2.2.1 (lv_at hl 4 rfl) (lv_at hl 0 rfl) (k := 1) (by omega) (by decide) dw_233 dw_234 dw_236 dw_237 dw_238 ?_
  refine lq_rd C w.2.2.1 (lv_at hl 4 rfl) (lv_at hl 0 rfl) (k := 2) (by omega) (by decide) dw_239 dw_240 dw_242 dw_243 dw_244 ?_
  refine lq_rd C w.2.2.1 (lv_at hl 4 rfl) (lv_at hl 0 rfl) (k := 3) (by omega) (by decide) dw_245 dw_246 dw_248 dw_249 dw_250 ?_
  refine lq_rd C w.2.2.1 (lv_at hl 4 rfl) (lv_at hl 0 rfl) (k := 4) (by omega) (by decide) dw_251 dw_252 dw_254 dw_255 dw_256 ?_
  refine lq_rd C w.2.2.1 (lv_at hl 4 rfl) (lv_at hl 0 rfl) (k := 5) (by omega) (by decide) dw_257 dw_258 dw_260 dw_261 dw_262 ?_
  refine z_2I (lq_cc C w.2.2.2.2.1) w (z_runV (lq_cc C w.2.2.2.2.1) w.B 10 (mm_X11_feed C.2.2.1 l adX oX (xs (i + 1)) (xs (i + 2)) (xs (i + 3)) (xs (i + 4)) (xs (i + 5)) hX e1) md_X11_feed qmL_50 gX (by decide) rfl rfl rfl ⟨Nat.le_of_ble_eq_true rfl, Nat.le_of_ble_eq_true rfl⟩ rfl hl.1 rfl (Nat.le_of_ble_eq_true rfl) dw_263 (lq_rm hcs (by decide) (by decide))) (fun H locs adM2 hag w => ?_)
  replace hl := lq_ag rfl (hag _ (z_ok_lt gM)) rfl hl
  refine lv_aload_n hx hb dw_266 rfl (lv_at hl 2 rfl) ?_
  refine lq_rd C w.2.2.1 (lv_at hl 4 rfl) (lv_at hl 0 rfl) (k := 1) (by omega) (by decide) dw_267 dw_268 dw_270 dw_271 dw_272 ?_
  refine lq_rd C w.2.2.1 (lv_at hl 4 rfl) (lv_at hl 0 rfl) (k := 2) (by omega) (by decide) dw_273 dw_274 dw_276 dw_277 dw_278 ?_
  refine lq_rd C w.2.2.1 (lv_at hl 4 rfl) (lv_at hl 0 rfl) (k := 3) (by omega) (by decide) dw_279 dw_280 dw_282 dw_283 dw_284 ?_
  refine lq_rd C w.2.2.1 (lv_at hl 4 rfl) (lv_at hl 0 rfl) (k := 4) (by omega) (by decide) dw_285 dw_286 dw_288 dw_289 dw_290 ?_
  refine lq_rd C w.2.2.1 (lv_at hl 4 rfl) (lv_at hl 0 rfl) (k := 5) (by omega) (by decide) dw_291 dw_292 dw_294 dw_295 dw_296 ?_
  refine z_2I (lq_cc C w.swap.2.2.2.2.1) w.swap (z_runV (lq_cc C w.swap.2.2.2.2.1) w.swap.B 11 (mm_X12_feed C.2.2.1 l adM2 oM (xs (i + 1)) (xs (i + 2)) (xs (i + 3)) (xs (i + 4)) (xs (i + 5)) hM e2) md_X12_feed qmL_54 gM (by decide) rfl rfl rfl ⟨Nat.le_of_ble_eq_true rfl, Nat.le_of_ble_eq_true rfl⟩ rfl hl.1 rfl (Nat.le_of_ble_eq_true rfl) dw_297 (lq_rm2 hcs (by decide) (by decide))) (fun H locs adX2 hag w => ?_)
  replace w := w.swap
  replace hl := lq_ag (hag _ (z_ok_lt gX1)) rfl (hag _ (z_ok_lt gO1)) hl
  refine lv_icmp_eq (tgt := 1722) hx hb dw_300 (by decide) (fun _ => ?_) (fun cn => absurd rfl cn)
  refine W.widen (k := cells + 8) (n := slots + 125) (by omega) (by omega) ?_
  exact kk _ _ _ _ _ _ _ hI1 w hl
set_option maxHeartbeats 4000000 in
set_option maxRecDepth 100000 in
theorem lc_end (C : lq_C G p s m meth c b L xs) (hfl : l.stackTraces = false) {Inv : z_T → z_T → Prop} {oX oM oO : Nat} (hV : lq_V Inv oX oM oO) {adX adM : Nat → Nat} {hX hM : z_T} {H : Heap} {locs : List Loc} {ls : Array Slot} {cells slots i : Nat} (w : z_2 G s adX adM hX hM H locs) (hI : Inv hX hM) (hi : i + 6 ≤ L) (hcs : cells + 8 ≤ room_1.cells ∧ slots + 125 ≤ room_1.slots) (hl : lv_has ls 8 (lq_l adX adM oX oM oO b i))
    (hop : ∃ (r : Int32) (hX' hM' : z_T), fX11_end oX (xs (i + 1)) hX = some (r, hX') ∧ fX12_end oM (xs (i + 1)) hM = some (r, hM') ∧ Inv hX' hM')
    (kk : ∀ (adX adM : Nat → Nat) (hX hM : z_T) (H : Heap) (locs : List Loc) (ls : Array Slot), Inv hX hM → z_2 G s adX adM hX hM H locs → lv_has ls 8 (lq_l adX adM oX oM oO b i) → W p l e room_1 s m #[.ref b] below meth c H locs (cells + 8) (slots + 125) Q (F0 m 1722 ls [])) : W p l e room_1 s m #[.ref b] below meth c H locs cells slots Q (F0 m 305 ls []) := by
  obtain ⟨r, hX', hM', e1, e2, hI1⟩ := hop
  obtain ⟨gX, gM, gO, -⟩ := hV _ _ hI
  obtain ⟨gX1, gM1, gO1, gI1⟩ := hV _ _ hI1
  have hx := C.1.1
  have hb := C.1.2.1
  refine lv_aload_n hx hb dw_305 rfl (lv_at hl 3 rfl) ?_
  refine lq_rd C w.2.2.1 (lv_at hl 4 rfl) (lv_at hl 0 rfl) (k := 1) (by omega) (by decide) dw_306 dw_307 dw_309 dw_310 dw_311 ?_
  refine z_2I (lq_cc C w.2.2.2.2.1) w (z_runV (lq_cc C w.2.2.2.2.1) w.B 10 (mm_X11_end C.2.2.1 l adX oX (xs (i + 1)) hX e1) md_X11_end qmL_55 gX (by decide) rfl rfl rfl ⟨Nat.le_of_ble_eq_true rfl, Nat.le_of_ble_eq_true rfl⟩ rfl hl.1 rfl (Nat.le_of_ble_eq_true rfl) dw_312 (lq_rm hcs (by decide) (by decide))) (fun H locs adM2 hag w => ?_)
  replace hl := lq_ag rfl (hag _ (z_ok_lt gM)) rfl hl
  refine lv_aload_n hx hb dw_315 rfl (lv_at hl 2 rfl) ?_
  refine lq_rd C w.2.2.1 (lv_at hl 4 rfl) (lv_at hl 0 rfl) (k := 1) (by omega) (by decide) dw_316 dw_317 dw_319 dw_320 dw_321 ?_
  refine z_2I (lq_cc C w.swap.2.2.2.2.1) w.swap (z_runV (lq_cc C w.swap.2.2.2.2.1) w.swap.B 11 (mm_X12_end C.2.2.1 l adM2 oM (xs (i + 1)) hM e2) md_X12_end qmL_59 gM (by decide) rfl rfl rfl ⟨Nat.le_of_ble_eq_true rfl, Nat.le_of_ble_eq_true rfl⟩ rfl hl.1 rfl (Nat.le_of_ble_eq_true rfl) dw_322 (lq_rm2 hcs (by decide) (by decide))) (fun H locs adX2 hag w => ?_)
  replace w := w.swap
  replace hl := lq_ag (hag _ (z_ok_lt gX1)) rfl (hag _ (z_ok_lt gO1)) hl
  refine lv_icmp_eq (tgt := 1722) hx hb dw_325 (by decide) (fun _ => ?_) (fun cn => absurd rfl cn)
  refine W.widen (k := cells + 8) (n := slots + 125) (by omega) (by omega) ?_
  exact kk _ _ _ _ _ _ _ hI1 w hl
set_option maxHeartbeats 4000000 in
set_option maxRecDepth 100000 in
theorem lc_book (C : lq_C G p s m meth c b L xs) (hfl : l.stackTraces = false) {Inv : z_T → z_T → Prop} {oX oM oO : Nat} (hV : lq_V Inv oX oM oO) {adX adM : Nat → Nat} {hX hM : z_T} {H : Heap} {locs : List Loc} {ls : Array Slot} {cells slots i : Nat} (w : z_2 G s adX adM hX hM H locs) (hI : Inv hX hM) (hi : i + 6 ≤ L) (hcs : cells + 8 ≤ room_1.cells ∧ slots + 125 ≤ room_1.slots) (hl : lv_has ls 8 (lq_l adX adM oX oM oO b i))
    (hop : ∃ (r : Int32) (hX' hM' : z_T), fX11_book oX  hX = some (r, hX') ∧ fX12_book oM  hM = some (r, hM') ∧ Inv hX' hM')
    (kk : ∀ (adX adM : Nat → Nat) (hX hM : z_T) (H : Heap) (locs : List Loc) (ls : Array Slot), Inv hX hM → z_2 G s adX adM hX hM H locs → lv_has ls 8 (lq_l adX adM oX oM oO b i) → W p l e room_1 s m #[.ref b] below meth c H locs (cells + 8) (slots + 125) Q (F0 m 1722 ls [])) : W p l e room_1 s m #[.ref b] below meth c H locs cells slots Q (F0 m 330 ls []) := by
  obtain ⟨r, hX', hM', e1, e2, hI1⟩ := hop
  obtain ⟨gX, gM, gO, -⟩ := hV _ _ hI
  obtain ⟨gX1, gM1, gO1, gI1⟩ := hV _ _ hI1
  have hx := C.1.1
  have hb := C.1.2.1
  refine lv_aload_n hx hb dw_330 rfl (lv_at hl 3 rfl) ?_
  refine z_2I (lq_cc C w.2.2.2.2.1) w (z_runV (lq_cc C w.2.2.2.2.1) w.B 10 (mm_X11_book C.2.2.1 l adX oX  hX e1) md_X11_book qmL_60 gX (by decide) rfl rfl rfl ⟨Nat.le_of_ble_eq_true rfl, Nat.le_of_ble_eq_true rfl⟩ rfl hl.1 rfl (Nat.le_of_ble_eq_true rfl) dw_331 (lq_rm hcs (by decide) (by decide))) (fun H locs adM2 hag w => ?_)
  replace hl := lq_ag rfl (hag _ (z_ok_lt gM)) rfl hl
  refine lv_aload_n hx hb dw_334 rfl (lv_at hl 2 rfl) ?_
  refine z_2I (lq_cc C w.swap.2.2.2.2.1) w.swap (z_runV (lq_cc C w.swap.2.2.2.2.1) w.swap.B 11 (mm_X12_book C.2.2.1 l adM2 oM  hM e2) md_X12_book qmL_64 gM (by decide) rfl rfl rfl ⟨Nat.le_of_ble_eq_true rfl, Nat.le_of_ble_eq_true rfl⟩ rfl hl.1 rfl (Nat.le_of_ble_eq_true rfl) dw_335 (lq_rm2 hcs (by decide) (by decide))) (fun H locs adX2 hag w => ?_)
  replace w := w.swap
  replace hl := lq_ag (hag _ (z_ok_lt gX1)) rfl (hag _ (z_ok_lt gO1)) hl
  refine lv_icmp_eq (tgt := 1722) hx hb dw_338 (by decide) (fun _ => ?_) (fun cn => absurd rfl cn)
  refine W.widen (k := cells + 8) (n := slots + 125) (by omega) (by omega) ?_
  exact kk _ _ _ _ _ _ _ hI1 w hl
set_option maxHeartbeats 4000000 in
set_option maxRecDepth 100000 in
theorem lc_fault (C : lq_C G p s m meth c b L xs) (hfl : l.stackTraces = false) {Inv : z_T → z_T → Prop} {oX oM oO : Nat} (hV : lq_V Inv oX oM oO) {adX adM : Nat → Nat} {hX hM : z_T} {H : Heap} {locs : List Loc} {ls : Array Slot} {cells slots i : Nat} (w : z_2 G s adX adM hX hM H locs) (hI : Inv hX hM) (hi : i + 6 ≤ L) (hcs : cells + 8 ≤ room_1.cells ∧ slots + 125 ≤ room_1.slots) (hl : lv_has ls 8 (lq_l adX adM oX oM oO b i))
    (hop : ∃ (r : Int32) (hM' : z_T), fX11_fault oX  hX = some r ∧ fX12_fault oM  hM = some (r, hM') ∧ Inv hX hM')
    (kk : ∀ (adX adM : Nat → Nat) (hX hM : z_T) (H : Heap) (locs : List Loc) (ls : Array Slot), Inv hX hM → z_2 G s adX adM hX hM H locs → lv_has ls 8 (lq_l adX adM oX oM oO b i) → W p l e room_1 s m #[.ref b] below meth c H locs (cells + 8) (slots + 125) Q (F0 m 1722 ls [])) : W p l e room_1 s m #[.ref b] below meth c H locs cells slots Q (F0 m 343 ls []) := by
  obtain ⟨r, hM', e1, e2, hI1⟩ := hop
  obtain ⟨gX, gM, gO, -⟩ := hV _ _ hI
  obtain ⟨gX1, gM1, gO1, gI1⟩ := hV _ _ hI1
  have hx := C.1.1
  have hb := C.1.2.1
  refine lv_aload_n hx hb dw_343 rfl (lv_at hl 3 rfl) ?_
  refine z_2I (lq_cc C w.2.2.2.2.1) w (z_runV (lq_cc C w.2.2.2.2.1) w.B 10 (mm_X11_fault C.2.2.1 l adX oX  hX e1) md_X11_fault qmL_65 gX (by decide) rfl rfl rfl ⟨Nat.le_of_ble_eq_true rfl, Nat.le_of_ble_eq_true rfl⟩ rfl hl.1 rfl (Nat.le_of_ble_eq_true rfl) dw_344 (lq_rm hcs (by decide) (by decide))) (fun H locs adM2 hag w => ?_)
  replace hl := lq_ag rfl (hag _ (z_ok_lt gM)) rfl hl
  refine lv_aload_n hx hb dw_347 rfl (lv_at hl 2 rfl) ?_
  refine z_2I (lq_cc C w.swap.2.2.2.2.1) w.swap (z_runV (lq_cc C w.swap.2.2.2.2.1) w.swap.B 11 (mm_X12_fault C.2.2.1 l adM2 oM  hM e2) md_X12_fault qmL_68 gM (by decide) rfl rfl rfl ⟨Nat.le_of_ble_eq_true rfl, Nat.le_of_ble_eq_true rfl⟩ rfl hl.1 rfl (Nat.le_of_ble_eq_true rfl) dw_348 (lq_rm2 hcs (by decide) (by decide))) (fun H locs adX2 hag w => ?_)
  replace w := w.swap
  replace hl := lq_ag (hag _ (z_ok_lt gX1)) rfl (hag _ (z_ok_lt gO1)) hl
  refine lv_icmp_eq (tgt := 1722) hx hb dw_351 (by decide) (fun _ => ?_) (fun cn => absurd rfl cn)
  refine W.widen (k := cells + 8) (n := slots + 125) (by omega) (by omega) ?_
  exact kk _ _ _ _ _ _ _ hI1 w hl
set_option maxHeartbeats 4000000 in
set_option maxRecDepth 100000 in
theorem lc_test (C : lq_C G p s m meth c b L xs) (hfl : l.stackTraces = false) {Inv : z_T → z_T → Prop} {oX oM oO : Nat} (hV : lq_V Inv oX oM oO) {adX adM : Nat → Nat} {hX hM : z_T} {H : Heap} {locs : List Loc} {ls : Array Slot} {cells slots i : Nat} (w : z_2 G s adX adM hX hM H locs) (hI : Inv hX hM) (hi : i + 6 ≤ L) (hcs : cells + 8 ≤ room_1.cells ∧ slots + 125 ≤ room_1.slots) (hl : lv_has ls 8 (lq_l adX adM oX oM oO b i))
    (hop : ∃ (r : Int32) (hM' : z_T), fX11_test oX (xs (i + 1)) (xs (i + 2)) hX = some r ∧ fX12_test oM (xs (i + 1)) (xs (i + 2)) hM = some (r, hM') ∧ Inv hX hM')
    (kk : ∀ (adX adM : Nat → Nat) (hX hM : z_T) (H : Heap) (locs : List Loc) (ls : Array Slot), Inv hX hM → z_2 G s adX adM hX hM H locs → lv_has ls 8 (lq_l adX adM oX oM oO b i) → W p l e room_1 s m #[.ref b] below meth c H locs (cells + 8) (slots + 125) Q (F0 m 1722 ls [])) : W p l e room_1 s m #[.ref b] below meth c H locs cells slots Q (F0 m 356 ls []) := by
  obtain ⟨r, hM', e1, e2, hI1⟩ := hop
  obtain ⟨gX, gM, gO, -⟩ := hV _ _ hI
  obtain ⟨gX1, gM1, gO1, gI1⟩ := hV _ _ hI1
  have hx := C.1.1
  have hb := C.1.2.1
  refine lv_aload_n hx hb dw_356 rfl (lv_at hl 3 rfl) ?_
  refine lq_rd C w.2.2.1 (lv_at hl 4 rfl) (lv_at hl 0 rfl) (k := 1) (by omega) (by decide) dw_357 dw_358 dw_360 dw_361 dw_362 ?_
  refine lq_rd C w.2.2.1 (lv_at hl 4 rfl) (lv_at hl 0 rfl) (k := 2) (by omega) (by decide) dw_363 dw_364 dw_366 dw_367 dw_368 ?_
  refine z_2I (lq_cc C w.2.2.2.2.1) w (z_runV (lq_cc C w.2.2.2.2.1) w.B 10 (mm_X11_test C.2.2.1 l adX oX (xs (i + 1)) (xs (i + 2)) hX e1) md_X11_test qmL_69 gX (by decide) rfl rfl rfl ⟨Nat.le_of_ble_eq_true rfl, Nat.le_of_ble_eq_true rfl⟩ rfl hl.1 rfl (Nat.le_of_ble_eq_true rfl) dw_369 (lq_rm hcs (by decide) (by decide))) (fun H locs adM2 hag w => ?_)
  replace hl := lq_ag rfl (hag _ (z_ok_lt gM)) rfl hl
  refine lv_aload_n hx hb dw_372 rfl (lv_at hl 2 rfl) ?_
  refine lq_rd C w.2.2.1 (lv_at hl 4 rfl) (lv_at hl 0 rfl) (k := 1) (by omega) (by decide) dw_373 dw_374 dw_376 dw_377 dw_378 ?_
  refine lq_rd C w.2.2.1 (lv_at hl 4 rfl) (lv_at hl 0 rfl) (k := 2) (by omega) (by decide) dw_379 dw_380 dw_382 dw_383 dw_384 ?_
  refine z_2I (lq_cc C w.swap.2.2.2.2.1) w.swap (z_runV (lq_cc C w.swap.2.2.2.2.1) w.swap.B 11 (mm_X12_test C.2.2.1 l adM2 oM (xs (i + 1)) (xs (i + 2)) hM e2) md_X12_test qmL_73 gM (by decide) rfl rfl rfl ⟨Nat.le_of_ble_eq_true rfl, Nat.le_of_ble_eq_true rfl⟩ rfl hl.1 rfl (Nat.le_of_ble_eq_true rfl) dw_385 (lq_rm2 hcs (by decide) (by decide))) (fun H locs adX2 hag w => ?_)
  replace w := w.swap
  replace hl := lq_ag (hag _ (z_ok_lt gX1)) rfl (hag _ (z_ok_lt gO1)) hl
  refine lv_icmp_eq (tgt := 1722) hx hb dw_388 (by decide) (fun _ => ?_) (fun cn => absurd rfl cn)
  refine W.widen (k := cells + 8) (n := slots + 125) (by omega) (by omega) ?_
  exact kk _ _ _ _ _ _ _ hI1 w hl
set_option maxHeartbeats 4000000 in
set_option maxRecDepth 100000 in
theorem lc_dream (C : lq_C G p s m meth c b L xs) (hfl : l.stackTraces = false) {Inv : z_T → z_T → Prop} {oX oM oO : Nat} (hV : lq_V Inv oX oM oO) {adX adM : Nat → Nat} {hX hM : z_T} {H : Heap} {locs : List Loc} {ls : Array Slot} {cells slots i : Nat} (w : z_2 G s adX adM hX hM H locs) (hI : Inv hX hM) (hi : i + 6 ≤ L) (hcs : cells + 8 ≤ room_1.cells ∧ slots + 125 ≤ room_1.slots) (hl : lv_has ls 8 (lq_l adX adM oX oM oO b i))
    (hop : ∃ (r : Int32) (hM' : z_T), fX11_dream oX (xs (i + 1)) (xs (i + 2)) hX = some r ∧ fX12_dream oM (xs (i + 1)) (xs (i + 2)) hM = some (r, hM') ∧ Inv hX hM')
    (kk : ∀ (adX adM : Nat → Nat) (hX hM : z_T) (H : Heap) (locs : List Loc) (ls : Array Slot), Inv hX hM → z_2 G s adX adM hX hM H locs → lv_has ls 8 (lq_l adX adM oX oM oO b i) → W p l e room_1 s m #[.ref b] below meth c H locs (cells + 8) (slots + 125) Q (F0 m 1722 ls [])) : W p l e room_1 s m #[.ref b] below meth c H locs cells slots Q (F0 m 393 ls []) := by
  obtain ⟨r, hM', e1, e2, hI1⟩ := hop
  obtain ⟨gX, gM, gO, -⟩ := hV _ _ hI
  obtain ⟨gX1, gM1, gO1, gI1⟩ := hV _ _ hI1
  have hx := C.1.1
  have hb := C.1.2.1
  refine lv_aload_n hx hb dw_393 rfl (lv_at hl 3 rfl) ?_
  refine lq_rd C w.2.2.1 (lv_at hl 4 rfl) (lv_at hl 0 rfl) (k := 1) (by omega) (by decide) dw_394 dw_395 dw_397 dw_398 dw_399 ?_
  refine lq_rd C w.2.2.1 (lv_at hl 4 rfl) (lv_at hl 0 rfl) (k := 2) (by omega) (by decide) dw_400 dw_401 dw_403 dw_404 dw_405 ?_
  refine z_2I (lq_cc C w.2.2.2.2.1) w (z_runV (lq_cc C w.2.2.2.2.1) w.B 10 (mm_X11_dream C.2.2.1 l adX oX (xs (i + 1)) (xs (i + 2)) hX e1) md_X11_dream qmL_74 gX (by decide) rfl rfl rfl ⟨Nat.le_of_ble_eq_true rfl, Nat.le_of_ble_eq_true rfl⟩ rfl hl.1 rfl (Nat.le_of_ble_eq_true rfl) dw_406 (lq_rm hcs (by decide) (by decide))) (fun H locs adM2 hag w => ?_)
  replace hl := lq_ag rfl (hag _ (z_ok_lt gM)) rfl hl
  refine lv_aload_n hx hb dw_409 rfl (lv_at hl 2 rfl) ?_
  refine lq_rd C w.2.2.1 (lv_at hl 4 rfl) (lv_at hl 0 rfl) (k := 1) (by omega) (by decide) dw_410 dw_411 dw_413 dw_414 dw_415 ?_
  refine lq_rd C w.2.2.1 (lv_at hl 4 rfl) (lv_at hl 0 rfl) (k := 2) (by omega) (by decide) dw_416 dw_417 dw_419 dw_420 dw_421 ?_
  refine z_2I (lq_cc C w.swap.2.2.2.2.1) w.swap (z_runV (lq_cc C w.swap.2.2.2.2.1) w.swap.B 11 (mm_X12_dream C.2.2.1 l adM2 oM (xs (i + 1)) (xs (i + 2)) hM e2) md_X12_dream qmL_77 gM (by decide) rfl rfl rfl ⟨Nat.le_of_ble_eq_true rfl, Nat.le_of_ble_eq_true rfl⟩ rfl hl.1 rfl (Nat.le_of_ble_eq_true rfl) dw_422 (lq_rm2 hcs (by decide) (by decide))) (fun H locs adX2 hag w => ?_)
  replace w := w.swap
  replace hl := lq_ag (hag _ (z_ok_lt gX1)) rfl (hag _ (z_ok_lt gO1)) hl
  refine lv_icmp_eq (tgt := 1722) hx hb dw_425 (by decide) (fun _ => ?_) (fun cn => absurd rfl cn)
  refine W.widen (k := cells + 8) (n := slots + 125) (by omega) (by omega) ?_
  exact kk _ _ _ _ _ _ _ hI1 w hl
set_option maxHeartbeats 4000000 in
set_option maxRecDepth 100000 in
theorem lc_stays (C : lq_C G p s m meth c b L xs) (hfl : l.stackTraces = false) {Inv : z_T → z_T → Prop} {oX oM oO : Nat} (hV : lq_V Inv oX oM oO) {adX adM : Nat → Nat} {hX hM : z_T} {H : Heap} {locs : List Loc} {ls : Array Slot} {cells slots i : Nat} (w : z_2 G s adX adM hX hM H locs) (hI : Inv hX hM) (hi : i + 6 ≤ L) (hcs : cells + 8 ≤ room_1.cells ∧ slots + 125 ≤ room_1.slots) (hl : lv_has ls 8 (lq_l adX adM oX oM oO b i))
    (hop : ∃ (r : Int32) (hM' : z_T), fX11_stays oX (xs (i + 1)) (xs (i + 2)) hX = some r ∧ fX12_stays oM (xs (i + 1)) (xs (i + 2)) hM = some (r, hM') ∧ Inv hX hM')
    (kk : ∀ (adX adM : Nat → Nat) (hX hM : z_T) (H : Heap) (locs : List Loc) (ls : Array Slot), Inv hX hM → z_2 G s adX adM hX hM H locs → lv_has ls 8 (lq_l adX adM oX oM oO b i) → W p l e room_1 s m #[.ref b] below meth c H locs (cells + 8) (slots + 125) Q (F0 m 1722 ls [])) : W p l e room_1 s m #[.ref b] below meth c H locs cells slots Q (F0 m 430 ls []) := by
  obtain ⟨r, hM', e1, e2, hI1⟩ := hop
  obtain ⟨gX, gM, gO, -⟩ := hV _ _ hI
  obtain ⟨gX1, gM1, gO1, gI1⟩ := hV _ _ hI1
  have hx := C.1.1
  have hb := C.1.2.1
  refine lv_aload_n hx hb dw_430 rfl (lv_at hl 3 rfl) ?_
  refine lq_rd C w.2.2.1 (lv_at hl 4 rfl) (lv_at hl 0 rfl) (k := 1) (by omega) (by decide) dw_431 dw_432 dw_434 dw_435 dw_436 ?_
  refine lq_rd C w.2.2.1 (lv_at hl 4 rfl) (lv_at hl 0 rfl) (k := 2) (by omega) (by decide) dw_437 dw_438 dw_440 dw_441 dw_442 ?_
  refine z_2I (lq_cc C w.2.2.2.2.1) w (z_runV (lq_cc C w.2.2.2.2.1) w.B 10 (mm_X11_stays C.2.2.1 l adX oX (xs (i + 1)) (xs (i + 2)) hX e1) md_X11_stays qmL_78 gX (by decide) rfl rfl rfl ⟨Nat.le_of_ble_eq_true rfl, Nat.le_of_ble_eq_true rfl⟩ rfl hl.1 rfl (Nat.le_of_ble_eq_true rfl) dw_443 (lq_rm hcs (by decide) (by decide))) (fun H locs adM2 hag w => ?_)
  replace hl := lq_ag rfl (hag _ (z_ok_lt gM)) rfl hl
  refine lv_aload_n hx hb dw_446 rfl (lv_at hl 2 rfl) ?_
  refine lq_rd C w.2.2.1 (lv_at hl 4 rfl) (lv_at hl 0 rfl) (k := 1) (by omega) (by decide) dw_447 dw_448 dw_450 dw_451 dw_452 ?_
  refine lq_rd C w.2.2.1 (lv_at hl 4 rfl) (lv_at hl 0 rfl) (k := 2) (by omega) (by decide) dw_453 dw_454 dw_456 dw_457 dw_458 ?_
  refine z_2I (lq_cc C w.swap.2.2.2.2.1) w.swap (z_runV (lq_cc C w.swap.2.2.2.2.1) w.swap.B 11 (mm_X12_stays C.2.2.1 l adM2 oM (xs (i + 1)) (xs (i + 2)) hM e2) md_X12_stays qmL_81 gM (by decide) rfl rfl rfl ⟨Nat.le_of_ble_eq_true rfl, Nat.le_of_ble_eq_true rfl⟩ rfl hl.1 rfl (Nat.le_of_ble_eq_true rfl) dw_459 (lq_rm2 hcs (by decide) (by decide))) (fun H locs adX2 hag w => ?_)
  replace w := w.swap
  replace hl := lq_ag (hag _ (z_ok_lt gX1)) rfl (hag _ (z_ok_lt gO1)) hl
  refine lv_icmp_eq (tgt := 1722) hx hb dw_462 (by decide) (fun _ => ?_) (fun cn => absurd rfl cn)
  refine W.widen (k := cells + 8) (n := slots + 125) (by omega) (by omega) ?_
  exact kk _ _ _ _ _ _ _ hI1 w hl
set_option maxHeartbeats 4000000 in
set_option maxRecDepth 100000 in
theorem lc_ask (C : lq_C G p s m meth c b L xs) (hfl : l.stackTraces = false) {Inv : z_T → z_T → Prop} {oX oM oO : Nat} (hV : lq_V Inv oX oM oO) {adX adM : Nat → Nat} {hX hM : z_T} {H : Heap} {locs : List Loc} {ls : Array Slot} {cells slots i : Nat} (w : z_2 G s adX adM hX hM H locs) (hI : Inv hX hM) (hi : i + 6 ≤ L) (hcs : cells + 8 ≤ room_1.cells ∧ slots + 125 ≤ room_1.slots) (hl : lv_has ls 8 (lq_l adX adM oX oM oO b i))
    (hop : ∃ (r : Int32) (hX' hM' : z_T), fX11_ask oX (xs (i + 1)) (xs (i + 2)) hX = some (r, hX') ∧ fX12_ask oM (xs (i + 1)) (xs (i + 2)) hM = some (r, hM') ∧ Inv hX' hM')
    (kk : ∀ (adX adM : Nat → Nat) (hX hM : z_T) (H : Heap) (locs : List Loc) (ls : Array Slot), Inv hX hM → z_2 G s adX adM hX hM H locs → lv_has ls 8 (lq_l adX adM oX oM oO b i) → W p l e room_1 s m #[.ref b] below meth c H locs (cells + 8) (slots + 125) Q (F0 m 1722 ls [])) : W p l e room_1 s m #[.ref b] below meth c H locs cells slots Q (F0 m 467 ls []) := by
  obtain ⟨r, hX', hM', e1, e2, hI1⟩ := hop
  obtain ⟨gX, gM, gO, -⟩ := hV _ _ hI
  obtain ⟨gX1, gM1, gO1, gI1⟩ := hV _ _ hI1
  have hx := C.1.1
  have hb := C.1.2.1
  refine lv_aload_n hx hb dw_467 rfl (lv_at hl 3 rfl) ?_
  refine lq_rd C w.2.2.1 (lv_at hl 4 rfl) (lv_at hl 0 rfl) (k := 1) (by omega) (by decide) dw_468 dw_469 dw_471 dw_472 dw_473 ?_
  refine lq_rd C w.2.2.1 (lv_at hl 4 rfl) (lv_at hl 0 rfl) (k := 2) (by omega) (by decide) dw_474 dw_475 dw_477 dw_478 dw_479 ?_
  refine z_2I (lq_cc C w.2.2.2.2.1) w (z_runV (lq_cc C w.2.2.2.2.1) w.B 10 (mm_X11_ask C.2.2.1 l adX oX (xs (i + 1)) (xs (i + 2)) hX e1) md_X11_ask qmL_82 gX (by decide) rfl rfl rfl ⟨Nat.le_of_ble_eq_true rfl, Nat.le_of_ble_eq_true rfl⟩ rfl hl.1 rfl (Nat.le_of_ble_eq_true rfl) dw_480 (lq_rm hcs (by decide) (by decide))) (fun H locs adM2 hag w => ?_)
  replace hl := lq_ag rfl (hag _ (z_ok_lt gM)) rfl hl
  refine lv_aload_n hx hb dw_483 rfl (lv_at hl 2 rfl) ?_
  refine lq_rd C w.2.2.1 (lv_at hl 4 rfl) (lv_at hl 0 rfl) (k := 1) (by omega) (by decide) dw_484 dw_485 dw_487 dw_488 dw_489 ?_
  refine lq_rd C w.2.2.1 (lv_at hl 4 rfl) (lv_at hl 0 rfl) (k := 2) (by omega) (by decide) dw_490 dw_491 dw_493 dw_494 dw_495 ?_
  refine z_2I (lq_cc C w.swap.2.2.2.2.1) w.swap (z_runV (lq_cc C w.swap.2.2.2.2.1) w.swap.B 11 (mm_X12_ask C.2.2.1 l adM2 oM (xs (i + 1)) (xs (i + 2)) hM e2) md_X12_ask qmL_85 gM (by decide) rfl rfl rfl ⟨Nat.le_of_ble_eq_true rfl, Nat.le_of_ble_eq_true rfl⟩ rfl hl.1 rfl (Nat.le_of_ble_eq_true rfl) dw_496 (lq_rm2 hcs (by decide) (by decide))) (fun H locs adX2 hag w => ?_)
  replace w := w.swap
  replace hl := lq_ag (hag _ (z_ok_lt gX1)) rfl (hag _ (z_ok_lt gO1)) hl
  refine lv_icmp_eq (tgt := 1722) hx hb dw_499 (by decide) (fun _ => ?_) (fun cn => absurd rfl cn)
  refine W.widen (k := cells + 8) (n := slots + 125) (by omega) (by omega) ?_
  exact kk _ _ _ _ _ _ _ hI1 w hl
set_option maxHeartbeats 4000000 in
set_option maxRecDepth 100000 in
theorem lc_sleep (C : lq_C G p s m meth c b L xs) (hfl : l.stackTraces = false) {Inv : z_T → z_T → Prop} {oX oM oO : Nat} (hV : lq_V Inv oX oM oO) {adX adM : Nat → Nat} {hX hM : z_T} {H : Heap} {locs : List Loc} {ls : Array Slot} {cells slots i : Nat} (w : z_2 G s adX adM hX hM H locs) (hI : Inv hX hM) (hi : i + 6 ≤ L) (hcs : cells + 8 ≤ room_1.cells ∧ slots + 125 ≤ room_1.slots) (hl : lv_has ls 8 (lq_l adX adM oX oM oO b i))
    (hop : ∃ (r : Int32) (hX' hM' : z_T), fX11_sleep oX  hX = some (r, hX') ∧ fX12_sleep oM  hM = some (r, hM') ∧ Inv hX' hM')
    (kk : ∀ (adX adM : Nat → Nat) (hX hM : z_T) (H : Heap) (locs : List Loc) (ls : Array Slot), Inv hX hM → z_2 G s adX adM hX hM H locs → lv_has ls 8 (lq_l adX adM oX oM oO b i) → W p l e room_1 s m #[.ref b] below meth c H locs (cells + 8) (slots + 125) Q (F0 m 1722 ls [])) : W p l e room_1 s m #[.ref b] below meth c H locs cells slots Q (F0 m 504 ls []) := by
  obtain ⟨r, hX', hM', e1, e2, hI1⟩ := hop
  obtain ⟨gX, gM, gO, -⟩ := hV _ _ hI
  obtain ⟨gX1, gM1, gO1, gI1⟩ := hV _ _ hI1
  have hx := C.1.1
  have hb := C.1.2.1
  refine lv_aload_n hx hb dw_504 rfl (lv_at hl 3 rfl) ?_
  refine z_2I (lq_cc C w.2.2.2.2.1) w (z_runV (lq_cc C w.2.2.2.2.1) w.B 10 (mm_X11_sleep C.2.2.1 l adX oX  hX e1) md_X11_sleep qmL_86 gX (by decide) rfl rfl rfl ⟨Nat.le_of_ble_eq_true rfl, Nat.le_of_ble_eq_true rfl⟩ rfl hl.1 rfl (Nat.le_of_ble_eq_true rfl) dw_505 (lq_rm hcs (by decide) (by decide))) (fun H locs adM2 hag w => ?_)
  replace hl := lq_ag rfl (hag _ (z_ok_lt gM)) rfl hl
  refine lv_aload_n hx hb dw_508 rfl (lv_at hl 2 rfl) ?_
  refine z_2I (lq_cc C w.swap.2.2.2.2.1) w.swap (z_runV (lq_cc C w.swap.2.2.2.2.1) w.swap.B 11 (mm_X12_sleep C.2.2.1 l adM2 oM  hM e2) md_X12_sleep qmL_89 gM (by decide) rfl rfl rfl ⟨Nat.le_of_ble_eq_true rfl, Nat.le_of_ble_eq_true rfl⟩ rfl hl.1 rfl (Nat.le_of_ble_eq_true rfl) dw_509 (lq_rm2 hcs (by decide) (by decide))) (fun H locs adX2 hag w => ?_)
  replace w := w.swap
  replace hl := lq_ag (hag _ (z_ok_lt gX1)) rfl (hag _ (z_ok_lt gO1)) hl
  refine lv_icmp_eq (tgt := 1722) hx hb dw_512 (by decide) (fun _ => ?_) (fun cn => absurd rfl cn)
  refine W.widen (k := cells + 8) (n := slots + 125) (by omega) (by omega) ?_
  exact kk _ _ _ _ _ _ _ hI1 w hl
set_option maxHeartbeats 4000000 in
set_option maxRecDepth 100000 in
theorem lc_answer (C : lq_C G p s m meth c b L xs) (hfl : l.stackTraces = false) {Inv : z_T → z_T → Prop} {oX oM oO : Nat} (hV : lq_V Inv oX oM oO) {adX adM : Nat → Nat} {hX hM : z_T} {H : Heap} {locs : List Loc} {ls : Array Slot} {cells slots i : Nat} (w : z_2 G s adX adM hX hM H locs) (hI : Inv hX hM) (hi : i + 6 ≤ L) (hcs : cells + 8 ≤ room_1.cells ∧ slots + 125 ≤ room_1.slots) (hl : lv_has ls 8 (lq_l adX adM oX oM oO b i))
    (hop : ∃ (r : Int32) (hM' : z_T), fX11_answer oX (xs (i + 1)) hX = some r ∧ fX12_answer oM (xs (i + 1)) hM = some (r, hM') ∧ Inv hX hM')
    (kk : ∀ (adX adM : Nat → Nat) (hX hM : z_T) (H : Heap) (locs : List Loc) (ls : Array Slot), Inv hX hM → z_2 G s adX adM hX hM H locs → lv_has ls 8 (lq_l adX adM oX oM oO b i) → W p l e room_1 s m #[.ref b] below meth c H locs (cells + 8) (slots + 125) Q (F0 m 1722 ls [])) : W p l e room_1 s m #[.ref b] below meth c H locs cells slots Q (F0 m 517 ls []) := by
  obtain ⟨r, hM', e1, e2, hI1⟩ := hop
  obtain ⟨gX, gM, gO, -⟩ := hV _ _ hI
  obtain ⟨gX1, gM1, gO1, gI1⟩ := hV _ _ hI1
  have hx := C.1.1
  have hb := C.1.2.1
  refine lv_aload_n hx hb dw_517 rfl (lv_at hl 3 rfl) ?_
  refine lq_rd C w.2.2.1 (lv_at hl 4 rfl) (lv_at hl 0 rfl) (k := 1) (by omega) (by decide) dw_518 dw_519 dw_521 dw_522 dw_523 ?_
  refine z_2I (lq_cc C w.2.2.2.2.1) w (z_runV (lq_cc C w.2.2.2.2.1) w.B 10 (mm_X11_answer C.2.2.1 l adX oX (xs (i + 1)) hX e1) md_X11_answer qmL_90 gX (by decide) rfl rfl rfl ⟨Nat.le_of_ble_eq_true rfl, Nat.le_of_ble_eq_true rfl⟩ rfl hl.1 rfl (Nat.le_of_ble_eq_true rfl) dw_524 (lq_rm hcs (by decide) (by decide))) (fun H locs adM2 hag w => ?_)
  replace hl := lq_ag rfl (hag _ (z_ok_lt gM)) rfl hl
  refine lv_aload_n hx hb dw_527 rfl (lv_at hl 2 rfl) ?_
  refine lq_rd C w.2.2.1 (lv_at hl 4 rfl) (lv_at hl 0 rfl) (k := 1) (by omega) (by decide) dw_528 dw_529 dw_531 dw_532 dw_533 ?_
  refine z_2I (lq_cc C w.swap.2.2.2.2.1) w.swap (z_runV (lq_cc C w.swap.2.2.2.2.1) w.swap.B 11 (mm_X12_answer C.2.2.1 l adM2 oM (xs (i + 1)) hM e2) md_X12_answer qmL_94 gM (by decide) rfl rfl rfl ⟨Nat.le_of_ble_eq_true rfl, Nat.le_of_ble_eq_true rfl⟩ rfl hl.1 rfl (Nat.le_of_ble_eq_true rfl) dw_534 (lq_rm2 hcs (by decide) (by decide))) (fun H locs adX2 hag w => ?_)
  replace w := w.swap
  replace hl := lq_ag (hag _ (z_ok_lt gX1)) rfl (hag _ (z_ok_lt gO1)) hl
  refine lv_icmp_eq (tgt := 1722) hx hb dw_537 (by decide) (fun _ => ?_) (fun cn => absurd rfl cn)
  refine W.widen (k := cells + 8) (n := slots + 125) (by omega) (by omega) ?_
  exact kk _ _ _ _ _ _ _ hI1 w hl
set_option maxHeartbeats 4000000 in
set_option maxRecDepth 100000 in
theorem lc_undo (C : lq_C G p s m meth c b L xs) (hfl : l.stackTraces = false) {Inv : z_T → z_T → Prop} {oX oM oO : Nat} (hV : lq_V Inv oX oM oO) {adX adM : Nat → Nat} {hX hM : z_T} {H : Heap} {locs : List Loc} {ls : Array Slot} {cells slots i : Nat} (w : z_2 G s adX adM hX hM H locs) (hI : Inv hX hM) (hi : i + 6 ≤ L) (hcs : cells + 8 ≤ room_1.cells ∧ slots + 125 ≤ room_1.slots) (hl : lv_has ls 8 (lq_l adX adM oX oM oO b i))
    (hop : ∃ (r : Int32) (hX' hM' : z_T), fX11_undo oX  hX = some (r, hX') ∧ fX12_undo oM  hM = some (r, hM') ∧ Inv hX' hM')
    (kk : ∀ (adX adM : Nat → Nat) (hX hM : z_T) (H : Heap) (locs : List Loc) (ls : Array Slot), Inv hX hM → z_2 G s adX adM hX hM H locs → lv_has ls 8 (lq_l adX adM oX oM oO b i) → W p l e room_1 s m #[.ref b] below meth c H locs (cells + 8) (slots + 125) Q (F0 m 1722 ls [])) : W p l e room_1 s m #[.ref b] below meth c H locs cells slots Q (F0 m 542 ls []) := by
  obtain ⟨r, hX', hM', e1, e2, hI1⟩ := hop
  obtain ⟨gX, gM, gO, -⟩ := hV _ _ hI
  obtain ⟨gX1, gM1, gO1, gI1⟩ := hV _ _ hI1
  have hx := C.1.1
  have hb := C.1.2.1
  refine lv_aload_n hx hb dw_542 rfl (lv_at hl 3 rfl) ?_
  refine z_2I (lq_cc C w.2.2.2.2.1) w (z_runV (lq_cc C w.2.2.2.2.1) w.B 10 (mm_X11_undo C.2.2.1 l adX oX  hX e1) md_X11_undo qmL_95 gX (by decide) rfl rfl rfl ⟨Nat.le_of_ble_eq_true rfl, Nat.le_of_ble_eq_true rfl⟩ rfl hl.1 rfl (Nat.le_of_ble_eq_true rfl) dw_543 (lq_rm hcs (by decide) (by decide))) (fun H locs adM2 hag w => ?_)
  replace hl := lq_ag rfl (hag _ (z_ok_lt gM)) rfl hl
  refine lv_aload_n hx hb dw_546 rfl (lv_at hl 2 rfl) ?_
  refine z_2I (lq_cc C w.swap.2.2.2.2.1) w.swap (z_runV (lq_cc C w.swap.2.2.2.2.1) w.swap.B 11 (mm_X12_undo C.2.2.1 l adM2 oM  hM e2) md_X12_undo qmL_98 gM (by decide) rfl rfl rfl ⟨Nat.le_of_ble_eq_true rfl, Nat.le_of_ble_eq_true rfl⟩ rfl hl.1 rfl (Nat.le_of_ble_eq_true rfl) dw_547 (lq_rm2 hcs (by decide) (by decide))) (fun H locs adX2 hag w => ?_)
  replace w := w.swap
  replace hl := lq_ag (hag _ (z_ok_lt gX1)) rfl (hag _ (z_ok_lt gO1)) hl
  refine lv_icmp_eq (tgt := 1722) hx hb dw_550 (by decide) (fun _ => ?_) (fun cn => absurd rfl cn)
  refine W.widen (k := cells + 8) (n := slots + 125) (by omega) (by omega) ?_
  exact kk _ _ _ _ _ _ _ hI1 w hl
set_option maxHeartbeats 4000000 in
set_option maxRecDepth 100000 in
theorem lc_sure (C : lq_C G p s m meth c b L xs) (hfl : l.stackTraces = false) {Inv : z_T → z_T → Prop} {oX oM oO : Nat} (hV : lq_V Inv oX oM oO) {adX adM : Nat → Nat} {hX hM : z_T} {H : Heap} {locs : List Loc} {ls : Array Slot} {cells slots i : Nat} (w : z_2 G s adX adM hX hM H locs) (hI : Inv hX hM) (hi : i + 6 ≤ L) (hcs : cells + 8 ≤ room_1.cells ∧ slots + 125 ≤ room_1.slots) (hl : lv_has ls 8 (lq_l adX adM oX oM oO b i))
    (hop : ∃ (k : Int32) (v : Int64) (hX' hM' : z_T), fL_sure oX (xs (i + 1)) oO hX = some (k, hX') ∧ fX12_sure oM (xs (i + 1)) hM = some (v, hM') ∧ fX12_thrown oM hM' = some k ∧ (k = 0 → z_L hX' oO 0 = v) ∧ Inv hX' hM')
    (kk : ∀ (adX adM : Nat → Nat) (hX hM : z_T) (H : Heap) (locs : List Loc) (ls : Array Slot), Inv hX hM → z_2 G s adX adM hX hM H locs → lv_has ls 8 (lq_l adX adM oX oM oO b i) → W p l e room_1 s m #[.ref b] below meth c H locs (cells + 8) (slots + 125) Q (F0 m 1722 ls [])) : W p l e room_1 s m #[.ref b] below meth c H locs cells slots Q (F0 m 555 ls []) := by
  obtain ⟨k, v, hX', hM', e1, e2, e3, e4, hI1⟩ := hop
  obtain ⟨gX, gM, gO, -⟩ := hV _ _ hI
  obtain ⟨gX1, gM1, gO1, gI1⟩ := hV _ _ hI1
  have hx := C.1.1
  have hb := C.1.2.1
  refine lv_aload_n hx hb dw_555 rfl (lv_at hl 3 rfl) ?_
  refine lq_rd C w.2.2.1 (lv_at hl 4 rfl) (lv_at hl 0 rfl) (k := 1) (by omega) (by decide) dw_556 dw_557 dw_559 dw_560 dw_561 ?_
  refine lv_aload_n hx hb dw_562 rfl (lv_at hl 1 rfl) ?_
  refine z_2W (lq_cc C w.2.2.2.2.1) w (z_runW (n := 3) (lq_cc C w.2.2.2.2.1) w.B (mm_L_sure C.2.2.1 l hfl adX oX (xs (i + 1)) oO hX e1) qcw_sure qst_sure qini_RL qmL_99 ⟨by decide +kernel, by decide +kernel, by decide +kernel⟩ rfl rfl ⟨Nat.le_of_ble_eq_true rfl, Nat.le_of_ble_eq_true rfl⟩ rfl hl.1 rfl (Nat.le_of_ble_eq_true rfl) dw_563 (lq_rm hcs (by decide) (by decide))) (fun H locs adX2 adM2 hag1 hag2 w => ?_)
  replace hl := lq_ag (hag1 _ (z_ok_lt gX1)) (hag2 _ (z_ok_lt gM)) (hag1 _ (z_ok_lt gO1)) hl
  refine lv_istore (lv' := (5, .int k) :: lq_l adX2 adM2 oX oM oO b i) hx hb dw_566 hl (by decide) rfl (fun ls hl => ?_)
  refine lv_aload_n hx hb dw_568 rfl (lv_at hl 3 rfl) ?_
  refine lq_rd C w.2.2.1 (lv_at hl 5 rfl) (lv_at hl 1 rfl) (k := 1) (by omega) (by decide) dw_569 dw_570 dw_572 dw_573 dw_574 ?_
  refine z_2L (lq_cc C w.swap.2.2.2.2.1) w.swap (z_runV (lq_cc C w.swap.2.2.2.2.1) w.swap.B 11 (mm_X12_sure C.2.2.1 l adM2 oM (xs (i + 1)) hM e2) md_X12_sure qmL_104 gM (by decide) rfl rfl rfl ⟨Nat.le_of_ble_eq_true rfl, Nat.le_of_ble_eq_true rfl⟩ rfl hl.1 rfl (Nat.le_of_ble_eq_true rfl) dw_575 (lq_rm2 hcs (by decide) (by decide))) (fun H locs adX3 hag w => ?_)
  replace w := w.swap
  replace hl := lq_ag5 (hag _ (z_ok_lt gX1)) rfl (hag _ (z_ok_lt gO1)) hl
  refine lv_lstore (lv' := (6, .long v) :: (5, .int k) :: lq_l adX3 adM2 oX oM oO b i) hx hb dw_578 hl (by decide) rfl (fun ls hl => ?_)
  refine lv_aload_n hx hb dw_580 rfl (lv_at hl 4 rfl) ?_
  refine z_2I (lq_cc C w.swap.2.2.2.2.1) w.swap (z_runV (lq_cc C w.swap.2.2.2.2.1) w.swap.B 11 (mm_X12_thrown C.2.2.1 l adM2 oM hM' e3) md_X12_thrown qmL_105 gM1 (by decide) rfl rfl rfl ⟨Nat.le_of_ble_eq_true rfl, Nat.le_of_ble_eq_true rfl⟩ rfl hl.1 rfl (Nat.le_of_ble_eq_true rfl) dw_581 (lq_rm3 hcs (by decide) (by decide))) (fun H locs adX4 hag w => ?_)
  replace w := w.swap
  replace hl := lq_ag6 (hag _ (z_ok_lt gX1)) rfl (hag _ (z_ok_lt gO1)) hl
  refine lv_iload hx hb dw_584 (lv_at hl 1 rfl) ?_
  refine lv_icmp_eq (tgt := 591) hx hb dw_586 (by decide) (fun _ => ?_) (fun cn => absurd rfl cn)
  refine lv_iload hx hb dw_591 (lv_at hl 1 rfl) ?_
  have hl2 : lv_has ls 8 (lq_l adX4 adM2 oX oM oO b i) := lv_sub hl [2, 3, 4, 5, 6] rfl
  have fin : W p l e room_1 s m #[.ref b] below meth c H locs (cells + 1 + 0 + 0) (slots + 6 + 0 + 0) Q (F0 m 607 ls []) := lv_goto (tgt := 1722) hx hb dw_607 (by decide) (W.widen (k := cells + 8) (n := slots + 125) (by omega) (by omega) (kk _ _ _ _ _ _ _ hI1 w hl2))
  refine lv_if_ne (tgt := 607) hx hb dw_593 (by decide) (fun _ => fin) (fun ck => ?_)
  refine lv_aload_n hx hb dw_596 rfl (lv_at hl 3 rfl) ?_
  refine lv_iconst (v := (0 : Int32)) hx hb dw_597 (by decide) ?_
  refine z_lald (lq_cc C w.2.2.2.2.1) w.B gO1 gI1 dw_598 ?_
  rw [show z_L hX' oO ((0 : Int32)).toNatClampNeg = v from e4 ck]
  refine lv_lload hx hb dw_599 (lv_at hl 0 rfl) ?_
  refine W.lcmp hx hb dw_601 ?_
  refine lv_if_eq (tgt := 607) hx hb dw_602 (by decide) (fun _ => fin) (fun cn => absurd (lq_cmp v) cn)
set_option maxHeartbeats 4000000 in
set_option maxRecDepth 100000 in
theorem lc_odds (C : lq_C G p s m meth c b L xs) (hfl : l.stackTraces = false) {Inv : z_T → z_T → Prop} {oX oM oO : Nat} (hV : lq_V Inv oX oM oO) {adX adM : Nat → Nat} {hX hM : z_T} {H : Heap} {locs : List Loc} {ls : Array Slot} {cells slots i : Nat} (w : z_2 G s adX adM hX hM H locs) (hI : Inv hX hM) (hi : i + 6 ≤ L) (hcs : cells + 8 ≤ room_1.cells ∧ slots + 125 ≤ room_1.slots) (hl : lv_has ls 8 (lq_l adX adM oX oM oO b i))
    (hop : ∃ (k : Int32) (v : Int64) (hX' hM' : z_T), fL_odds oX (xs (i + 1)) (xs (i + 2)) oO hX = some (k, hX') ∧ fX12_odds oM (xs (i + 1)) (xs (i + 2)) hM = some (v, hM') ∧ fX12_thrown oM hM' = some k ∧ (k = 0 → z_L hX' oO 0 = v) ∧ Inv hX' hM')
    (kk : ∀ (adX adM : Nat → Nat) (hX hM : z_T) (H : Heap) (locs : List Loc) (ls : Array Slot), Inv hX hM → z_2 G s adX adM hX hM H locs → lv_has ls 8 (lq_l adX adM oX oM oO b i) → W p l e room_1 s m #[.ref b] below meth c H locs (cells + 8) (slots + 125) Q (F0 m 1722 ls [])) : W p l e room_1 s m #[.ref b] below meth c H locs cells slots Q (F0 m 610 ls []) := by
  obtain ⟨k, v, hX', hM', e1, e2, e3, e4, hI1⟩ := hop
  obtain ⟨gX, gM, gO, -⟩ := hV _ _ hI
  obtain ⟨gX1, gM1, gO1, gI1⟩ := hV _ _ hI1
  have hx := C.1.1
  have hb := C.1.2.1
  refine lv_aload_n hx hb dw_610 rfl (lv_at hl 3 rfl) ?_
  refine lq_rd C w.2.2.1 (lv_at hl 4 rfl) (lv_at hl 0 rfl) (k := 1) (by omega) (by decide) dw_611 dw_612 dw_614 dw_615 dw_616 ?_
  refine lq_rd C w.2.2.1 (lv_at hl 4 rfl) (lv_at hl 0 rfl) (k := 2) (by omega) (by decide) dw_617 dw_618 dw_620 dw_621 dw_622 ?_
  refine lv_aload_n hx hb dw_623 rfl (lv_at hl 1 rfl) ?_
  refine z_2W (lq_cc C w.2.2.2.2.1) w (z_runW (n := 4) (lq_cc C w.2.2.2.2.1) w.B (mm_L_odds C.2.2.1 l hfl adX oX (xs (i + 1)) (xs (i + 2)) oO hX e1) qcw_odds qst_odds qini_RL qmL_108 ⟨by decide +kernel, by decide +kernel, by decide +kernel⟩ rfl rfl ⟨Nat.le_of_ble_eq_true rfl, Nat.le_of_ble_eq_true rfl⟩ rfl hl.1 rfl (Nat.le_of_ble_eq_true rfl) dw_624 (lq_rm hcs (by decide) (by decide))) (fun H locs adX2 adM2 hag1 hag2 w => ?_)
  replace hl := lq_ag (hag1 _ (z_ok_lt gX1)) (hag2 _ (z_ok_lt gM)) (hag1 _ (z_ok_lt gO1)) hl
  refine lv_istore (lv' := (5, .int k) :: lq_l adX2 adM2 oX oM oO b i) hx hb dw_627 hl (by decide) rfl (fun ls hl => ?_)
  refine lv_aload_n hx hb dw_629 rfl (lv_at hl 3 rfl) ?_
  refine lq_rd C w.2.2.1 (lv_at hl 5 rfl) (lv_at hl 1 rfl) (k := 1) (by omega) (by decide) dw_630 dw_631 dw_633 dw_634 dw_635 ?_
  refine lq_rd C w.2.2.1 (lv_at hl 5 rfl) (lv_at hl 1 rfl) (k := 2) (by omega) (by decide) dw_636 dw_637 dw_639 dw_640 dw_641 ?_
  refine z_2L (lq_cc C w.swap.2.2.2.2.1) w.swap (z_runV (lq_cc C w.swap.2.2.2.2.1) w.swap.B 11 (mm_X12_odds C.2.2.1 l adM2 oM (xs (i + 1)) (xs (i + 2)) hM e2) md_X12_odds qmL_111 gM (by decide) rfl rfl rfl ⟨Nat.le_of_ble_eq_true rfl, Nat.le_of_ble_eq_true rfl⟩ rfl hl.1 rfl (Nat.le_of_ble_eq_true rfl) dw_642 (lq_rm2 hcs (by decide) (by decide))) (fun H locs adX3 hag w => ?_)
  replace w := w.swap
  replace hl := lq_ag5 (hag _ (z_ok_lt gX1)) rfl (hag _ (z_ok_lt gO1)) hl
  refine lv_lstore (lv' := (6, .long v) :: (5, .int k) :: lq_l adX3 adM2 oX oM oO b i) hx hb dw_645 hl (by decide) rfl (fun ls hl => ?_)
  refine lv_aload_n hx hb dw_647 rfl (lv_at hl 4 rfl) ?_
  refine z_2I (lq_cc C w.swap.2.2.2.2.1) w.swap (z_runV (lq_cc C w.swap.2.2.2.2.1) w.swap.B 11 (mm_X12_thrown C.2.2.1 l adM2 oM hM' e3) md_X12_thrown qmL_105 gM1 (by decide) rfl rfl rfl ⟨Nat.le_of_ble_eq_true rfl, Nat.le_of_ble_eq_true rfl⟩ rfl hl.1 rfl (Nat.le_of_ble_eq_true rfl) dw_648 (lq_rm3 hcs (by decide) (by decide))) (fun H locs adX4 hag w => ?_)
  replace w := w.swap
  replace hl := lq_ag6 (hag _ (z_ok_lt gX1)) rfl (hag _ (z_ok_lt gO1)) hl
  refine lv_iload hx hb dw_651 (lv_at hl 1 rfl) ?_
  refine lv_icmp_eq (tgt := 658) hx hb dw_653 (by decide) (fun _ => ?_) (fun cn => absurd rfl cn)
  refine lv_iload hx hb dw_658 (lv_at hl 1 rfl) ?_
  have hl2 : lv_has ls 8 (lq_l adX4 adM2 oX oM oO b i) := lv_sub hl [2, 3, 4, 5, 6] rfl
  have fin : W p l e room_1 s m #[.ref b] below meth c H locs (cells + 1 + 0 + 0) (slots + 6 + 0 + 0) Q (F0 m 674 ls []) := lv_goto (tgt := 1722) hx hb dw_674 (by decide) (W.widen (k := cells + 8) (n := slots + 125) (by omega) (by omega) (kk _ _ _ _ _ _ _ hI1 w hl2))
  refine lv_if_ne (tgt := 674) hx hb dw_660 (by decide) (fun _ => fin) (fun ck => ?_)
  refine lv_aload_n hx hb dw_663 rfl (lv_at hl 3 rfl) ?_
  refine lv_iconst (v := (0 : Int32)) hx hb dw_664 (by decide) ?_
  refine z_lald (lq_cc C w.2.2.2.2.1) w.B gO1 gI1 dw_665 ?_
  rw [show z_L hX' oO ((0 : Int32)).toNatClampNeg = v from e4 ck]
  refine lv_lload hx hb dw_666 (lv_at hl 0 rfl) ?_
  refine W.lcmp hx hb dw_668 ?_
  refine lv_if_eq (tgt := 674) hx hb dw_669 (by decide) (fun _ => fin) (fun cn => absurd (lq_cmp v) cn)
set_option maxHeartbeats 4000000 in
set_option maxRecDepth 100000 in
theorem lc_up (C : lq_C G p s m meth c b L xs) (hfl : l.stackTraces = false) {Inv : z_T → z_T → Prop} {oX oM oO : Nat} (hV : lq_V Inv oX oM oO) {adX adM : Nat → Nat} {hX hM : z_T} {H : Heap} {locs : List Loc} {ls : Array Slot} {cells slots i : Nat} (w : z_2 G s adX adM hX hM H locs) (hI : Inv hX hM) (hi : i + 6 ≤ L) (hcs : cells + 8 ≤ room_1.cells ∧ slots + 125 ≤ room_1.slots) (hl : lv_has ls 8 (lq_l adX adM oX oM oO b i))
    (hop : ∃ (r : Int32) (hM' : z_T), fX11_up oX  hX = some r ∧ fX12_up oM  hM = some (r, hM') ∧ Inv hX hM')
    (kk : ∀ (adX adM : Nat → Nat) (hX hM : z_T) (H : Heap) (locs : List Loc) (ls : Array Slot), Inv hX hM → z_2 G s adX adM hX hM H locs → lv_has ls 8 (lq_l adX adM oX oM oO b i) → W p l e room_1 s m #[.ref b] below meth c H locs (cells + 8) (slots + 125) Q (F0 m 1722 ls [])) : W p l e room_1 s m #[.ref b] below meth c H locs cells slots Q (F0 m 677 ls []) := by
  obtain ⟨r, hM', e1, e2, hI1⟩ := hop
  obtain ⟨gX, gM, gO, -⟩ := hV _ _ hI
  obtain ⟨gX1, gM1, gO1, gI1⟩ := hV _ _ hI1
  have hx := C.1.1
  have hb := C.1.2.1
  refine lv_aload_n hx hb dw_677 rfl (lv_at hl 3 rfl) ?_
  refine z_2I (lq_cc C w.2.2.2.2.1) w (z_runV (lq_cc C w.2.2.2.2.1) w.B 10 (mm_X11_up C.2.2.1 l adX oX  hX e1) md_X11_up qmL_112 gX (by decide) rfl rfl rfl ⟨Nat.le_of_ble_eq_true rfl, Nat.le_of_ble_eq_true rfl⟩ rfl hl.1 rfl (Nat.le_of_ble_eq_true rfl) dw_678 (lq_rm hcs (by decide) (by decide))) (fun H locs adM2 hag w => ?_)
  replace hl := lq_ag rfl (hag _ (z_ok_lt gM)) rfl hl
  refine lv_aload_n hx hb dw_681 rfl (lv_at hl 2 rfl) ?_
  refine z_2I (lq_cc C w.swap.2.2.2.2.1) w.swap (z_runV (lq_cc C w.swap.2.2.2.2.1) w.swap.B 11 (mm_X12_up C.2.2.1 l adM2 oM  hM e2) md_X12_up qmL_115 gM (by decide) rfl rfl rfl ⟨Nat.le_of_ble_eq_true rfl, Nat.le_of_ble_eq_true rfl⟩ rfl hl.1 rfl (Nat.le_of_ble_eq_true rfl) dw_682 (lq_rm2 hcs (by decide) (by decide))) (fun H locs adX2 hag w => ?_)
  replace w := w.swap
  replace hl := lq_ag (hag _ (z_ok_lt gX1)) rfl (hag _ (z_ok_lt gO1)) hl
  refine lv_icmp_eq (tgt := 1722) hx hb dw_685 (by decide) (fun _ => ?_) (fun cn => absurd rfl cn)
  refine W.widen (k := cells + 8) (n := slots + 125) (by omega) (by omega) ?_
  exact kk _ _ _ _ _ _ _ hI1 w hl
set_option maxHeartbeats 4000000 in
set_option maxRecDepth 100000 in
theorem lc_likely (C : lq_C G p s m meth c b L xs) (hfl : l.stackTraces = false) {Inv : z_T → z_T → Prop} {oX oM oO : Nat} (hV : lq_V Inv oX oM oO) {adX adM : Nat → Nat} {hX hM : z_T} {H : Heap} {locs : List Loc} {ls : Array Slot} {cells slots i : Nat} (w : z_2 G s adX adM hX hM H locs) (hI : Inv hX hM) (hi : i + 6 ≤ L) (hcs : cells + 8 ≤ room_1.cells ∧ slots + 125 ≤ room_1.slots) (hl : lv_has ls 8 (lq_l adX adM oX oM oO b i))
    (hop : ∃ (r : Int32) (hM' : z_T), fX11_likely oX  hX = some r ∧ fX12_likely oM  hM = some (r, hM') ∧ Inv hX hM')
    (kk : ∀ (adX adM : Nat → Nat) (hX hM : z_T) (H : Heap) (locs : List Loc) (ls : Array Slot), Inv hX hM → z_2 G s adX adM hX hM H locs → lv_has ls 8 (lq_l adX adM oX oM oO b i) → W p l e room_1 s m #[.ref b] below meth c H locs (cells + 8) (slots + 125) Q (F0 m 1722 ls [])) : W p l e room_1 s m #[.ref b] below meth c H locs cells slots Q (F0 m 690 ls []) := by
  obtain ⟨r, hM', e1, e2, hI1⟩ := hop
  obtain ⟨gX, gM, gO, -⟩ := hV _ _ hI
  obtain ⟨gX1, gM1, gO1, gI1⟩ := hV _ _ hI1
  have hx := C.1.1
  have hb := C.1.2.1
  refine lv_aload_n hx hb dw_690 rfl (lv_at hl 3 rfl) ?_
  refine z_2I (lq_cc C w.2.2.2.2.1) w (z_runV (lq_cc C w.2.2.2.2.1) w.B 10 (mm_X11_likely C.2.2.1 l adX oX  hX e1) md_X11_likely qmL_116 gX (by decide) rfl rfl rfl ⟨Nat.le_of_ble_eq_true rfl, Nat.le_of_ble_eq_true rfl⟩ rfl hl.1 rfl (Nat.le_of_ble_eq_true rfl) dw_691 (lq_rm hcs (by decide) (by decide))) (fun H locs adM2 hag w => ?_)
  replace hl := lq_ag rfl (hag _ (z_ok_lt gM)) rfl hl
  refine lv_aload_n hx hb dw_694 rfl (lv_at hl 2 rfl) ?_
  refine z_2I (lq_cc C w.swap.2.2.2.2.1) w.swap (z_runV (lq_cc C w.swap.2.2.2.2.1) w.swap.B 11 (mm_X12_likely C.2.2.1 l adM2 oM  hM e2) md_X12_likely qmL_119 gM (by decide) rfl rfl rfl ⟨Nat.le_of_ble_eq_true rfl, Nat.le_of_ble_eq_true rfl⟩ rfl hl.1 rfl (Nat.le_of_ble_eq_true rfl) dw_695 (lq_rm2 hcs (by decide) (by decide))) (fun H locs adX2 hag w => ?_)
  replace w := w.swap
  replace hl := lq_ag (hag _ (z_ok_lt gX1)) rfl (hag _ (z_ok_lt gO1)) hl
  refine lv_icmp_eq (tgt := 1722) hx hb dw_698 (by decide) (fun _ => ?_) (fun cn => absurd rfl cn)
  refine W.widen (k := cells + 8) (n := slots + 125) (by omega) (by omega) ?_
  exact kk _ _ _ _ _ _ _ hI1 w hl
set_option maxHeartbeats 4000000 in
set_option maxRecDepth 100000 in
theorem lc_fits (C : lq_C G p s m meth c b L xs) (hfl : l.stackTraces = false) {Inv : z_T → z_T → Prop} {oX oM oO : Nat} (hV : lq_V Inv oX oM oO) {adX adM : Nat → Nat} {hX hM : z_T} {H : Heap} {locs : List Loc} {ls : Array Slot} {cells slots i : Nat} (w : z_2 G s adX adM hX hM H locs) (hI : Inv hX hM) (hi : i + 6 ≤ L) (hcs : cells + 8 ≤ room_1.cells ∧ slots + 125 ≤ room_1.slots) (hl : lv_has ls 8 (lq_l adX adM oX oM oO b i))
    (hop : ∃ (r : Int32) (hM' : z_T), fX11_fits oX  hX = some r ∧ fX12_fits oM  hM = some (r, hM') ∧ Inv hX hM')
    (kk : ∀ (adX adM : Nat → Nat) (hX hM : z_T) (H : Heap) (locs : List Loc) (ls : Array Slot), Inv hX hM → z_2 G s adX adM hX hM H locs → lv_has ls 8 (lq_l adX adM oX oM oO b i) → W p l e room_1 s m #[.ref b] below meth c H locs (cells + 8) (slots + 125) Q (F0 m 1722 ls [])) : W p l e room_1 s m #[.ref b] below meth c H locs cells slots Q (F0 m 703 ls []) := by
  obtain ⟨r, hM', e1, e2, hI1⟩ := hop
  obtain ⟨gX, gM, gO, -⟩ := hV _ _ hI
  obtain ⟨gX1, gM1, gO1, gI1⟩ := hV _ _ hI1
  have hx := C.1.1
  have hb := C.1.2.1
  refine lv_aload_n hx hb dw_703 rfl (lv_at hl 3 rfl) ?_
  refine z_2I (lq_cc C w.2.2.2.2.1) w (z_runV (lq_cc C w.2.2.2.2.1) w.B 10 (mm_X11_fits C.2.2.1 l adX oX  hX e1) md_X11_fits qmL_120 gX (by decide) rfl rfl rfl ⟨Nat.le_of_ble_eq_true rfl, Nat.le_of_ble_eq_true rfl⟩ rfl hl.1 rfl (Nat.le_of_ble_eq_true rfl) dw_704 (lq_rm hcs (by decide) (by decide))) (fun H locs adM2 hag w => ?_)
  replace hl := lq_ag rfl (hag _ (z_ok_lt gM)) rfl hl
  refine lv_aload_n hx hb dw_707 rfl (lv_at hl 2 rfl) ?_
  refine z_2I (lq_cc C w.swap.2.2.2.2.1) w.swap (z_runV (lq_cc C w.swap.2.2.2.2.1) w.swap.B 11 (mm_X12_fits C.2.2.1 l adM2 oM  hM e2) md_X12_fits qmL_123 gM (by decide) rfl rfl rfl ⟨Nat.le_of_ble_eq_true rfl, Nat.le_of_ble_eq_true rfl⟩ rfl hl.1 rfl (Nat.le_of_ble_eq_true rfl) dw_708 (lq_rm2 hcs (by decide) (by decide))) (fun H locs adX2 hag w => ?_)
  replace w := w.swap
  replace hl := lq_ag (hag _ (z_ok_lt gX1)) rfl (hag _ (z_ok_lt gO1)) hl
  refine lv_icmp_eq (tgt := 1722) hx hb dw_711 (by decide) (fun _ => ?_) (fun cn => absurd rfl cn)
  refine W.widen (k := cells + 8) (n := slots + 125) (by omega) (by omega) ?_
  exact kk _ _ _ _ _ _ _ hI1 w hl
set_option maxHeartbeats 4000000 in
set_option maxRecDepth 100000 in
theorem lc_enough (C : lq_C G p s m meth c b L xs) (hfl : l.stackTraces = false) {Inv : z_T → z_T → Prop} {oX oM oO : Nat} (hV : lq_V Inv oX oM oO) {adX adM : Nat → Nat} {hX hM : z_T} {H : Heap} {locs : List Loc} {ls : Array Slot} {cells slots i : Nat} (w : z_2 G s adX adM hX hM H locs) (hI : Inv hX hM) (hi : i + 6 ≤ L) (hcs : cells + 8 ≤ room_1.cells ∧ slots + 125 ≤ room_1.slots) (hl : lv_has ls 8 (lq_l adX adM oX oM oO b i))
    (hop : ∃ (r : Int32) (hM' : z_T), fX11_enough oX  hX = some r ∧ fX12_enough oM  hM = some (r, hM') ∧ Inv hX hM')
    (kk : ∀ (adX adM : Nat → Nat) (hX hM : z_T) (H : Heap) (locs : List Loc) (ls : Array Slot), Inv hX hM → z_2 G s adX adM hX hM H locs → lv_has ls 8 (lq_l adX adM oX oM oO b i) → W p l e room_1 s m #[.ref b] below meth c H locs (cells + 8) (slots + 125) Q (F0 m 1722 ls [])) : W p l e room_1 s m #[.ref b] below meth c H locs cells slots Q (F0 m 716 ls []) := by
  obtain ⟨r, hM', e1, e2, hI1⟩ := hop
  obtain ⟨gX, gM, gO, -⟩ := hV _ _ hI
  obtain ⟨gX1, gM1, gO1, gI1⟩ := hV _ _ hI1
  have hx := C.1.1
  have hb := C.1.2.1
  refine lv_aload_n hx hb dw_716 rfl (lv_at hl 3 rfl) ?_
  refine z_2I (lq_cc C w.2.2.2.2.1) w (z_runV (lq_cc C w.2.2.2.2.1) w.B 10 (mm_X11_enough C.2.2.1 l adX oX  hX e1) md_X11_enough qmL_124 gX (by decide) rfl rfl rfl ⟨Nat.le_of_ble_eq_true rfl, Nat.le_of_ble_eq_true rfl⟩ rfl hl.1 rfl (Nat.le_of_ble_eq_true rfl) dw_717 (lq_rm hcs (by decide) (by decide))) (fun H locs adM2 hag w => ?_)
  replace hl := lq_ag rfl (hag _ (z_ok_lt gM)) rfl hl
  refine lv_aload_n hx hb dw_720 rfl (lv_at hl 2 rfl) ?_
  refine z_2I (lq_cc C w.swap.2.2.2.2.1) w.swap (z_runV (lq_cc C w.swap.2.2.2.2.1) w.swap.B 11 (mm_X12_enough C.2.2.1 l adM2 oM  hM e2) md_X12_enough qmL_127 gM (by decide) rfl rfl rfl ⟨Nat.le_of_ble_eq_true rfl, Nat.le_of_ble_eq_true rfl⟩ rfl hl.1 rfl (Nat.le_of_ble_eq_true rfl) dw_721 (lq_rm2 hcs (by decide) (by decide))) (fun H locs adX2 hag w => ?_)
  replace w := w.swap
  replace hl := lq_ag (hag _ (z_ok_lt gX1)) rfl (hag _ (z_ok_lt gO1)) hl
  refine lv_icmp_eq (tgt := 1722) hx hb dw_724 (by decide) (fun _ => ?_) (fun cn => absurd rfl cn)
  refine W.widen (k := cells + 8) (n := slots + 125) (by omega) (by omega) ?_
  exact kk _ _ _ _ _ _ _ hI1 w hl
set_option maxHeartbeats 4000000 in
set_option maxRecDepth 100000 in
theorem lc_forger (C : lq_C G p s m meth c b L xs) (hfl : l.stackTraces = false) {Inv : z_T → z_T → Prop} {oX oM oO : Nat} (hV : lq_V Inv oX oM oO) {adX adM : Nat → Nat} {hX hM : z_T} {H : Heap} {locs : List Loc} {ls : Array Slot} {cells slots i : Nat} (w : z_2 G s adX adM hX hM H locs) (hI : Inv hX hM) (hi : i + 6 ≤ L) (hcs : cells + 8 ≤ room_1.cells ∧ slots + 125 ≤ room_1.slots) (hl : lv_has ls 8 (lq_l adX adM oX oM oO b i))
    (hop : ∃ (r : Int32) (hM' : z_T), fX11_forger oX  hX = some r ∧ fX12_forger oM  hM = some (r, hM') ∧ Inv hX hM')
    (kk : ∀ (adX adM : Nat → Nat) (hX hM : z_T) (H : Heap) (locs : List Loc) (ls : Array Slot), Inv hX hM → z_2 G s adX adM hX hM H locs → lv_has ls 8 (lq_l adX adM oX oM oO b i) → W p l e room_1 s m #[.ref b] below meth c H locs (cells + 8) (slots + 125) Q (F0 m 1722 ls [])) : W p l e room_1 s m #[.ref b] below meth c H locs cells slots Q (F0 m 729 ls []) := by
  obtain ⟨r, hM', e1, e2, hI1⟩ := hop
  obtain ⟨gX, gM, gO, -⟩ := hV _ _ hI
  obtain ⟨gX1, gM1, gO1, gI1⟩ := hV _ _ hI1
  have hx := C.1.1
  have hb := C.1.2.1
  refine lv_aload_n hx hb dw_729 rfl (lv_at hl 3 rfl) ?_
  refine z_2I (lq_cc C w.2.2.2.2.1) w (z_runV (lq_cc C w.2.2.2.2.1) w.B 10 (mm_X11_forger C.2.2.1 l adX oX  hX e1) md_X11_forger qmL_128 gX (by decide) rfl rfl rfl ⟨Nat.le_of_ble_eq_true rfl, Nat.le_of_ble_eq_true rfl⟩ rfl hl.1 rfl (Nat.le_of_ble_eq_true rfl) dw_730 (lq_rm hcs (by decide) (by decide))) (fun H locs adM2 hag w => ?_)
  replace hl := lq_ag rfl (hag _ (z_ok_lt gM)) rfl hl
  refine lv_aload_n hx hb dw_733 rfl (lv_at hl 2 rfl) ?_
  refine z_2I (lq_cc C w.swap.2.2.2.2.1) w.swap (z_runV (lq_cc C w.swap.2.2.2.2.1) w.swap.B 11 (mm_X12_forger C.2.2.1 l adM2 oM  hM e2) md_X12_forger qmL_131 gM (by decide) rfl rfl rfl ⟨Nat.le_of_ble_eq_true rfl, Nat.le_of_ble_eq_true rfl⟩ rfl hl.1 rfl (Nat.le_of_ble_eq_true rfl) dw_734 (lq_rm2 hcs (by decide) (by decide))) (fun H locs adX2 hag w => ?_)
  replace w := w.swap
  replace hl := lq_ag (hag _ (z_ok_lt gX1)) rfl (hag _ (z_ok_lt gO1)) hl
  refine lv_icmp_eq (tgt := 1722) hx hb dw_737 (by decide) (fun _ => ?_) (fun cn => absurd rfl cn)
  refine W.widen (k := cells + 8) (n := slots + 125) (by omega) (by omega) ?_
  exact kk _ _ _ _ _ _ _ hI1 w hl
set_option maxHeartbeats 4000000 in
set_option maxRecDepth 100000 in
theorem lc_error (C : lq_C G p s m meth c b L xs) (hfl : l.stackTraces = false) {Inv : z_T → z_T → Prop} {oX oM oO : Nat} (hV : lq_V Inv oX oM oO) {adX adM : Nat → Nat} {hX hM : z_T} {H : Heap} {locs : List Loc} {ls : Array Slot} {cells slots i : Nat} (w : z_2 G s adX adM hX hM H locs) (hI : Inv hX hM) (hi : i + 6 ≤ L) (hcs : cells + 8 ≤ room_1.cells ∧ slots + 125 ≤ room_1.slots) (hl : lv_has ls 8 (lq_l adX adM oX oM oO b i))
    (hop : ∃ (k : Int32) (v : Int64) (hX' hM' : z_T), fL_error oX (xs (i + 1)) (xs (i + 2)) oO hX = some (k, hX') ∧ fX12_error oM (xs (i + 1)) (xs (i + 2)) hM = some (v, hM') ∧ fX12_thrown oM hM' = some k ∧ (k = 0 → z_L hX' oO 0 = v) ∧ Inv hX' hM')
    (kk : ∀ (adX adM : Nat → Nat) (hX hM : z_T) (H : Heap) (locs : List Loc) (ls : Array Slot), Inv hX hM → z_2 G s adX adM hX hM H locs → lv_has ls 8 (lq_l adX adM oX oM oO b i) → W p l e room_1 s m #[.ref b] below meth c H locs (cells + 8) (slots + 125) Q (F0 m 1722 ls [])) : W p l e room_1 s m #[.ref b] below meth c H locs cells slots Q (F0 m 742 ls []) := by
  obtain ⟨k, v, hX', hM', e1, e2, e3, e4, hI1⟩ := hop
  obtain ⟨gX, gM, gO, -⟩ := hV _ _ hI
  obtain ⟨gX1, gM1, gO1, gI1⟩ := hV _ _ hI1
  have hx := C.1.1
  have hb := C.1.2.1
  refine lv_aload_n hx hb dw_742 rfl (lv_at hl 3 rfl) ?_
  refine lq_rd C w.2.2.1 (lv_at hl 4 rfl) (lv_at hl 0 rfl) (k := 1) (by omega) (by decide) dw_743 dw_744 dw_746 dw_747 dw_748 ?_
  refine lq_rd C w.2.2.1 (lv_at hl 4 rfl) (lv_at hl 0 rfl) (k := 2) (by omega) (by decide) dw_749 dw_750 dw_752 dw_753 dw_754 ?_
  refine lv_aload_n hx hb dw_755 rfl (lv_at hl 1 rfl) ?_
  refine z_2W (lq_cc C w.2.2.2.2.1) w (z_runW (n := 4) (lq_cc C w.2.2.2.2.1) w.B (mm_L_error C.2.2.1 l hfl adX oX (xs (i + 1)) (xs (i + 2)) oO hX e1) qcw_error qst_error qini_RL qmL_132 ⟨by decide +kernel, by decide +kernel, by decide +kernel⟩ rfl rfl ⟨Nat.le_of_ble_eq_true rfl, Nat.le_of_ble_eq_true rfl⟩ rfl hl.1 rfl (Nat.le_of_ble_eq_true rfl) dw_756 (lq_rm hcs (by decide) (by decide))) (fun H locs adX2 adM2 hag1 hag2 w => ?_)
  replace hl := lq_ag (hag1 _ (z_ok_lt gX1)) (hag2 _ (z_ok_lt gM)) (hag1 _ (z_ok_lt gO1)) hl
  refine lv_istore (lv' := (5, .int k) :: lq_l adX2 adM2 oX oM oO b i) hx hb dw_759 hl (by decide) rfl (fun ls hl => ?_)
  refine lv_aload_n hx hb dw_761 rfl (lv_at hl 3 rfl) ?_
  refine lq_rd C w.2.2.1 (lv_at hl 5 rfl) (lv_at hl 1 rfl) (k := 1) (by omega) (by decide) dw_762 dw_763 dw_765 dw_766 dw_767 ?_
  refine lq_rd C w.2.2.1 (lv_at hl 5 rfl) (lv_at hl 1 rfl) (k := 2) (by omega) (by decide) dw_768 dw_769 dw_771 dw_772 dw_773 ?_
  refine z_2L (lq_cc C w.swap.2.2.2.2.1) w.swap (z_runV (lq_cc C w.swap.2.2.2.2.1) w.swap.B 11 (mm_X12_error C.2.2.1 l adM2 oM (xs (i + 1)) (xs (i + 2)) hM e2) md_X12_error qmL_134 gM (by decide) rfl rfl rfl ⟨Nat.le_of_ble_eq_true rfl, Nat.le_of_ble_eq_true rfl⟩ rfl hl.1 rfl (Nat.le_of_ble_eq_true rfl) dw_774 (lq_rm2 hcs (by decide) (by decide))) (fun H locs adX3 hag w => ?_)
  replace w := w.swap
  replace hl := lq_ag5 (hag _ (z_ok_lt gX1)) rfl (hag _ (z_ok_lt gO1)) hl
  refine lv_lstore (lv' := (6, .long v) :: (5, .int k) :: lq_l adX3 adM2 oX oM oO b i) hx hb dw_777 hl (by decide) rfl (fun ls hl => ?_)
  refine lv_aload_n hx hb dw_779 rfl (lv_at hl 4 rfl) ?_
  refine z_2I (lq_cc C w.swap.2.2.2.2.1) w.swap (z_runV (lq_cc C w.swap.2.2.2.2.1) w.swap.B 11 (mm_X12_thrown C.2.2.1 l adM2 oM hM' e3) md_X12_thrown qmL_105 gM1 (by decide) rfl rfl rfl ⟨Nat.le_of_ble_eq_true rfl, Nat.le_of_ble_eq_true rfl⟩ rfl hl.1 rfl (Nat.le_of_ble_eq_true rfl) dw_780 (lq_rm3 hcs (by decide) (by decide))) (fun H locs adX4 hag w => ?_)
  replace w := w.swap
  replace hl := lq_ag6 (hag _ (z_ok_lt gX1)) rfl (hag _ (z_ok_lt gO1)) hl
  refine lv_iload hx hb dw_783 (lv_at hl 1 rfl) ?_
  refine lv_icmp_eq (tgt := 790) hx hb dw_785 (by decide) (fun _ => ?_) (fun cn => absurd rfl cn)
  refine lv_iload hx hb dw_790 (lv_at hl 1 rfl) ?_
  have hl2 : lv_has ls 8 (lq_l adX4 adM2 oX oM oO b i) := lv_sub hl [2, 3, 4, 5, 6] rfl
  have fin : W p l e room_1 s m #[.ref b] below meth c H locs (cells + 1 + 0 + 0) (slots + 6 + 0 + 0) Q (F0 m 806 ls []) := lv_goto (tgt := 1722) hx hb dw_806 (by decide) (W.widen (k := cells + 8) (n := slots + 125) (by omega) (by omega) (kk _ _ _ _ _ _ _ hI1 w hl2))
  refine lv_if_ne (tgt := 806) hx hb dw_792 (by decide) (fun _ => fin) (fun ck => ?_)
  refine lv_aload_n hx hb dw_795 rfl (lv_at hl 3 rfl) ?_
  refine lv_iconst (v := (0 : Int32)) hx hb dw_796 (by decide) ?_
  refine z_lald (lq_cc C w.2.2.2.2.1) w.B gO1 gI1 dw_797 ?_
  rw [show z_L hX' oO ((0 : Int32)).toNatClampNeg = v from e4 ck]
  refine lv_lload hx hb dw_798 (lv_at hl 0 rfl) ?_
  refine W.lcmp hx hb dw_800 ?_
  refine lv_if_eq (tgt := 806) hx hb dw_801 (by decide) (fun _ => fin) (fun cn => absurd (lq_cmp v) cn)
set_option maxHeartbeats 4000000 in
set_option maxRecDepth 100000 in
theorem lc_pair (C : lq_C G p s m meth c b L xs) (hfl : l.stackTraces = false) {Inv : z_T → z_T → Prop} {oX oM oO : Nat} (hV : lq_V Inv oX oM oO) {adX adM : Nat → Nat} {hX hM : z_T} {H : Heap} {locs : List Loc} {ls : Array Slot} {cells slots i : Nat} (w : z_2 G s adX adM hX hM H locs) (hI : Inv hX hM) (hi : i + 6 ≤ L) (hcs : cells + 8 ≤ room_1.cells ∧ slots + 125 ≤ room_1.slots) (hl : lv_has ls 8 (lq_l adX adM oX oM oO b i))
    (hop : ∃ (r : Int32) (hM' : z_T), fX11_pair oX  hX = some r ∧ fX12_pair oM  hM = some (r, hM') ∧ Inv hX hM')
    (kk : ∀ (adX adM : Nat → Nat) (hX hM : z_T) (H : Heap) (locs : List Loc) (ls : Array Slot), Inv hX hM → z_2 G s adX adM hX hM H locs → lv_has ls 8 (lq_l adX adM oX oM oO b i) → W p l e room_1 s m #[.ref b] below meth c H locs (cells + 8) (slots + 125) Q (F0 m 1722 ls [])) : W p l e room_1 s m #[.ref b] below meth c H locs cells slots Q (F0 m 809 ls []) := by
  obtain ⟨r, hM', e1, e2, hI1⟩ := hop
  obtain ⟨gX, gM, gO, -⟩ := hV _ _ hI
  obtain ⟨gX1, gM1, gO1, gI1⟩ := hV _ _ hI1
  have hx := C.1.1
  have hb := C.1.2.1
  refine lv_aload_n hx hb dw_809 rfl (lv_at hl 3 rfl) ?_
  refine z_2I (lq_cc C w.2.2.2.2.1) w (z_runV (lq_cc C w.2.2.2.2.1) w.B 10 (mm_X11_pair C.2.2.1 l adX oX  hX e1) md_X11_pair qmL_135 gX (by decide) rfl rfl rfl ⟨Nat.le_of_ble_eq_true rfl, Nat.le_of_ble_eq_true rfl⟩ rfl hl.1 rfl (Nat.le_of_ble_eq_true rfl) dw_810 (lq_rm hcs (by decide) (by decide))) (fun H locs adM2 hag w => ?_)
  replace hl := lq_ag rfl (hag _ (z_ok_lt gM)) rfl hl
  refine lv_aload_n hx hb dw_813 rfl (lv_at hl 2 rfl) ?_
  refine z_2I (lq_cc C w.swap.2.2.2.2.1) w.swap (z_runV (lq_cc C w.swap.2.2.2.2.1) w.swap.B 11 (mm_X12_pair C.2.2.1 l adM2 oM  hM e2) md_X12_pair qmL_138 gM (by decide) rfl rfl rfl ⟨Nat.le_of_ble_eq_true rfl, Nat.le_of_ble_eq_true rfl⟩ rfl hl.1 rfl (Nat.le_of_ble_eq_true rfl) dw_814 (lq_rm2 hcs (by decide) (by decide))) (fun H locs adX2 hag w => ?_)
  replace w := w.swap
  replace hl := lq_ag (hag _ (z_ok_lt gX1)) rfl (hag _ (z_ok_lt gO1)) hl
  refine lv_icmp_eq (tgt := 1722) hx hb dw_817 (by decide) (fun _ => ?_) (fun cn => absurd rfl cn)
  refine W.widen (k := cells + 8) (n := slots + 125) (by omega) (by omega) ?_
  exact kk _ _ _ _ _ _ _ hI1 w hl
set_option maxHeartbeats 4000000 in
set_option maxRecDepth 100000 in
theorem lc_cost (C : lq_C G p s m meth c b L xs) (hfl : l.stackTraces = false) {Inv : z_T → z_T → Prop} {oX oM oO : Nat} (hV : lq_V Inv oX oM oO) {adX adM : Nat → Nat} {hX hM : z_T} {H : Heap} {locs : List Loc} {ls : Array Slot} {cells slots i : Nat} (w : z_2 G s adX adM hX hM H locs) (hI : Inv hX hM) (hi : i + 6 ≤ L) (hcs : cells + 8 ≤ room_1.cells ∧ slots + 125 ≤ room_1.slots) (hl : lv_has ls 8 (lq_l adX adM oX oM oO b i))
    (hop : ∃ (k : Int32) (v : Int64) (hX' hM' : z_T), fL_cost oX (xs (i + 1)) (xs (i + 2)) oO hX = some (k, hX') ∧ fX12_cost oM (xs (i + 1)) (xs (i + 2)) hM = some (v, hM') ∧ fX12_thrown oM hM' = some k ∧ (k = 0 → z_L hX' oO 0 = v) ∧ Inv hX' hM')
    (kk : ∀ (adX adM : Nat → Nat) (hX hM : z_T) (H : Heap) (locs : List Loc) (ls : Array Slot), Inv hX hM → z_2 G s adX adM hX hM H locs → lv_has ls 8 (lq_l adX adM oX oM oO b i) → W p l e room_1 s m #[.ref b] below meth c H locs (cells + 8) (slots + 125) Q (F0 m 1722 ls [])) : W p l e room_1 s m #[.ref b] below meth c H locs cells slots Q (F0 m 822 ls []) := by
  obtain ⟨k, v, hX', hM', e1, e2, e3, e4, hI1⟩ := hop
  obtain ⟨gX, gM, gO, -⟩ := hV _ _ hI
  obtain ⟨gX1, gM1, gO1, gI1⟩ := hV _ _ hI1
  have hx := C.1.1
  have hb := C.1.2.1
  refine lv_aload_n hx hb dw_822 rfl (lv_at hl 3 rfl) ?_
  refine lq_rd C w.2.2.1 (lv_at hl 4 rfl) (lv_at hl 0 rfl) (k := 1) (by omega) (by decide) dw_823 dw_824 dw_826 dw_827 dw_828 ?_
  refine lq_rd C w.2.2.1 (lv_at hl 4 rfl) (lv_at hl 0 rfl) (k := 2) (by omega) (by decide) dw_829 dw_830 dw_832 dw_833 dw_834 ?_
  refine lv_aload_n hx hb dw_835 rfl (lv_at hl 1 rfl) ?_
  refine z_2W (lq_cc C w.2.2.2.2.1) w (z_runW (n := 4) (lq_cc C w.2.2.2.2.1) w.B (mm_L_cost C.2.2.1 l hfl adX oX (xs (i + 1)) (xs (i + 2)) oO hX e1) qcw_cost qst_cost qini_RL qmL_139 ⟨by decide +kernel, by decide +kernel, by decide +kernel⟩ rfl rfl ⟨Nat.le_of_ble_eq_true rfl, Nat.le_of_ble_eq_true rfl⟩ rfl hl.1 rfl (Nat.le_of_ble_eq_true rfl) dw_836 (lq_rm hcs (by decide) (by decide))) (fun H locs adX2 adM2 hag1 hag2 w => ?_)
  replace hl := lq_ag (hag1 _ (z_ok_lt gX1)) (hag2 _ (z_ok_lt gM)) (hag1 _ (z_ok_lt gO1)) hl
  refine lv_istore (lv' := (5, .int k) :: lq_l adX2 adM2 oX oM oO b i) hx hb dw_839 hl (by decide) rfl (fun ls hl => ?_)
  refine lv_aload_n hx hb dw_841 rfl (lv_at hl 3 rfl) ?_
  refine lq_rd C w.2.2.1 (lv_at hl 5 rfl) (lv_at hl 1 rfl) (k := 1) (by omega) (by decide) dw_842 dw_843 dw_845 dw_846 dw_847 ?_
  refine lq_rd C w.2.2.1 (lv_at hl 5 rfl) (lv_at hl 1 rfl) (k := 2) (by omega) (by decide) dw_848 dw_849 dw_851 dw_852 dw_853 ?_
  refine z_2L (lq_cc C w.swap.2.2.2.2.1) w.swap (z_runV (lq_cc C w.swap.2.2.2.2.1) w.swap.B 11 (mm_X12_cost C.2.2.1 l adM2 oM (xs (i + 1)) (xs (i + 2)) hM e2) md_X12_cost qmL_141 gM (by decide) rfl rfl rfl ⟨Nat.le_of_ble_eq_true rfl, Nat.le_of_ble_eq_true rfl⟩ rfl hl.1 rfl (Nat.le_of_ble_eq_true rfl) dw_854 (lq_rm2 hcs (by decide) (by decide))) (fun H locs adX3 hag w => ?_)
  replace w := w.swap
  replace hl := lq_ag5 (hag _ (z_ok_lt gX1)) rfl (hag _ (z_ok_lt gO1)) hl
  refine lv_lstore (lv' := (6, .long v) :: (5, .int k) :: lq_l adX3 adM2 oX oM oO b i) hx hb dw_857 hl (by decide) rfl (fun ls hl => ?_)
  refine lv_aload_n hx hb dw_859 rfl (lv_at hl 4 rfl) ?_
  refine z_2I (lq_cc C w.swap.2.2.2.2.1) w.swap (z_runV (lq_cc C w.swap.2.2.2.2.1) w.swap.B 11 (mm_X12_thrown C.2.2.1 l adM2 oM hM' e3) md_X12_thrown qmL_105 gM1 (by decide) rfl rfl rfl ⟨Nat.le_of_ble_eq_true rfl, Nat.le_of_ble_eq_true rfl⟩ rfl hl.1 rfl (Nat.le_of_ble_eq_true rfl) dw_860 (lq_rm3 hcs (by decide) (by decide))) (fun H locs adX4 hag w => ?_)
  replace w := w.swap
  replace hl := lq_ag6 (hag _ (z_ok_lt gX1)) rfl (hag _ (z_ok_lt gO1)) hl
  refine lv_iload hx hb dw_863 (lv_at hl 1 rfl) ?_
  refine lv_icmp_eq (tgt := 870) hx hb dw_865 (by decide) (fun _ => ?_) (fun cn => absurd rfl cn)
  refine lv_iload hx hb dw_870 (lv_at hl 1 rfl) ?_
  have hl2 : lv_has ls 8 (lq_l adX4 adM2 oX oM oO b i) := lv_sub hl [2, 3, 4, 5, 6] rfl
  have fin : W p l e room_1 s m #[.ref b] below meth c H locs (cells + 1 + 0 + 0) (slots + 6 + 0 + 0) Q (F0 m 886 ls []) := lv_goto (tgt := 1722) hx hb dw_886 (by decide) (W.widen (k := cells + 8) (n := slots + 125) (by omega) (by omega) (kk _ _ _ _ _ _ _ hI1 w hl2))
  refine lv_if_ne (tgt := 886) hx hb dw_872 (by decide) (fun _ => fin) (fun ck => ?_)
  refine lv_aload_n hx hb dw_875 rfl (lv_at hl 3 rfl) ?_
  refine lv_iconst (v := (0 : Int32)) hx hb dw_876 (by decide) ?_
  refine z_lald (lq_cc C w.2.2.2.2.1) w.B gO1 gI1 dw_877 ?_
  rw [show z_L hX' oO ((0 : Int32)).toNatClampNeg = v from e4 ck]
  refine lv_lload hx hb dw_878 (lv_at hl 0 rfl) ?_
  refine W.lcmp hx hb dw_880 ?_
  refine lv_if_eq (tgt := 886) hx hb dw_881 (by decide) (fun _ => fin) (fun cn => absurd (lq_cmp v) cn)
set_option maxHeartbeats 4000000 in
set_option maxRecDepth 100000 in
theorem lc_first (C : lq_C G p s m meth c b L xs) (hfl : l.stackTraces = false) {Inv : z_T → z_T → Prop} {oX oM oO : Nat} (hV : lq_V Inv oX oM oO) {adX adM : Nat → Nat} {hX hM : z_T} {H : Heap} {locs : List Loc} {ls : Array Slot} {cells slots i : Nat} (w : z_2 G s adX adM hX hM H locs) (hI : Inv hX hM) (hi : i + 6 ≤ L) (hcs : cells + 8 ≤ room_1.cells ∧ slots + 125 ≤ room_1.slots) (hl : lv_has ls 8 (lq_l adX adM oX oM oO b i))
    (hop : ∃ (r : Int32) (hX' hM' : z_T), fX11_first oX (xs (i + 1)) hX = some (r, hX') ∧ fX12_first oM (xs (i + 1)) hM = some (r, hM') ∧ Inv hX' hM')
    (kk : ∀ (adX adM : Nat → Nat) (hX hM : z_T) (H : Heap) (locs : List Loc) (ls : Array Slot), Inv hX hM → z_2 G s adX adM hX hM H locs → lv_has ls 8 (lq_l adX adM oX oM oO b i) → W p l e room_1 s m #[.ref b] below meth c H locs (cells + 8) (slots + 125) Q (F0 m 1722 ls [])) : W p l e room_1 s m #[.ref b] below meth c H locs cells slots Q (F0 m 889 ls []) := by
  obtain ⟨r, hX', hM', e1, e2, hI1⟩ := hop
  obtain ⟨gX, gM, gO, -⟩ := hV _ _ hI
  obtain ⟨gX1, gM1, gO1, gI1⟩ := hV _ _ hI1
  have hx := C.1.1
  have hb := C.1.2.1
  refine lv_aload_n hx hb dw_889 rfl (lv_at hl 3 rfl) ?_
  refine lq_rd C w.2.2.1 (lv_at hl 4 rfl) (lv_at hl 0 rfl) (k := 1) (by omega) (by decide) dw_890 dw_891 dw_893 dw_894 dw_895 ?_
  refine z_2I (lq_cc C w.2.2.2.2.1) w (z_runV (lq_cc C w.2.2.2.2.1) w.B 10 (mm_X11_first C.2.2.1 l adX oX (xs (i + 1)) hX e1) md_X11_first qmL_142 gX (by decide) rfl rfl rfl ⟨Nat.le_of_ble_eq_true rfl, Nat.le_of_ble_eq_true rfl⟩ rfl hl.1 rfl (Nat.le_of_ble_eq_true rfl) dw_896 (lq_rm hcs (by decide) (by decide))) (fun H locs adM2 hag w => ?_)
  replace hl := lq_ag rfl (hag _ (z_ok_lt gM)) rfl hl
  refine lv_aload_n hx hb dw_899 rfl (lv_at hl 2 rfl) ?_
  refine lq_rd C w.2.2.1 (lv_at hl 4 rfl) (lv_at hl 0 rfl) (k := 1) (by omega) (by decide) dw_900 dw_901 dw_903 dw_904 dw_905 ?_
  refine z_2I (lq_cc C w.swap.2.2.2.2.1) w.swap (z_runV (lq_cc C w.swap.2.2.2.2.1) w.swap.B 11 (mm_X12_first C.2.2.1 l adM2 oM (xs (i + 1)) hM e2) md_X12_first qmL_145 gM (by decide) rfl rfl rfl ⟨Nat.le_of_ble_eq_true rfl, Nat.le_of_ble_eq_true rfl⟩ rfl hl.1 rfl (Nat.le_of_ble_eq_true rfl) dw_906 (lq_rm2 hcs (by decide) (by decide))) (fun H locs adX2 hag w => ?_)
  replace w := w.swap
  replace hl := lq_ag (hag _ (z_ok_lt gX1)) rfl (hag _ (z_ok_lt gO1)) hl
  refine lv_icmp_eq (tgt := 1722) hx hb dw_909 (by decide) (fun _ => ?_) (fun cn => absurd rfl cn)
  refine W.widen (k := cells + 8) (n := slots + 125) (by omega) (by omega) ?_
  exact kk _ _ _ _ _ _ _ hI1 w hl
set_option maxHeartbeats 4000000 in
set_option maxRecDepth 100000 in
theorem lc_write (C : lq_C G p s m meth c b L xs) (hfl : l.stackTraces = false) {Inv : z_T → z_T → Prop} {oX oM oO : Nat} (hV : lq_V Inv oX oM oO) {adX adM : Nat → Nat} {hX hM : z_T} {H : Heap} {locs : List Loc} {ls : Array Slot} {cells slots i : Nat} (w : z_2 G s adX adM hX hM H locs) (hI : Inv hX hM) (hi : i + 6 ≤ L) (hcs : cells + 8 ≤ room_1.cells ∧ slots + 125 ≤ room_1.slots) (hl : lv_has ls 8 (lq_l adX adM oX oM oO b i))
    (hop : ∃ (r : Int32) (hX' hM' : z_T), fX11_write oX (xs (i + 1)) hX = some (r, hX') ∧ fX12_write oM (xs (i + 1)) hM = some (r, hM') ∧ Inv hX' hM')
    (kk : ∀ (adX adM : Nat → Nat) (hX hM : z_T) (H : Heap) (locs : List Loc) (ls : Array Slot), Inv hX hM → z_2 G s adX adM hX hM H locs → lv_has ls 8 (lq_l adX adM oX oM oO b i) → W p l e room_1 s m #[.ref b] below meth c H locs (cells + 8) (slots + 125) Q (F0 m 1722 ls [])) : W p l e room_1 s m #[.ref b] below meth c H locs cells slots Q (F0 m 914 ls []) := by
  obtain ⟨r, hX', hM', e1, e2, hI1⟩ := hop
  obtain ⟨gX, gM, gO, -⟩ := hV _ _ hI
  obtain ⟨gX1, gM1, gO1, gI1⟩ := hV _ _ hI1
  have hx := C.1.1
  have hb := C.1.2.1
  refine lv_aload_n hx hb dw_914 rfl (lv_at hl 3 rfl) ?_
  refine lq_rd C w.2.2.1 (lv_at hl 4 rfl) (lv_at hl 0 rfl) (k := 1) (by omega) (by decide) dw_915 dw_916 dw_918 dw_919 dw_920 ?_
  refine z_2I (lq_cc C w.2.2.2.2.1) w (z_runV (lq_cc C w.2.2.2.2.1) w.B 10 (mm_X11_write C.2.2.1 l adX oX (xs (i + 1)) hX e1) md_X11_write qmL_146 gX (by decide) rfl rfl rfl ⟨Nat.le_of_ble_eq_true rfl, Nat.le_of_ble_eq_true rfl⟩ rfl hl.1 rfl (Nat.le_of_ble_eq_true rfl) dw_921 (lq_rm hcs (by decide) (by decide))) (fun H locs adM2 hag w => ?_)
  replace hl := lq_ag rfl (hag _ (z_ok_lt gM)) rfl hl
  refine lv_aload_n hx hb dw_924 rfl (lv_at hl 2 rfl) ?_
  refine lq_rd C w.2.2.1 (lv_at hl 4 rfl) (lv_at hl 0 rfl) (k := 1) (by omega) (by decide) dw_925 dw_926 dw_928 dw_929 dw_930 ?_
  refine z_2I (lq_cc C w.swap.2.2.2.2.1) w.swap (z_runV (lq_cc C w.swap.2.2.2.2.1) w.swap.B 11 (mm_X12_write C.2.2.1 l adM2 oM (xs (i + 1)) hM e2) md_X12_write qmL_149 gM (by decide) rfl rfl rfl ⟨Nat.le_of_ble_eq_true rfl, Nat.le_of_ble_eq_true rfl⟩ rfl hl.1 rfl (Nat.le_of_ble_eq_true rfl) dw_931 (lq_rm2 hcs (by decide) (by decide))) (fun H locs adX2 hag w => ?_)
  replace w := w.swap
  replace hl := lq_ag (hag _ (z_ok_lt gX1)) rfl (hag _ (z_ok_lt gO1)) hl
  refine lv_icmp_eq (tgt := 1722) hx hb dw_934 (by decide) (fun _ => ?_) (fun cn => absurd rfl cn)
  refine W.widen (k := cells + 8) (n := slots + 125) (by omega) (by omega) ?_
  exact kk _ _ _ _ _ _ _ hI1 w hl
set_option maxHeartbeats 4000000 in
set_option maxRecDepth 100000 in
theorem lc_byteAt (C : lq_C G p s m meth c b L xs) (hfl : l.stackTraces = false) {Inv : z_T → z_T → Prop} {oX oM oO : Nat} (hV : lq_V Inv oX oM oO) {adX adM : Nat → Nat} {hX hM : z_T} {H : Heap} {locs : List Loc} {ls : Array Slot} {cells slots i : Nat} (w : z_2 G s adX adM hX hM H locs) (hI : Inv hX hM) (hi : i + 6 ≤ L) (hcs : cells + 8 ≤ room_1.cells ∧ slots + 125 ≤ room_1.slots) (hl : lv_has ls 8 (lq_l adX adM oX oM oO b i))
    (hop : ∃ (r : Int32) (hM' : z_T), fX11_byteAt oX (xs (i + 1)) hX = some r ∧ fX12_byteAt oM (xs (i + 1)) hM = some (r, hM') ∧ Inv hX hM')
    (kk : ∀ (adX adM : Nat → Nat) (hX hM : z_T) (H : Heap) (locs : List Loc) (ls : Array Slot), Inv hX hM → z_2 G s adX adM hX hM H locs → lv_has ls 8 (lq_l adX adM oX oM oO b i) → W p l e room_1 s m #[.ref b] below meth c H locs (cells + 8) (slots + 125) Q (F0 m 1722 ls [])) : W p l e room_1 s m #[.ref b] below meth c H locs cells slots Q (F0 m 939 ls []) := by
  obtain ⟨r, hM', e1, e2, hI1⟩ := hop
  obtain ⟨gX, gM, gO, -⟩ := hV _ _ hI
  obtain ⟨gX1, gM1, gO1, gI1⟩ := hV _ _ hI1
  have hx := C.1.1
  have hb := C.1.2.1
  refine lv_aload_n hx hb dw_939 rfl (lv_at hl 3 rfl) ?_
  refine lq_rd C w.2.2.1 (lv_at hl 4 rfl) (lv_at hl 0 rfl) (k := 1) (by omega) (by decide) dw_940 dw_941 dw_943 dw_944 dw_945 ?_
  refine z_2I (lq_cc C w.2.2.2.2.1) w (z_runV (lq_cc C w.2.2.2.2.1) w.B 10 (mm_X11_byteAt C.2.2.1 l adX oX (xs (i + 1)) hX e1) md_X11_byteAt qmL_150 gX (by decide) rfl rfl rfl ⟨Nat.le_of_ble_eq_true rfl, Nat.le_of_ble_eq_true rfl⟩ rfl hl.1 rfl (Nat.le_of_ble_eq_true rfl) dw_946 (lq_rm hcs (by decide) (by decide))) (fun H locs adM2 hag w => ?_)
  replace hl := lq_ag rfl (hag _ (z_ok_lt gM)) rfl hl
  refine lv_aload_n hx hb dw_949 rfl (lv_at hl 2 rfl) ?_
  refine lq_rd C w.2.2.1 (lv_at hl 4 rfl) (lv_at hl 0 rfl) (k := 1) (by omega) (by decide) dw_950 dw_951 dw_953 dw_954 dw_955 ?_
  refine z_2I (lq_cc C w.swap.2.2.2.2.1) w.swap (z_runV (lq_cc C w.swap.2.2.2.2.1) w.swap.B 11 (mm_X12_byteAt C.2.2.1 l adM2 oM (xs (i + 1)) hM e2) md_X12_byteAt qmL_153 gM (by decide) rfl rfl rfl ⟨Nat.le_of_ble_eq_true rfl, Nat.le_of_ble_eq_true rfl⟩ rfl hl.1 rfl (Nat.le_of_ble_eq_true rfl) dw_956 (lq_rm2 hcs (by decide) (by decide))) (fun H locs adX2 hag w => ?_)
  replace w := w.swap
  replace hl := lq_ag (hag _ (z_ok_lt gX1)) rfl (hag _ (z_ok_lt gO1)) hl
  refine lv_icmp_eq (tgt := 1722) hx hb dw_959 (by decide) (fun _ => ?_) (fun cn => absurd rfl cn)
  refine W.widen (k := cells + 8) (n := slots + 125) (by omega) (by omega) ?_
  exact kk _ _ _ _ _ _ _ hI1 w hl
set_option maxHeartbeats 4000000 in
set_option maxRecDepth 100000 in
theorem lc_tree (C : lq_C G p s m meth c b L xs) (hfl : l.stackTraces = false) {Inv : z_T → z_T → Prop} {oX oM oO : Nat} (hV : lq_V Inv oX oM oO) {adX adM : Nat → Nat} {hX hM : z_T} {H : Heap} {locs : List Loc} {ls : Array Slot} {cells slots i : Nat} (w : z_2 G s adX adM hX hM H locs) (hI : Inv hX hM) (hi : i + 6 ≤ L) (hcs : cells + 8 ≤ room_1.cells ∧ slots + 125 ≤ room_1.slots) (hl : lv_has ls 8 (lq_l adX adM oX oM oO b i))
    (hop : ∃ (r : Int32) (hX' hM' : z_T), fX11_tree oX  hX = some (r, hX') ∧ fX12_tree oM  hM = some (r, hM') ∧ Inv hX' hM')
    (kk : ∀ (adX adM : Nat → Nat) (hX hM : z_T) (H : Heap) (locs : List Loc) (ls : Array Slot), Inv hX hM → z_2 G s adX adM hX hM H locs → lv_has ls 8 (lq_l adX adM oX oM oO b i) → W p l e room_1 s m #[.ref b] below meth c H locs (cells + 8) (slots + 125) Q (F0 m 1722 ls [])) : W p l e room_1 s m #[.ref b] below meth c H locs cells slots Q (F0 m 964 ls []) := by
  obtain ⟨r, hX', hM', e1, e2, hI1⟩ := hop
  obtain ⟨gX, gM, gO, -⟩ := hV _ _ hI
  obtain ⟨gX1, gM1, gO1, gI1⟩ := hV _ _ hI1
  have hx := C.1.1
  have hb := C.1.2.1
  refine lv_aload_n hx hb dw_964 rfl (lv_at hl 3 rfl) ?_
  refine z_2I (lq_cc C w.2.2.2.2.1) w (z_runV (lq_cc C w.2.2.2.2.1) w.B 10 (mm_X11_tree C.2.2.1 l adX oX  hX e1) md_X11_tree qmL_154 gX (by decide) rfl rfl rfl ⟨Nat.le_of_ble_eq_true rfl, Nat.le_of_ble_eq_true rfl⟩ rfl hl.1 rfl (Nat.le_of_ble_eq_true rfl) dw_965 (lq_rm hcs (by decide) (by decide))) (fun H locs adM2 hag w => ?_)
  replace hl := lq_ag rfl (hag _ (z_ok_lt gM)) rfl hl
  refine lv_aload_n hx hb dw_968 rfl (lv_at hl 2 rfl) ?_
  refine z_2I (lq_cc C w.swap.2.2.2.2.1) w.swap (z_runV (lq_cc C w.swap.2.2.2.2.1) w.swap.B 11 (mm_X12_tree C.2.2.1 l adM2 oM  hM e2) md_X12_tree qmL_157 gM (by decide) rfl rfl rfl ⟨Nat.le_of_ble_eq_true rfl, Nat.le_of_ble_eq_true rfl⟩ rfl hl.1 rfl (Nat.le_of_ble_eq_true rfl) dw_969 (lq_rm2 hcs (by decide) (by decide))) (fun H locs adX2 hag w => ?_)
  replace w := w.swap
  replace hl := lq_ag (hag _ (z_ok_lt gX1)) rfl (hag _ (z_ok_lt gO1)) hl
  refine lv_icmp_eq (tgt := 1722) hx hb dw_972 (by decide) (fun _ => ?_) (fun cn => absurd rfl cn)
  refine W.widen (k := cells + 8) (n := slots + 125) (by omega) (by omega) ?_
  exact kk _ _ _ _ _ _ _ hI1 w hl
set_option maxHeartbeats 4000000 in
set_option maxRecDepth 100000 in
theorem lc_worth (C : lq_C G p s m meth c b L xs) (hfl : l.stackTraces = false) {Inv : z_T → z_T → Prop} {oX oM oO : Nat} (hV : lq_V Inv oX oM oO) {adX adM : Nat → Nat} {hX hM : z_T} {H : Heap} {locs : List Loc} {ls : Array Slot} {cells slots i : Nat} (w : z_2 G s adX adM hX hM H locs) (hI : Inv hX hM) (hi : i + 6 ≤ L) (hcs : cells + 8 ≤ room_1.cells ∧ slots + 125 ≤ room_1.slots) (hl : lv_has ls 8 (lq_l adX adM oX oM oO b i))
    (hop : ∃ (k : Int32) (v : Int64) (hX' hM' : z_T), fL_worth oX (xs (i + 1)) oO hX = some (k, hX') ∧ fX12_worth oM (xs (i + 1)) hM = some (v, hM') ∧ fX12_thrown oM hM' = some k ∧ (k = 0 → z_L hX' oO 0 = v) ∧ Inv hX' hM')
    (kk : ∀ (adX adM : Nat → Nat) (hX hM : z_T) (H : Heap) (locs : List Loc) (ls : Array Slot), Inv hX hM → z_2 G s adX adM hX hM H locs → lv_has ls 8 (lq_l adX adM oX oM oO b i) → W p l e room_1 s m #[.ref b] below meth c H locs (cells + 8) (slots + 125) Q (F0 m 1722 ls [])) : W p l e room_1 s m #[.ref b] below meth c H locs cells slots Q (F0 m 977 ls []) := by
  obtain ⟨k, v, hX', hM', e1, e2, e3, e4, hI1⟩ := hop
  obtain ⟨gX, gM, gO, -⟩ := hV _ _ hI
  obtain ⟨gX1, gM1, gO1, gI1⟩ := hV _ _ hI1
  have hx := C.1.1
  have hb := C.1.2.1
  refine lv_aload_n hx hb dw_977 rfl (lv_at hl 3 rfl) ?_
  refine lq_rd C w.2.2.1 (lv_at hl 4 rfl) (lv_at hl 0 rfl) (k := 1) (by omega) (by decide) dw_978 dw_979 dw_981 dw_982 dw_983 ?_
  refine lv_aload_n hx hb dw_984 rfl (lv_at hl 1 rfl) ?_
  refine z_2W (lq_cc C w.2.2.2.2.1) w (z_runW (n := 3) (lq_cc C w.2.2.2.2.1) w.B (mm_L_worth C.2.2.1 l hfl adX oX (xs (i + 1)) oO hX e1) qcw_worth qst_worth qini_RL qmL_158 ⟨by decide +kernel, by decide +kernel, by decide +kernel⟩ rfl rfl ⟨Nat.le_of_ble_eq_true rfl, Nat.le_of_ble_eq_true rfl⟩ rfl hl.1 rfl (Nat.le_of_ble_eq_true rfl) dw_985 (lq_rm hcs (by decide) (by decide))) (fun H locs adX2 adM2 hag1 hag2 w => ?_)
  replace hl := lq_ag (hag1 _ (z_ok_lt gX1)) (hag2 _ (z_ok_lt gM)) (hag1 _ (z_ok_lt gO1)) hl
  refine lv_istore (lv' := (5, .int k) :: lq_l adX2 adM2 oX oM oO b i) hx hb dw_988 hl (by decide) rfl (fun ls hl => ?_)
  refine lv_aload_n hx hb dw_990 rfl (lv_at hl 3 rfl) ?_
  refine lq_rd C w.2.2.1 (lv_at hl 5 rfl) (lv_at hl 1 rfl) (k := 1) (by omega) (by decide) dw_991 dw_992 dw_994 dw_995 dw_996 ?_
  refine z_2L (lq_cc C w.swap.2.2.2.2.1) w.swap (z_runV (lq_cc C w.swap.2.2.2.2.1) w.swap.B 11 (mm_X12_worth C.2.2.1 l adM2 oM (xs (i + 1)) hM e2) md_X12_worth qmL_160 gM (by decide) rfl rfl rfl ⟨Nat.le_of_ble_eq_true rfl, Nat.le_of_ble_eq_true rfl⟩ rfl hl.1 rfl (Nat.le_of_ble_eq_true rfl) dw_997 (lq_rm2 hcs (by decide) (by decide))) (fun H locs adX3 hag w => ?_)
  replace w := w.swap
  replace hl := lq_ag5 (hag _ (z_ok_lt gX1)) rfl (hag _ (z_ok_lt gO1)) hl
  refine lv_lstore (lv' := (6, .long v) :: (5, .int k) :: lq_l adX3 adM2 oX oM oO b i) hx hb dw_1000 hl (by decide) rfl (fun ls hl => ?_)
  refine lv_aload_n hx hb dw_1002 rfl (lv_at hl 4 rfl) ?_
  refine z_2I (lq_cc C w.swap.2.2.2.2.1) w.swap (z_runV (lq_cc C w.swap.2.2.2.2.1) w.swap.B 11 (mm_X12_thrown C.2.2.1 l adM2 oM hM' e3) md_X12_thrown qmL_105 gM1 (by decide) rfl rfl rfl ⟨Nat.le_of_ble_eq_true rfl, Nat.le_of_ble_eq_true rfl⟩ rfl hl.1 rfl (Nat.le_of_ble_eq_true rfl) dw_1003 (lq_rm3 hcs (by decide) (by decide))) (fun H locs adX4 hag w => ?_)
  replace w := w.swap
  replace hl := lq_ag6 (hag _ (z_ok_lt gX1)) rfl (hag _ (z_ok_lt gO1)) hl
  refine lv_iload hx hb dw_1006 (lv_at hl 1 rfl) ?_
  refine lv_icmp_eq (tgt := 1013) hx hb dw_1008 (by decide) (fun _ => ?_) (fun cn => absurd rfl cn)
  refine lv_iload hx hb dw_1013 (lv_at hl 1 rfl) ?_
  have hl2 : lv_has ls 8 (lq_l adX4 adM2 oX oM oO b i) := lv_sub hl [2, 3, 4, 5, 6] rfl
  have fin : W p l e room_1 s m #[.ref b] below meth c H locs (cells + 1 + 0 + 0) (slots + 6 + 0 + 0) Q (F0 m 1029 ls []) := lv_goto (tgt := 1722) hx hb dw_1029 (by decide) (W.widen (k := cells + 8) (n := slots + 125) (by omega) (by omega) (kk _ _ _ _ _ _ _ hI1 w hl2))
  refine lv_if_ne (tgt := 1029) hx hb dw_1015 (by decide) (fun _ => fin) (fun ck => ?_)
  refine lv_aload_n hx hb dw_1018 rfl (lv_at hl 3 rfl) ?_
  refine lv_iconst (v := (0 : Int32)) hx hb dw_1019 (by decide) ?_
  refine z_lald (lq_cc C w.2.2.2.2.1) w.B gO1 gI1 dw_1020 ?_
  rw [show z_L hX' oO ((0 : Int32)).toNatClampNeg = v from e4 ck]
  refine lv_lload hx hb dw_1021 (lv_at hl 0 rfl) ?_
  refine W.lcmp hx hb dw_1023 ?_
  refine lv_if_eq (tgt := 1029) hx hb dw_1024 (by decide) (fun _ => fin) (fun cn => absurd (lq_cmp v) cn)
set_option maxHeartbeats 4000000 in
set_option maxRecDepth 100000 in
theorem lc_leads (C : lq_C G p s m meth c b L xs) (hfl : l.stackTraces = false) {Inv : z_T → z_T → Prop} {oX oM oO : Nat} (hV : lq_V Inv oX oM oO) {adX adM : Nat → Nat} {hX hM : z_T} {H : Heap} {locs : List Loc} {ls : Array Slot} {cells slots i : Nat} (w : z_2 G s adX adM hX hM H locs) (hI : Inv hX hM) (hi : i + 6 ≤ L) (hcs : cells + 8 ≤ room_1.cells ∧ slots + 125 ≤ room_1.slots) (hl : lv_has ls 8 (lq_l adX adM oX oM oO b i))
    (hop : ∃ (r : Int32) (hM' : z_T), fX11_leads oX  hX = some r ∧ fX12_leads oM  hM = some (r, hM') ∧ Inv hX hM')
    (kk : ∀ (adX adM : Nat → Nat) (hX hM : z_T) (H : Heap) (locs : List Loc) (ls : Array Slot), Inv hX hM → z_2 G s adX adM hX hM H locs → lv_has ls 8 (lq_l adX adM oX oM oO b i) → W p l e room_1 s m #[.ref b] below meth c H locs (cells + 8) (slots + 125) Q (F0 m 1722 ls [])) : W p l e room_1 s m #[.ref b] below meth c H locs cells slots Q (F0 m 1032 ls []) := by
  obtain ⟨r, hM', e1, e2, hI1⟩ := hop
  obtain ⟨gX, gM, gO, -⟩ := hV _ _ hI
  obtain ⟨gX1, gM1, gO1, gI1⟩ := hV _ _ hI1
  have hx := C.1.1
  have hb := C.1.2.1
  refine lv_aload_n hx hb dw_1032 rfl (lv_at hl 3 rfl) ?_
  refine z_2I (lq_cc C w.2.2.2.2.1) w (z_runV (lq_cc C w.2.2.2.2.1) w.B 10 (mm_X11_leads C.2.2.1 l adX oX  hX e1) md_X11_leads qmL_161 gX (by decide) rfl rfl rfl ⟨Nat.le_of_ble_eq_true rfl, Nat.le_of_ble_eq_true rfl⟩ rfl hl.1 rfl (Nat.le_of_ble_eq_true rfl) dw_1033 (lq_rm hcs (by decide) (by decide))) (fun H locs adM2 hag w => ?_)
  replace hl := lq_ag rfl (hag _ (z_ok_lt gM)) rfl hl
  refine lv_aload_n hx hb dw_1036 rfl (lv_at hl 2 rfl) ?_
  refine z_2I (lq_cc C w.swap.2.2.2.2.1) w.swap (z_runV (lq_cc C w.swap.2.2.2.2.1) w.swap.B 11 (mm_X12_leads C.2.2.1 l adM2 oM  hM e2) md_X12_leads qmL_164 gM (by decide) rfl rfl rfl ⟨Nat.le_of_ble_eq_true rfl, Nat.le_of_ble_eq_true rfl⟩ rfl hl.1 rfl (Nat.le_of_ble_eq_true rfl) dw_1037 (lq_rm2 hcs (by decide) (by decide))) (fun H locs adX2 hag w => ?_)
  replace w := w.swap
  replace hl := lq_ag (hag _ (z_ok_lt gX1)) rfl (hag _ (z_ok_lt gO1)) hl
  refine lv_icmp_eq (tgt := 1722) hx hb dw_1040 (by decide) (fun _ => ?_) (fun cn => absurd rfl cn)
  refine W.widen (k := cells + 8) (n := slots + 125) (by omega) (by omega) ?_
  exact kk _ _ _ _ _ _ _ hI1 w hl
set_option maxHeartbeats 4000000 in
set_option maxRecDepth 100000 in
theorem lc_after (C : lq_C G p s m meth c b L xs) (hfl : l.stackTraces = false) {Inv : z_T → z_T → Prop} {oX oM oO : Nat} (hV : lq_V Inv oX oM oO) {adX adM : Nat → Nat} {hX hM : z_T} {H : Heap} {locs : List Loc} {ls : Array Slot} {cells slots i : Nat} (w : z_2 G s adX adM hX hM H locs) (hI : Inv hX hM) (hi : i + 6 ≤ L) (hcs : cells + 8 ≤ room_1.cells ∧ slots + 125 ≤ room_1.slots) (hl : lv_has ls 8 (lq_l adX adM oX oM oO b i))
    (hop : ∃ (k : Int32) (v : Int64) (hX' hM' : z_T), fL_after oX (xs (i + 1)) (xs (i + 2)) oO hX = some (k, hX') ∧ fX12_after oM (xs (i + 1)) (xs (i + 2)) hM = some (v, hM') ∧ fX12_thrown oM hM' = some k ∧ (k = 0 → z_L hX' oO 0 = v) ∧ Inv hX' hM')
    (kk : ∀ (adX adM : Nat → Nat) (hX hM : z_T) (H : Heap) (locs : List Loc) (ls : Array Slot), Inv hX hM → z_2 G s adX adM hX hM H locs → lv_has ls 8 (lq_l adX adM oX oM oO b i) → W p l e room_1 s m #[.ref b] below meth c H locs (cells + 8) (slots + 125) Q (F0 m 1722 ls [])) : W p l e room_1 s m #[.ref b] below meth c H locs cells slots Q (F0 m 1045 ls []) := by
  obtain ⟨k, v, hX', hM', e1, e2, e3, e4, hI1⟩ := hop
  obtain ⟨gX, gM, gO, -⟩ := hV _ _ hI
  obtain ⟨gX1, gM1, gO1, gI1⟩ := hV _ _ hI1
  have hx := C.1.1
  have hb := C.1.2.1
  refine lv_aload_n hx hb dw_1045 rfl (lv_at hl 3 rfl) ?_
  refine lq_rd C w.2.2.1 (lv_at hl 4 rfl) (lv_at hl 0 rfl) (k := 1) (by omega) (by decide) dw_1046 dw_1047 dw_1049 dw_1050 dw_1051 ?_
  refine lq_rd C w.2.2.1 (lv_at hl 4 rfl) (lv_at hl 0 rfl) (k := 2) (by omega) (by decide) dw_1052 dw_1053 dw_1055 dw_1056 dw_1057 ?_
  refine lv_aload_n hx hb dw_1058 rfl (lv_at hl 1 rfl) ?_
  refine z_2W (lq_cc C w.2.2.2.2.1) w (z_runW (n := 4) (lq_cc C w.2.2.2.2.1) w.B (mm_L_after C.2.2.1 l hfl adX oX (xs (i + 1)) (xs (i + 2)) oO hX e1) qcw_after qst_after qini_RL qmL_165 ⟨by decide +kernel, by decide +kernel, by decide +kernel⟩ rfl rfl ⟨Nat.le_of_ble_eq_true rfl, Nat.le_of_ble_eq_true rfl⟩ rfl hl.1 rfl (Nat.le_of_ble_eq_true rfl) dw_1059 (lq_rm hcs (by decide) (by decide))) (fun H locs adX2 adM2 hag1 hag2 w => ?_)
  replace hl := lq_ag (hag1 _ (z_ok_lt gX1)) (hag2 _ (z_ok_lt gM)) (hag1 _ (z_ok_lt gO1)) hl
  refine lv_istore (lv' := (5, .int k) :: lq_l adX2 adM2 oX oM oO b i) hx hb dw_1062 hl (by decide) rfl (fun ls hl => ?_)
  refine lv_aload_n hx hb dw_1064 rfl (lv_at hl 3 rfl) ?_
  refine lq_rd C w.2.2.1 (lv_at hl 5 rfl) (lv_at hl 1 rfl) (k := 1) (by omega) (by decide) dw_1065 dw_1066 dw_1068 dw_1069 dw_1070 ?_
  refine lq_rd C w.2.2.1 (lv_at hl 5 rfl) (lv_at hl 1 rfl) (k := 2) (by omega) (by decide) dw_1071 dw_1072 dw_1074 dw_1075 dw_1076 ?_
  refine z_2L (lq_cc C w.swap.2.2.2.2.1) w.swap (z_runV (lq_cc C w.swap.2.2.2.2.1) w.swap.B 11 (mm_X12_after C.2.2.1 l adM2 oM (xs (i + 1)) (xs (i + 2)) hM e2) md_X12_after qmL_167 gM (by decide) rfl rfl rfl ⟨Nat.le_of_ble_eq_true rfl, Nat.le_of_ble_eq_true rfl⟩ rfl hl.1 rfl (Nat.le_of_ble_eq_true rfl) dw_1077 (lq_rm2 hcs (by decide) (by decide))) (fun H locs adX3 hag w => ?_)
  replace w := w.swap
  replace hl := lq_ag5 (hag _ (z_ok_lt gX1)) rfl (hag _ (z_ok_lt gO1)) hl
  refine lv_lstore (lv' := (6, .long v) :: (5, .int k) :: lq_l adX3 adM2 oX oM oO b i) hx hb dw_1080 hl (by decide) rfl (fun ls hl => ?_)
  refine lv_aload_n hx hb dw_1082 rfl (lv_at hl 4 rfl) ?_
  refine z_2I (lq_cc C w.swap.2.2.2.2.1) w.swap (z_runV (lq_cc C w.swap.2.2.2.2.1) w.swap.B 11 (mm_X12_thrown C.2.2.1 l adM2 oM hM' e3) md_X12_thrown qmL_105 gM1 (by decide) rfl rfl rfl ⟨Nat.le_of_ble_eq_true rfl, Nat.le_of_ble_eq_true rfl⟩ rfl hl.1 rfl (Nat.le_of_ble_eq_true rfl) dw_1083 (lq_rm3 hcs (by decide) (by decide))) (fun H locs adX4 hag w => ?_)
  replace w := w.swap
  replace hl := lq_ag6 (hag _ (z_ok_lt gX1)) rfl (hag _ (z_ok_lt gO1)) hl
  refine lv_iload hx hb dw_1086 (lv_at hl 1 rfl) ?_
  refine lv_icmp_eq (tgt := 1093) hx hb dw_1088 (by decide) (fun _ => ?_) (fun cn => absurd rfl cn)
  refine lv_iload hx hb dw_1093 (lv_at hl 1 rfl) ?_
  have hl2 : lv_has ls 8 (lq_l adX4 adM2 oX oM oO b i) := lv_sub hl [2, 3, 4, 5, 6] rfl
  have fin : W p l e room_1 s m #[.ref b] below meth c H locs (cells + 1 + 0 + 0) (slots + 6 + 0 + 0) Q (F0 m 1109 ls []) := lv_goto (tgt := 1722) hx hb dw_1109 (by decide) (W.widen (k := cells + 8) (n := slots + 125) (by omega) (by omega) (kk _ _ _ _ _ _ _ hI1 w hl2))
  refine lv_if_ne (tgt := 1109) hx hb dw_1095 (by decide) (fun _ => fin) (fun ck => ?_)
  refine lv_aload_n hx hb dw_1098 rfl (lv_at hl 3 rfl) ?_
  refine lv_iconst (v := (0 : Int32)) hx hb dw_1099 (by decide) ?_
  refine z_lald (lq_cc C w.2.2.2.2.1) w.B gO1 gI1 dw_1100 ?_
  rw [show z_L hX' oO ((0 : Int32)).toNatClampNeg = v from e4 ck]
  refine lv_lload hx hb dw_1101 (lv_at hl 0 rfl) ?_
  refine W.lcmp hx hb dw_1103 ?_
  refine lv_if_eq (tgt := 1109) hx hb dw_1104 (by decide) (fun _ => fin) (fun cn => absurd (lq_cmp v) cn)
set_option maxHeartbeats 4000000 in
set_option maxRecDepth 100000 in
theorem lc_lot (C : lq_C G p s m meth c b L xs) (hfl : l.stackTraces = false) {Inv : z_T → z_T → Prop} {oX oM oO : Nat} (hV : lq_V Inv oX oM oO) {adX adM : Nat → Nat} {hX hM : z_T} {H : Heap} {locs : List Loc} {ls : Array Slot} {cells slots i : Nat} (w : z_2 G s adX adM hX hM H locs) (hI : Inv hX hM) (hi : i + 6 ≤ L) (hcs : cells + 8 ≤ room_1.cells ∧ slots + 125 ≤ room_1.slots) (hl : lv_has ls 8 (lq_l adX adM oX oM oO b i))
    (hop : ∃ (k : Int32) (v : Int64) (hX' hM' : z_T), fL_lot oX (xs (i + 1)) oO hX = some (k, hX') ∧ fX12_lot oM (xs (i + 1)) hM = some (v, hM') ∧ fX12_thrown oM hM' = some k ∧ (k = 0 → z_L hX' oO 0 = v) ∧ Inv hX' hM')
    (kk : ∀ (adX adM : Nat → Nat) (hX hM : z_T) (H : Heap) (locs : List Loc) (ls : Array Slot), Inv hX hM → z_2 G s adX adM hX hM H locs → lv_has ls 8 (lq_l adX adM oX oM oO b i) → W p l e room_1 s m #[.ref b] below meth c H locs (cells + 8) (slots + 125) Q (F0 m 1722 ls [])) : W p l e room_1 s m #[.ref b] below meth c H locs cells slots Q (F0 m 1112 ls []) := by
  obtain ⟨k, v, hX', hM', e1, e2, e3, e4, hI1⟩ := hop
  obtain ⟨gX, gM, gO, -⟩ := hV _ _ hI
  obtain ⟨gX1, gM1, gO1, gI1⟩ := hV _ _ hI1
  have hx := C.1.1
  have hb := C.1.2.1
  refine lv_aload_n hx hb dw_1112 rfl (lv_at hl 3 rfl) ?_
  refine lq_rd C w.2.2.1 (lv_at hl 4 rfl) (lv_at hl 0 rfl) (k := 1) (by omega) (by decide) dw_1113 dw_1114 dw_1116 dw_1117 dw_1118 ?_
  refine lv_aload_n hx hb dw_1119 rfl (lv_at hl 1 rfl) ?_
  refine z_2W (lq_cc C w.2.2.2.2.1) w (z_runW (n := 3) (lq_cc C w.2.2.2.2.1) w.B (mm_L_lot C.2.2.1 l hfl adX oX (xs (i + 1)) oO hX e1) qcw_lot qst_lot qini_RL qmL_168 ⟨by decide +kernel, by decide +kernel, by decide +kernel⟩ rfl rfl ⟨Nat.le_of_ble_eq_true rfl, Nat.le_of_ble_eq_true rfl⟩ rfl hl.1 rfl (Nat.le_of_ble_eq_true rfl) dw_1120 (lq_rm hcs (by decide) (by decide))) (fun H locs adX2 adM2 hag1 hag2 w => ?_)
  replace hl := lq_ag (hag1 _ (z_ok_lt gX1)) (hag2 _ (z_ok_lt gM)) (hag1 _ (z_ok_lt gO1)) hl
  refine lv_istore (lv' := (5, .int k) :: lq_l adX2 adM2 oX oM oO b i) hx hb dw_1123 hl (by decide) rfl (fun ls hl => ?_)
  refine lv_aload_n hx hb dw_1125 rfl (lv_at hl 3 rfl) ?_
  refine lq_rd C w.2.2.1 (lv_at hl 5 rfl) (lv_at hl 1 rfl) (k := 1) (by omega) (by decide) dw_1126 dw_1127 dw_1129 dw_1130 dw_1131 ?_
  refine z_2L (lq_cc C w.swap.2.2.2.2.1) w.swap (z_runV (lq_cc C w.swap.2.2.2.2.1) w.swap.B 11 (mm_X12_lot C.2.2.1 l adM2 oM (xs (i + 1)) hM e2) md_X12_lot qmL_170 gM (by decide) rfl rfl rfl ⟨Nat.le_of_ble_eq_true rfl, Nat.le_of_ble_eq_true rfl⟩ rfl hl.1 rfl (Nat.le_of_ble_eq_true rfl) dw_1132 (lq_rm2 hcs (by decide) (by decide))) (fun H locs adX3 hag w => ?_)
  replace w := w.swap
  replace hl := lq_ag5 (hag _ (z_ok_lt gX1)) rfl (hag _ (z_ok_lt gO1)) hl
  refine lv_lstore (lv' := (6, .long v) :: (5, .int k) :: lq_l adX3 adM2 oX oM oO b i) hx hb dw_1135 hl (by decide) rfl (fun ls hl => ?_)
  refine lv_aload_n hx hb dw_1137 rfl (lv_at hl 4 rfl) ?_
  refine z_2I (lq_cc C w.swap.2.2.2.2.1) w.swap (z_runV (lq_cc C w.swap.2.2.2.2.1) w.swap.B 11 (mm_X12_thrown C.2.2.1 l adM2 oM hM' e3) md_X12_thrown qmL_105 gM1 (by decide) rfl rfl rfl ⟨Nat.le_of_ble_eq_true rfl, Nat.le_of_ble_eq_true rfl⟩ rfl hl.1 rfl (Nat.le_of_ble_eq_true rfl) dw_1138 (lq_rm3 hcs (by decide) (by decide))) (fun H locs adX4 hag w => ?_)
  replace w := w.swap
  replace hl := lq_ag6 (hag _ (z_ok_lt gX1)) rfl (hag _ (z_ok_lt gO1)) hl
  refine lv_iload hx hb dw_1141 (lv_at hl 1 rfl) ?_
  refine lv_icmp_eq (tgt := 1148) hx hb dw_1143 (by decide) (fun _ => ?_) (fun cn => absurd rfl cn)
  refine lv_iload hx hb dw_1148 (lv_at hl 1 rfl) ?_
  have hl2 : lv_has ls 8 (lq_l adX4 adM2 oX oM oO b i) := lv_sub hl [2, 3, 4, 5, 6] rfl
  have fin : W p l e room_1 s m #[.ref b] below meth c H locs (cells + 1 + 0 + 0) (slots + 6 + 0 + 0) Q (F0 m 1164 ls []) := lv_goto (tgt := 1722) hx hb dw_1164 (by decide) (W.widen (k := cells + 8) (n := slots + 125) (by omega) (by omega) (kk _ _ _ _ _ _ _ hI1 w hl2))
  refine lv_if_ne (tgt := 1164) hx hb dw_1150 (by decide) (fun _ => fin) (fun ck => ?_)
  refine lv_aload_n hx hb dw_1153 rfl (lv_at hl 3 rfl) ?_
  refine lv_iconst (v := (0 : Int32)) hx hb dw_1154 (by decide) ?_
  refine z_lald (lq_cc C w.2.2.2.2.1) w.B gO1 gI1 dw_1155 ?_
  rw [show z_L hX' oO ((0 : Int32)).toNatClampNeg = v from e4 ck]
  refine lv_lload hx hb dw_1156 (lv_at hl 0 rfl) ?_
  refine W.lcmp hx hb dw_1158 ?_
  refine lv_if_eq (tgt := 1164) hx hb dw_1159 (by decide) (fun _ => fin) (fun cn => absurd (lq_cmp v) cn)
set_option maxHeartbeats 4000000 in
set_option maxRecDepth 100000 in
theorem lc_share (C : lq_C G p s m meth c b L xs) (hfl : l.stackTraces = false) {Inv : z_T → z_T → Prop} {oX oM oO : Nat} (hV : lq_V Inv oX oM oO) {adX adM : Nat → Nat} {hX hM : z_T} {H : Heap} {locs : List Loc} {ls : Array Slot} {cells slots i : Nat} (w : z_2 G s adX adM hX hM H locs) (hI : Inv hX hM) (hi : i + 6 ≤ L) (hcs : cells + 8 ≤ room_1.cells ∧ slots + 125 ≤ room_1.slots) (hl : lv_has ls 8 (lq_l adX adM oX oM oO b i))
    (hop : ∃ (k : Int32) (v : Int64) (hX' hM' : z_T), fL_share oX (xs (i + 1)) (xs (i + 2)) oO hX = some (k, hX') ∧ fX12_share oM (xs (i + 1)) (xs (i + 2)) hM = some (v, hM') ∧ fX12_thrown oM hM' = some k ∧ (k = 0 → z_L hX' oO 0 = v) ∧ Inv hX' hM')
    (kk : ∀ (adX adM : Nat → Nat) (hX hM : z_T) (H : Heap) (locs : List Loc) (ls : Array Slot), Inv hX hM → z_2 G s adX adM hX hM H locs → lv_has ls 8 (lq_l adX adM oX oM oO b i) → W p l e room_1 s m #[.ref b] below meth c H locs (cells + 8) (slots + 125) Q (F0 m 1722 ls [])) : W p l e room_1 s m #[.ref b] below meth c H locs cells slots Q (F0 m 1167 ls []) := by
  obtain ⟨k, v, hX', hM', e1, e2, e3, e4, hI1⟩ := hop
  obtain ⟨gX, gM, gO, -⟩ := hV _ _ hI
  obtain ⟨gX1, gM1, gO1, gI1⟩ := hV _ _ hI1
  have hx := C.1.1
  have hb := C.1.2.1
  refine lv_aload_n hx hb dw_1167 rfl (lv_at hl 3 rfl) ?_
  refine lq_rd C w.2.2.1 (lv_at hl 4 rfl) (lv_at hl 0 rfl) (k := 1) (by omega) (by decide) dw_1168 dw_1169 dw_1171 dw_1172 dw_1173 ?_
  refine lq_rd C w.2.2.1 (lv_at hl 4 rfl) (lv_at hl 0 rfl) (k := 2) (by omega) (by decide) dw_1174 dw_1175 dw_1177 dw_1178 dw_1179 ?_
  refine lv_aload_n hx hb dw_1180 rfl (lv_at hl 1 rfl) ?_
  refine z_2W (lq_cc C w.2.2.2.2.1) w (z_runW (n := 4) (lq_cc C w.2.2.2.2.1) w.B (mm_L_share C.2.2.1 l hfl adX oX (xs (i + 1)) (xs (i + 2)) oO hX e1) qcw_share qst_share qini_RL qmL_171 ⟨by decide +kernel, by decide +kernel, by decide +kernel⟩ rfl rfl ⟨Nat.le_of_ble_eq_true rfl, Nat.le_of_ble_eq_true rfl⟩ rfl hl.1 rfl (Nat.le_of_ble_eq_true rfl) dw_1181 (lq_rm hcs (by decide) (by decide))) (fun H locs adX2 adM2 hag1 hag2 w => ?_)
  replace hl := lq_ag (hag1 _ (z_ok_lt gX1)) (hag2 _ (z_ok_lt gM)) (hag1 _ (z_ok_lt gO1)) hl
  refine lv_istore (lv' := (5, .int k) :: lq_l adX2 adM2 oX oM oO b i) hx hb dw_1184 hl (by decide) rfl (fun ls hl => ?_)
  refine lv_aload_n hx hb dw_1186 rfl (lv_at hl 3 rfl) ?_
  refine lq_rd C w.2.2.1 (lv_at hl 5 rfl) (lv_at hl 1 rfl) (k := 1) (by omega) (by decide) dw_1187 dw_1188 dw_1190 dw_1191 dw_1192 ?_
  refine lq_rd C w.2.2.1 (lv_at hl 5 rfl) (lv_at hl 1 rfl) (k := 2) (by omega) (by decide) dw_1193 dw_1194 dw_1196 dw_1197 dw_1198 ?_
  refine z_2L (lq_cc C w.swap.2.2.2.2.1) w.swap (z_runV (lq_cc C w.swap.2.2.2.2.1) w.swap.B 11 (mm_X12_share C.2.2.1 l adM2 oM (xs (i + 1)) (xs (i + 2)) hM e2) md_X12_share qmL_173 gM (by decide) rfl rfl rfl ⟨Nat.le_of_ble_eq_true rfl, Nat.le_of_ble_eq_true rfl⟩ rfl hl.1 rfl (Nat.le_of_ble_eq_true rfl) dw_1199 (lq_rm2 hcs (by decide) (by decide))) (fun H locs adX3 hag w => ?_)
  replace w := w.swap
  replace hl := lq_ag5 (hag _ (z_ok_lt gX1)) rfl (hag _ (z_ok_lt gO1)) hl
  refine lv_lstore (lv' := (6, .long v) :: (5, .int k) :: lq_l adX3 adM2 oX oM oO b i) hx hb dw_1202 hl (by decide) rfl (fun ls hl => ?_)
  refine lv_aload_n hx hb dw_1204 rfl (lv_at hl 4 rfl) ?_
  refine z_2I (lq_cc C w.swap.2.2.2.2.1) w.swap (z_runV (lq_cc C w.swap.2.2.2.2.1) w.swap.B 11 (mm_X12_thrown C.2.2.1 l adM2 oM hM' e3) md_X12_thrown qmL_105 gM1 (by decide) rfl rfl rfl ⟨Nat.le_of_ble_eq_true rfl, Nat.le_of_ble_eq_true rfl⟩ rfl hl.1 rfl (Nat.le_of_ble_eq_true rfl) dw_1205 (lq_rm3 hcs (by decide) (by decide))) (fun H locs adX4 hag w => ?_)
  replace w := w.swap
  replace hl := lq_ag6 (hag _ (z_ok_lt gX1)) rfl (hag _ (z_ok_lt gO1)) hl
  refine lv_iload hx hb dw_1208 (lv_at hl 1 rfl) ?_
  refine lv_icmp_eq (tgt := 1215) hx hb dw_1210 (by decide) (fun _ => ?_) (fun cn => absurd rfl cn)
  refine lv_iload hx hb dw_1215 (lv_at hl 1 rfl) ?_
  have hl2 : lv_has ls 8 (lq_l adX4 adM2 oX oM oO b i) := lv_sub hl [2, 3, 4, 5, 6] rfl
  have fin : W p l e room_1 s m #[.ref b] below meth c H locs (cells + 1 + 0 + 0) (slots + 6 + 0 + 0) Q (F0 m 1231 ls []) := lv_goto (tgt := 1722) hx hb dw_1231 (by decide) (W.widen (k := cells + 8) (n := slots + 125) (by omega) (by omega) (kk _ _ _ _ _ _ _ hI1 w hl2))
  refine lv_if_ne (tgt := 1231) hx hb dw_1217 (by decide) (fun _ => fin) (fun ck => ?_)
  refine lv_aload_n hx hb dw_1220 rfl (lv_at hl 3 rfl) ?_
  refine lv_iconst (v := (0 : Int32)) hx hb dw_1221 (by decide) ?_
  refine z_lald (lq_cc C w.2.2.2.2.1) w.B gO1 gI1 dw_1222 ?_
  rw [show z_L hX' oO ((0 : Int32)).toNatClampNeg = v from e4 ck]
  refine lv_lload hx hb dw_1223 (lv_at hl 0 rfl) ?_
  refine W.lcmp hx hb dw_1225 ?_
  refine lv_if_eq (tgt := 1231) hx hb dw_1226 (by decide) (fun _ => fin) (fun cn => absurd (lq_cmp v) cn)
set_option maxHeartbeats 4000000 in
set_option maxRecDepth 100000 in
theorem lc_next (C : lq_C G p s m meth c b L xs) (hfl : l.stackTraces = false) {Inv : z_T → z_T → Prop} {oX oM oO : Nat} (hV : lq_V Inv oX oM oO) {adX adM : Nat → Nat} {hX hM : z_T} {H : Heap} {locs : List Loc} {ls : Array Slot} {cells slots i : Nat} (w : z_2 G s adX adM hX hM H locs) (hI : Inv hX hM) (hi : i + 6 ≤ L) (hcs : cells + 8 ≤ room_1.cells ∧ slots + 125 ≤ room_1.slots) (hl : lv_has ls 8 (lq_l adX adM oX oM oO b i))
    (hop : ∃ (r : Int32) (hM' : z_T), fX11_next oX  hX = some r ∧ fX12_next oM  hM = some (r, hM') ∧ Inv hX hM')
    (kk : ∀ (adX adM : Nat → Nat) (hX hM : z_T) (H : Heap) (locs : List Loc) (ls : Array Slot), Inv hX hM → z_2 G s adX adM hX hM H locs → lv_has ls 8 (lq_l adX adM oX oM oO b i) → W p l e room_1 s m #[.ref b] below meth c H locs (cells + 8) (slots + 125) Q (F0 m 1722 ls [])) : W p l e room_1 s m #[.ref b] below meth c H locs cells slots Q (F0 m 1234 ls []) := by
  obtain ⟨r, hM', e1, e2, hI1⟩ := hop
  obtain ⟨gX, gM, gO, -⟩ := hV _ _ hI
  obtain ⟨gX1, gM1, gO1, gI1⟩ := hV _ _ hI1
  have hx := C.1.1
  have hb := C.1.2.1
  refine lv_aload_n hx hb dw_1234 rfl (lv_at hl 3 rfl) ?_
  refine z_2I (lq_cc C w.2.2.2.2.1) w (z_runV (lq_cc C w.2.2.2.2.1) w.B 10 (mm_X11_next C.2.2.1 l adX oX  hX e1) md_X11_next qmL_174 gX (by decide) rfl rfl rfl ⟨Nat.le_of_ble_eq_true rfl, Nat.le_of_ble_eq_true rfl⟩ rfl hl.1 rfl (Nat.le_of_ble_eq_true rfl) dw_1235 (lq_rm hcs (by decide) (by decide))) (fun H locs adM2 hag w => ?_)
  replace hl := lq_ag rfl (hag _ (z_ok_lt gM)) rfl hl
  refine lv_aload_n hx hb dw_1238 rfl (lv_at hl 2 rfl) ?_
  refine z_2I (lq_cc C w.swap.2.2.2.2.1) w.swap (z_runV (lq_cc C w.swap.2.2.2.2.1) w.swap.B 11 (mm_X12_next C.2.2.1 l adM2 oM  hM e2) md_X12_next qmL_177 gM (by decide) rfl rfl rfl ⟨Nat.le_of_ble_eq_true rfl, Nat.le_of_ble_eq_true rfl⟩ rfl hl.1 rfl (Nat.le_of_ble_eq_true rfl) dw_1239 (lq_rm2 hcs (by decide) (by decide))) (fun H locs adX2 hag w => ?_)
  replace w := w.swap
  replace hl := lq_ag (hag _ (z_ok_lt gX1)) rfl (hag _ (z_ok_lt gO1)) hl
  refine lv_icmp_eq (tgt := 1722) hx hb dw_1242 (by decide) (fun _ => ?_) (fun cn => absurd rfl cn)
  refine W.widen (k := cells + 8) (n := slots + 125) (by omega) (by omega) ?_
  exact kk _ _ _ _ _ _ _ hI1 w hl
set_option maxHeartbeats 4000000 in
set_option maxRecDepth 100000 in
theorem lc_fails (C : lq_C G p s m meth c b L xs) (hfl : l.stackTraces = false) {Inv : z_T → z_T → Prop} {oX oM oO : Nat} (hV : lq_V Inv oX oM oO) {adX adM : Nat → Nat} {hX hM : z_T} {H : Heap} {locs : List Loc} {ls : Array Slot} {cells slots i : Nat} (w : z_2 G s adX adM hX hM H locs) (hI : Inv hX hM) (hi : i + 6 ≤ L) (hcs : cells + 8 ≤ room_1.cells ∧ slots + 125 ≤ room_1.slots) (hl : lv_has ls 8 (lq_l adX adM oX oM oO b i))
    (hop : ∃ (k : Int32) (v : Int64) (hX' hM' : z_T), fL_fails oX (xs (i + 1)) (xs (i + 2)) oO hX = some (k, hX') ∧ fX12_fails oM (xs (i + 1)) (xs (i + 2)) hM = some (v, hM') ∧ fX12_thrown oM hM' = some k ∧ (k = 0 → z_L hX' oO 0 = v) ∧ Inv hX' hM')
    (kk : ∀ (adX adM : Nat → Nat) (hX hM : z_T) (H : Heap) (locs : List Loc) (ls : Array Slot), Inv hX hM → z_2 G s adX adM hX hM H locs → lv_has ls 8 (lq_l adX adM oX oM oO b i) → W p l e room_1 s m #[.ref b] below meth c H locs (cells + 8) (slots + 125) Q (F0 m 1722 ls [])) : W p l e room_1 s m #[.ref b] below meth c H locs cells slots Q (F0 m 1247 ls []) := by
  obtain ⟨k, v, hX', hM', e1, e2, e3, e4, hI1⟩ := hop
  obtain ⟨gX, gM, gO, -⟩ := hV _ _ hI
  obtain ⟨gX1, gM1, gO1, gI1⟩ := hV _ _ hI1
  have hx := C.1.1
  have hb := C.1.2.1
  refine lv_aload_n hx hb dw_1247 rfl (lv_at hl 3 rfl) ?_
  refine lq_rd C w.2.2.1 (lv_at hl 4 rfl) (lv_at hl 0 rfl) (k := 1) (by omega) (by decide) dw_1248 dw_1249 dw_1251 dw_1252 dw_1253 ?_
  refine lq_rd C w.2.2.1 (lv_at hl 4 rfl) (lv_at hl 0 rfl) (k := 2) (by omega) (by decide) dw_1254 dw_1255 dw_1257 dw_1258 dw_1259 ?_
  refine lv_aload_n hx hb dw_1260 rfl (lv_at hl 1 rfl) ?_
  refine z_2W (lq_cc C w.2.2.2.2.1) w (z_runW (n := 4) (lq_cc C w.2.2.2.2.1) w.B (mm_L_fails C.2.2.1 l hfl adX oX (xs (i + 1)) (xs (i + 2)) oO hX e1) qcw_fails qst_fails qini_RL qmL_178 ⟨by decide +kernel, by decide +kernel, by decide +kernel⟩ rfl rfl ⟨Nat.le_of_ble_eq_true rfl, Nat.le_of_ble_eq_true rfl⟩ rfl hl.1 rfl (Nat.le_of_ble_eq_true rfl) dw_1261 (lq_rm hcs (by decide) (by decide))) (fun H locs adX2 adM2 hag1 hag2 w => ?_)
  replace hl := lq_ag (hag1 _ (z_ok_lt gX1)) (hag2 _ (z_ok_lt gM)) (hag1 _ (z_ok_lt gO1)) hl
  refine lv_istore (lv' := (5, .int k) :: lq_l adX2 adM2 oX oM oO b i) hx hb dw_1264 hl (by decide) rfl (fun ls hl => ?_)
  refine lv_aload_n hx hb dw_1266 rfl (lv_at hl 3 rfl) ?_
  refine lq_rd C w.2.2.1 (lv_at hl 5 rfl) (lv_at hl 1 rfl) (k := 1) (by omega) (by decide) dw_1267 dw_1268 dw_1270 dw_1271 dw_1272 ?_
  refine lq_rd C w.2.2.1 (lv_at hl 5 rfl) (lv_at hl 1 rfl) (k := 2) (by omega) (by decide) dw_1273 dw_1274 dw_1276 dw_1277 dw_1278 ?_
  refine z_2L (lq_cc C w.swap.2.2.2.2.1) w.swap (z_runV (lq_cc C w.swap.2.2.2.2.1) w.swap.B 11 (mm_X12_fails C.2.2.1 l adM2 oM (xs (i + 1)) (xs (i + 2)) hM e2) md_X12_fails qmL_180 gM (by decide) rfl rfl rfl ⟨Nat.le_of_ble_eq_true rfl, Nat.le_of_ble_eq_true rfl⟩ rfl hl.1 rfl (Nat.le_of_ble_eq_true rfl) dw_1279 (lq_rm2 hcs (by decide) (by decide))) (fun H locs adX3 hag w => ?_)
  replace w := w.swap
  replace hl := lq_ag5 (hag _ (z_ok_lt gX1)) rfl (hag _ (z_ok_lt gO1)) hl
  refine lv_lstore (lv' := (6, .long v) :: (5, .int k) :: lq_l adX3 adM2 oX oM oO b i) hx hb dw_1282 hl (by decide) rfl (fun ls hl => ?_)
  refine lv_aload_n hx hb dw_1284 rfl (lv_at hl 4 rfl) ?_
  refine z_2I (lq_cc C w.swap.2.2.2.2.1) w.swap (z_runV (lq_cc C w.swap.2.2.2.2.1) w.swap.B 11 (mm_X12_thrown C.2.2.1 l adM2 oM hM' e3) md_X12_thrown qmL_105 gM1 (by decide) rfl rfl rfl ⟨Nat.le_of_ble_eq_true rfl, Nat.le_of_ble_eq_true rfl⟩ rfl hl.1 rfl (Nat.le_of_ble_eq_true rfl) dw_1285 (lq_rm3 hcs (by decide) (by decide))) (fun H locs adX4 hag w => ?_)
  replace w := w.swap
  replace hl := lq_ag6 (hag _ (z_ok_lt gX1)) rfl (hag _ (z_ok_lt gO1)) hl
  refine lv_iload hx hb dw_1288 (lv_at hl 1 rfl) ?_
  refine lv_icmp_eq (tgt := 1295) hx hb dw_1290 (by decide) (fun _ => ?_) (fun cn => absurd rfl cn)
  refine lv_iload hx hb dw_1295 (lv_at hl 1 rfl) ?_
  have hl2 : lv_has ls 8 (lq_l adX4 adM2 oX oM oO b i) := lv_sub hl [2, 3, 4, 5, 6] rfl
  have fin : W p l e room_1 s m #[.ref b] below meth c H locs (cells + 1 + 0 + 0) (slots + 6 + 0 + 0) Q (F0 m 1311 ls []) := lv_goto (tgt := 1722) hx hb dw_1311 (by decide) (W.widen (k := cells + 8) (n := slots + 125) (by omega) (by omega) (kk _ _ _ _ _ _ _ hI1 w hl2))
  refine lv_if_ne (tgt := 1311) hx hb dw_1297 (by decide) (fun _ => fin) (fun ck => ?_)
  refine lv_aload_n hx hb dw_1300 rfl (lv_at hl 3 rfl) ?_
  refine lv_iconst (v := (0 : Int32)) hx hb dw_1301 (by decide) ?_
  refine z_lald (lq_cc C w.2.2.2.2.1) w.B gO1 gI1 dw_1302 ?_
  rw [show z_L hX' oO ((0 : Int32)).toNatClampNeg = v from e4 ck]
  refine lv_lload hx hb dw_1303 (lv_at hl 0 rfl) ?_
  refine W.lcmp hx hb dw_1305 ?_
  refine lv_if_eq (tgt := 1311) hx hb dw_1306 (by decide) (fun _ => fin) (fun cn => absurd (lq_cmp v) cn)
set_option maxHeartbeats 4000000 in
set_option maxRecDepth 100000 in
theorem lc_deep (C : lq_C G p s m meth c b L xs) (hfl : l.stackTraces = false) {Inv : z_T → z_T → Prop} {oX oM oO : Nat} (hV : lq_V Inv oX oM oO) {adX adM : Nat → Nat} {hX hM : z_T} {H : Heap} {locs : List Loc} {ls : Array Slot} {cells slots i : Nat} (w : z_2 G s adX adM hX hM H locs) (hI : Inv hX hM) (hi : i + 6 ≤ L) (hcs : cells + 8 ≤ room_1.cells ∧ slots + 125 ≤ room_1.slots) (hl : lv_has ls 8 (lq_l adX adM oX oM oO b i))
    (hop : ∃ (k : Int32) (v : Int64) (hX' hM' : z_T), fL_deep oX (xs (i + 1)) (xs (i + 2)) oO hX = some (k, hX') ∧ fX12_deep oM (xs (i + 1)) (xs (i + 2)) hM = some (v, hM') ∧ fX12_thrown oM hM' = some k ∧ (k = 0 → z_L hX' oO 0 = v) ∧ Inv hX' hM')
    (kk : ∀ (adX adM : Nat → Nat) (hX hM : z_T) (H : Heap) (locs : List Loc) (ls : Array Slot), Inv hX hM → z_2 G s adX adM hX hM H locs → lv_has ls 8 (lq_l adX adM oX oM oO b i) → W p l e room_1 s m #[.ref b] below meth c H locs (cells + 8) (slots + 125) Q (F0 m 1722 ls [])) : W p l e room_1 s m #[.ref b] below meth c H locs cells slots Q (F0 m 1314 ls []) := by
  obtain ⟨k, v, hX', hM', e1, e2, e3, e4, hI1⟩ := hop
  obtain ⟨gX, gM, gO, -⟩ := hV _ _ hI
  obtain ⟨gX1, gM1, gO1, gI1⟩ := hV _ _ hI1
  have hx := C.1.1
  have hb := C.1.2.1
  refine lv_aload_n hx hb dw_1314 rfl (lv_at hl 3 rfl) ?_
  refine lq_rd C w.2.2.1 (lv_at hl 4 rfl) (lv_at hl 0 rfl) (k := 1) (by omega) (by decide) dw_1315 dw_1316 dw_1318 dw_1319 dw_1320 ?_
  refine lq_rd C w.2.2.1 (lv_at hl 4 rfl) (lv_at hl 0 rfl) (k := 2) (by omega) (by decide) dw_1321 dw_1322 dw_1324 dw_1325 dw_1326 ?_
  refine lv_aload_n hx hb dw_1327 rfl (lv_at hl 1 rfl) ?_
  refine z_2W (lq_cc C w.2.2.2.2.1) w (z_runW (n := 4) (lq_cc C w.2.2.2.2.1) w.B (mm_L_deep C.2.2.1 l hfl adX oX (xs (i + 1)) (xs (i + 2)) oO hX e1) qcw_deep qst_deep qini_RL qmL_181 ⟨by decide +kernel, by decide +kernel, by decide +kernel⟩ rfl rfl ⟨Nat.le_of_ble_eq_true rfl, Nat.le_of_ble_eq_true rfl⟩ rfl hl.1 rfl (Nat.le_of_ble_eq_true rfl) dw_1328 (lq_rm hcs (by decide) (by decide))) (fun H locs adX2 adM2 hag1 hag2 w => ?_)
  replace hl := lq_ag (hag1 _ (z_ok_lt gX1)) (hag2 _ (z_ok_lt gM)) (hag1 _ (z_ok_lt gO1)) hl
  refine lv_istore (lv' := (5, .int k) :: lq_l adX2 adM2 oX oM oO b i) hx hb dw_1331 hl (by decide) rfl (fun ls hl => ?_)
  refine lv_aload_n hx hb dw_1333 rfl (lv_at hl 3 rfl) ?_
  refine lq_rd C w.2.2.1 (lv_at hl 5 rfl) (lv_at hl 1 rfl) (k := 1) (by omega) (by decide) dw_1334 dw_1335 dw_1337 dw_1338 dw_1339 ?_
  refine lq_rd C w.2.2.1 (lv_at hl 5 rfl) (lv_at hl 1 rfl) (k := 2) (by omega) (by decide) dw_1340 dw_1341 dw_1343 dw_1344 dw_1345 ?_
  refine z_2L (lq_cc C w.swap.2.2.2.2.1) w.swap (z_runV (lq_cc C w.swap.2.2.2.2.1) w.swap.B 11 (mm_X12_deep C.2.2.1 l adM2 oM (xs (i + 1)) (xs (i + 2)) hM e2) md_X12_deep qmL_183 gM (by decide) rfl rfl rfl ⟨Nat.le_of_ble_eq_true rfl, Nat.le_of_ble_eq_true rfl⟩ rfl hl.1 rfl (Nat.le_of_ble_eq_true rfl) dw_1346 (lq_rm2 hcs (by decide) (by decide))) (fun H locs adX3 hag w => ?_)
  replace w := w.swap
  replace hl := lq_ag5 (hag _ (z_ok_lt gX1)) rfl (hag _ (z_ok_lt gO1)) hl
  refine lv_lstore (lv' := (6, .long v) :: (5, .int k) :: lq_l adX3 adM2 oX oM oO b i) hx hb dw_1349 hl (by decide) rfl (fun ls hl => ?_)
  refine lv_aload_n hx hb dw_1351 rfl (lv_at hl 4 rfl) ?_
  refine z_2I (lq_cc C w.swap.2.2.2.2.1) w.swap (z_runV (lq_cc C w.swap.2.2.2.2.1) w.swap.B 11 (mm_X12_thrown C.2.2.1 l adM2 oM hM' e3) md_X12_thrown qmL_105 gM1 (by decide) rfl rfl rfl ⟨Nat.le_of_ble_eq_true rfl, Nat.le_of_ble_eq_true rfl⟩ rfl hl.1 rfl (Nat.le_of_ble_eq_true rfl) dw_1352 (lq_rm3 hcs (by decide) (by decide))) (fun H locs adX4 hag w => ?_)
  replace w := w.swap
  replace hl := lq_ag6 (hag _ (z_ok_lt gX1)) rfl (hag _ (z_ok_lt gO1)) hl
  refine lv_iload hx hb dw_1355 (lv_at hl 1 rfl) ?_
  refine lv_icmp_eq (tgt := 1362) hx hb dw_1357 (by decide) (fun _ => ?_) (fun cn => absurd rfl cn)
  refine lv_iload hx hb dw_1362 (lv_at hl 1 rfl) ?_
  have hl2 : lv_has ls 8 (lq_l adX4 adM2 oX oM oO b i) := lv_sub hl [2, 3, 4, 5, 6] rfl
  have fin : W p l e room_1 s m #[.ref b] below meth c H locs (cells + 1 + 0 + 0) (slots + 6 + 0 + 0) Q (F0 m 1378 ls []) := lv_goto (tgt := 1722) hx hb dw_1378 (by decide) (W.widen (k := cells + 8) (n := slots + 125) (by omega) (by omega) (kk _ _ _ _ _ _ _ hI1 w hl2))
  refine lv_if_ne (tgt := 1378) hx hb dw_1364 (by decide) (fun _ => fin) (fun ck => ?_)
  refine lv_aload_n hx hb dw_1367 rfl (lv_at hl 3 rfl) ?_
  refine lv_iconst (v := (0 : Int32)) hx hb dw_1368 (by decide) ?_
  refine z_lald (lq_cc C w.2.2.2.2.1) w.B gO1 gI1 dw_1369 ?_
  rw [show z_L hX' oO ((0 : Int32)).toNatClampNeg = v from e4 ck]
  refine lv_lload hx hb dw_1370 (lv_at hl 0 rfl) ?_
  refine W.lcmp hx hb dw_1372 ?_
  refine lv_if_eq (tgt := 1378) hx hb dw_1373 (by decide) (fun _ => fin) (fun cn => absurd (lq_cmp v) cn)
set_option maxHeartbeats 4000000 in
set_option maxRecDepth 100000 in
theorem lc_tells (C : lq_C G p s m meth c b L xs) (hfl : l.stackTraces = false) {Inv : z_T → z_T → Prop} {oX oM oO : Nat} (hV : lq_V Inv oX oM oO) {adX adM : Nat → Nat} {hX hM : z_T} {H : Heap} {locs : List Loc} {ls : Array Slot} {cells slots i : Nat} (w : z_2 G s adX adM hX hM H locs) (hI : Inv hX hM) (hi : i + 6 ≤ L) (hcs : cells + 8 ≤ room_1.cells ∧ slots + 125 ≤ room_1.slots) (hl : lv_has ls 8 (lq_l adX adM oX oM oO b i))
    (hop : ∃ (k : Int32) (v : Int64) (hX' hM' : z_T), fL_tells oX (xs (i + 1)) (xs (i + 2)) oO hX = some (k, hX') ∧ fX12_tells oM (xs (i + 1)) (xs (i + 2)) hM = some (v, hM') ∧ fX12_thrown oM hM' = some k ∧ (k = 0 → z_L hX' oO 0 = v) ∧ Inv hX' hM')
    (kk : ∀ (adX adM : Nat → Nat) (hX hM : z_T) (H : Heap) (locs : List Loc) (ls : Array Slot), Inv hX hM → z_2 G s adX adM hX hM H locs → lv_has ls 8 (lq_l adX adM oX oM oO b i) → W p l e room_1 s m #[.ref b] below meth c H locs (cells + 8) (slots + 125) Q (F0 m 1722 ls [])) : W p l e room_1 s m #[.ref b] below meth c H locs cells slots Q (F0 m 1381 ls []) := by
  obtain ⟨k, v, hX', hM', e1, e2, e3, e4, hI1⟩ := hop
  obtain ⟨gX, gM, gO, -⟩ := hV _ _ hI
  obtain ⟨gX1, gM1, gO1, gI1⟩ := hV _ _ hI1
  have hx := C.1.1
  have hb := C.1.2.1
  refine lv_aload_n hx hb dw_1381 rfl (lv_at hl 3 rfl) ?_
  refine lq_rd C w.2.2.1 (lv_at hl 4 rfl) (lv_at hl 0 rfl) (k := 1) (by omega) (by decide) dw_1382 dw_1383 dw_1385 dw_1386 dw_1387 ?_
  refine lq_rd C w.2.2.1 (lv_at hl 4 rfl) (lv_at hl 0 rfl) (k := 2) (by omega) (by decide) dw_1388 dw_1389 dw_1391 dw_1392 dw_1393 ?_
  refine lv_aload_n hx hb dw_1394 rfl (lv_at hl 1 rfl) ?_
  refine z_2W (lq_cc C w.2.2.2.2.1) w (z_runW (n := 4) (lq_cc C w.2.2.2.2.1) w.B (mm_L_tells C.2.2.1 l hfl adX oX (xs (i + 1)) (xs (i + 2)) oO hX e1) qcw_tells qst_tells qini_RL qmL_184 ⟨by decide +kernel, by decide +kernel, by decide +kernel⟩ rfl rfl ⟨Nat.le_of_ble_eq_true rfl, Nat.le_of_ble_eq_true rfl⟩ rfl hl.1 rfl (Nat.le_of_ble_eq_true rfl) dw_1395 (lq_rm hcs (by decide) (by decide))) (fun H locs adX2 adM2 hag1 hag2 w => ?_)
  replace hl := lq_ag (hag1 _ (z_ok_lt gX1)) (hag2 _ (z_ok_lt gM)) (hag1 _ (z_ok_lt gO1)) hl
  refine lv_istore (lv' := (5, .int k) :: lq_l adX2 adM2 oX oM oO b i) hx hb dw_1398 hl (by decide) rfl (fun ls hl => ?_)
  refine lv_aload_n hx hb dw_1400 rfl (lv_at hl 3 rfl) ?_
  refine lq_rd C w.2.2.1 (lv_at hl 5 rfl) (lv_at hl 1 rfl) (k := 1) (by omega) (by decide) dw_1401 dw_1402 dw_1404 dw_1405 dw_1406 ?_
  refine lq_rd C w.2.2.1 (lv_at hl 5 rfl) (lv_at hl 1 rfl) (k := 2) (by omega) (by decide) dw_1407 dw_1408 dw_1410 dw_1411 dw_1412 ?_
  refine z_2L (lq_cc C w.swap.2.2.2.2.1) w.swap (z_runV (lq_cc C w.swap.2.2.2.2.1) w.swap.B 11 (mm_X12_tells C.2.2.1 l adM2 oM (xs (i + 1)) (xs (i + 2)) hM e2) md_X12_tells qmL_186 gM (by decide) rfl rfl rfl ⟨Nat.le_of_ble_eq_true rfl, Nat.le_of_ble_eq_true rfl⟩ rfl hl.1 rfl (Nat.le_of_ble_eq_true rfl) dw_1413 (lq_rm2 hcs (by decide) (by decide))) (fun H locs adX3 hag w => ?_)
  replace w := w.swap
  replace hl := lq_ag5 (hag _ (z_ok_lt gX1)) rfl (hag _ (z_ok_lt gO1)) hl
  refine lv_lstore (lv' := (6, .long v) :: (5, .int k) :: lq_l adX3 adM2 oX oM oO b i) hx hb dw_1416 hl (by decide) rfl (fun ls hl => ?_)
  refine lv_aload_n hx hb dw_1418 rfl (lv_at hl 4 rfl) ?_
  refine z_2I (lq_cc C w.swap.2.2.2.2.1) w.swap (z_runV (lq_cc C w.swap.2.2.2.2.1) w.swap.B 11 (mm_X12_thrown C.2.2.1 l adM2 oM hM' e3) md_X12_thrown qmL_105 gM1 (by decide) rfl rfl rfl ⟨Nat.le_of_ble_eq_true rfl, Nat.le_of_ble_eq_true rfl⟩ rfl hl.1 rfl (Nat.le_of_ble_eq_true rfl) dw_1419 (lq_rm3 hcs (by decide) (by decide))) (fun H locs adX4 hag w => ?_)
  replace w := w.swap
  replace hl := lq_ag6 (hag _ (z_ok_lt gX1)) rfl (hag _ (z_ok_lt gO1)) hl
  refine lv_iload hx hb dw_1422 (lv_at hl 1 rfl) ?_
  refine lv_icmp_eq (tgt := 1429) hx hb dw_1424 (by decide) (fun _ => ?_) (fun cn => absurd rfl cn)
  refine lv_iload hx hb dw_1429 (lv_at hl 1 rfl) ?_
  have hl2 : lv_has ls 8 (lq_l adX4 adM2 oX oM oO b i) := lv_sub hl [2, 3, 4, 5, 6] rfl
  have fin : W p l e room_1 s m #[.ref b] below meth c H locs (cells + 1 + 0 + 0) (slots + 6 + 0 + 0) Q (F0 m 1445 ls []) := lv_goto (tgt := 1722) hx hb dw_1445 (by decide) (W.widen (k := cells + 8) (n := slots + 125) (by omega) (by omega) (kk _ _ _ _ _ _ _ hI1 w hl2))
  refine lv_if_ne (tgt := 1445) hx hb dw_1431 (by decide) (fun _ => fin) (fun ck => ?_)
  refine lv_aload_n hx hb dw_1434 rfl (lv_at hl 3 rfl) ?_
  refine lv_iconst (v := (0 : Int32)) hx hb dw_1435 (by decide) ?_
  refine z_lald (lq_cc C w.2.2.2.2.1) w.B gO1 gI1 dw_1436 ?_
  rw [show z_L hX' oO ((0 : Int32)).toNatClampNeg = v from e4 ck]
  refine lv_lload hx hb dw_1437 (lv_at hl 0 rfl) ?_
  refine W.lcmp hx hb dw_1439 ?_
  refine lv_if_eq (tgt := 1445) hx hb dw_1440 (by decide) (fun _ => fin) (fun cn => absurd (lq_cmp v) cn)
set_option maxHeartbeats 4000000 in
set_option maxRecDepth 100000 in
theorem lc_apart (C : lq_C G p s m meth c b L xs) (hfl : l.stackTraces = false) {Inv : z_T → z_T → Prop} {oX oM oO : Nat} (hV : lq_V Inv oX oM oO) {adX adM : Nat → Nat} {hX hM : z_T} {H : Heap} {locs : List Loc} {ls : Array Slot} {cells slots i : Nat} (w : z_2 G s adX adM hX hM H locs) (hI : Inv hX hM) (hi : i + 6 ≤ L) (hcs : cells + 8 ≤ room_1.cells ∧ slots + 125 ≤ room_1.slots) (hl : lv_has ls 8 (lq_l adX adM oX oM oO b i))
    (hop : ∃ (r : Int32) (hM' : z_T), fX11_apart oX (xs (i + 1)) (xs (i + 2)) hX = some r ∧ fX12_apart oM (xs (i + 1)) (xs (i + 2)) hM = some (r, hM') ∧ Inv hX hM')
    (kk : ∀ (adX adM : Nat → Nat) (hX hM : z_T) (H : Heap) (locs : List Loc) (ls : Array Slot), Inv hX hM → z_2 G s adX adM hX hM H locs → lv_has ls 8 (lq_l adX adM oX oM oO b i) → W p l e room_1 s m #[.ref b] below meth c H locs (cells + 8) (slots + 125) Q (F0 m 1722 ls [])) : W p l e room_1 s m #[.ref b] below meth c H locs cells slots Q (F0 m 1448 ls []) := by
  obtain ⟨r, hM', e1, e2, hI1⟩ := hop
  obtain ⟨gX, gM, gO, -⟩ := hV _ _ hI
  obtain ⟨gX1, gM1, gO1, gI1⟩ := hV _ _ hI1
  have hx := C.1.1
  have hb := C.1.2.1
  refine lv_aload_n hx hb dw_1448 rfl (lv_at hl 3 rfl) ?_
  refine lq_rd C w.2.2.1 (lv_at hl 4 rfl) (lv_at hl 0 rfl) (k := 1) (by omega) (by decide) dw_1449 dw_1450 dw_1452 dw_1453 dw_1454 ?_
  refine lq_rd C w.2.2.1 (lv_at hl 4 rfl) (lv_at hl 0 rfl) (k := 2) (by omega) (by decide) dw_1455 dw_1456 dw_1458 dw_1459 dw_1460 ?_
  refine z_2I (lq_cc C w.2.2.2.2.1) w (z_runV (lq_cc C w.2.2.2.2.1) w.B 10 (mm_X11_apart C.2.2.1 l adX oX (xs (i + 1)) (xs (i + 2)) hX e1) md_X11_apart qmL_187 gX (by decide) rfl rfl rfl ⟨Nat.le_of_ble_eq_true rfl, Nat.le_of_ble_eq_true rfl⟩ rfl hl.1 rfl (Nat.le_of_ble_eq_true rfl) dw_1461 (lq_rm hcs (by decide) (by decide))) (fun H locs adM2 hag w => ?_)
  replace hl := lq_ag rfl (hag _ (z_ok_lt gM)) rfl hl
  refine lv_aload_n hx hb dw_1464 rfl (lv_at hl 2 rfl) ?_
  refine lq_rd C w.2.2.1 (lv_at hl 4 rfl) (lv_at hl 0 rfl) (k := 1) (by omega) (by decide) dw_1465 dw_1466 dw_1468 dw_1469 dw_1470 ?_
  refine lq_rd C w.2.2.1 (lv_at hl 4 rfl) (lv_at hl 0 rfl) (k := 2) (by omega) (by decide) dw_1471 dw_1472 dw_1474 dw_1475 dw_1476 ?_
  refine z_2I (lq_cc C w.swap.2.2.2.2.1) w.swap (z_runV (lq_cc C w.swap.2.2.2.2.1) w.swap.B 11 (mm_X12_apart C.2.2.1 l adM2 oM (xs (i + 1)) (xs (i + 2)) hM e2) md_X12_apart qmL_190 gM (by decide) rfl rfl rfl ⟨Nat.le_of_ble_eq_true rfl, Nat.le_of_ble_eq_true rfl⟩ rfl hl.1 rfl (Nat.le_of_ble_eq_true rfl) dw_1477 (lq_rm2 hcs (by decide) (by decide))) (fun H locs adX2 hag w => ?_)
  replace w := w.swap
  replace hl := lq_ag (hag _ (z_ok_lt gX1)) rfl (hag _ (z_ok_lt gO1)) hl
  refine lv_icmp_eq (tgt := 1722) hx hb dw_1480 (by decide) (fun _ => ?_) (fun cn => absurd rfl cn)
  refine W.widen (k := cells + 8) (n := slots + 125) (by omega) (by omega) ?_
  exact kk _ _ _ _ _ _ _ hI1 w hl
set_option maxHeartbeats 4000000 in
set_option maxRecDepth 100000 in
theorem lc_nights (C : lq_C G p s m meth c b L xs) (hfl : l.stackTraces = false) {Inv : z_T → z_T → Prop} {oX oM oO : Nat} (hV : lq_V Inv oX oM oO) {adX adM : Nat → Nat} {hX hM : z_T} {H : Heap} {locs : List Loc} {ls : Array Slot} {cells slots i : Nat} (w : z_2 G s adX adM hX hM H locs) (hI : Inv hX hM) (hi : i + 6 ≤ L) (hcs : cells + 8 ≤ room_1.cells ∧ slots + 125 ≤ room_1.slots) (hl : lv_has ls 8 (lq_l adX adM oX oM oO b i))
    (hop : ∃ (r : Int32) (hX' hM' : z_T), fX11_nights oX  hX = some (r, hX') ∧ fX12_nights oM  hM = some (r, hM') ∧ Inv hX' hM')
    (kk : ∀ (adX adM : Nat → Nat) (hX hM : z_T) (H : Heap) (locs : List Loc) (ls : Array Slot), Inv hX hM → z_2 G s adX adM hX hM H locs → lv_has ls 8 (lq_l adX adM oX oM oO b i) → W p l e room_1 s m #[.ref b] below meth c H locs (cells + 8) (slots + 125) Q (F0 m 1722 ls [])) : W p l e room_1 s m #[.ref b] below meth c H locs cells slots Q (F0 m 1485 ls []) := by
  obtain ⟨r, hX', hM', e1, e2, hI1⟩ := hop
  obtain ⟨gX, gM, gO, -⟩ := hV _ _ hI
  obtain ⟨gX1, gM1, gO1, gI1⟩ := hV _ _ hI1
  have hx := C.1.1
  have hb := C.1.2.1
  refine lv_aload_n hx hb dw_1485 rfl (lv_at hl 3 rfl) ?_
  refine z_2I (lq_cc C w.2.2.2.2.1) w (z_runV (lq_cc C w.2.2.2.2.1) w.B 10 (mm_X11_nights C.2.2.1 l adX oX  hX e1) md_X11_nights qmL_191 gX (by decide) rfl rfl rfl ⟨Nat.le_of_ble_eq_true rfl, Nat.le_of_ble_eq_true rfl⟩ rfl hl.1 rfl (Nat.le_of_ble_eq_true rfl) dw_1486 (lq_rm hcs (by decide) (by decide))) (fun H locs adM2 hag w => ?_)
  replace hl := lq_ag rfl (hag _ (z_ok_lt gM)) rfl hl
  refine lv_aload_n hx hb dw_1489 rfl (lv_at hl 2 rfl) ?_
  refine z_2I (lq_cc C w.swap.2.2.2.2.1) w.swap (z_runV (lq_cc C w.swap.2.2.2.2.1) w.swap.B 11 (mm_X12_nights C.2.2.1 l adM2 oM  hM e2) md_X12_nights qmL_194 gM (by decide) rfl rfl rfl ⟨Nat.le_of_ble_eq_true rfl, Nat.le_of_ble_eq_true rfl⟩ rfl hl.1 rfl (Nat.le_of_ble_eq_true rfl) dw_1490 (lq_rm2 hcs (by decide) (by decide))) (fun H locs adX2 hag w => ?_)
  replace w := w.swap
  replace hl := lq_ag (hag _ (z_ok_lt gX1)) rfl (hag _ (z_ok_lt gO1)) hl
  refine lv_icmp_eq (tgt := 1722) hx hb dw_1493 (by decide) (fun _ => ?_) (fun cn => absurd rfl cn)
  refine W.widen (k := cells + 8) (n := slots + 125) (by omega) (by omega) ?_
  exact kk _ _ _ _ _ _ _ hI1 w hl
set_option maxHeartbeats 4000000 in
set_option maxRecDepth 100000 in
theorem lc_judged (C : lq_C G p s m meth c b L xs) (hfl : l.stackTraces = false) {Inv : z_T → z_T → Prop} {oX oM oO : Nat} (hV : lq_V Inv oX oM oO) {adX adM : Nat → Nat} {hX hM : z_T} {H : Heap} {locs : List Loc} {ls : Array Slot} {cells slots i : Nat} (w : z_2 G s adX adM hX hM H locs) (hI : Inv hX hM) (hi : i + 6 ≤ L) (hcs : cells + 8 ≤ room_1.cells ∧ slots + 125 ≤ room_1.slots) (hl : lv_has ls 8 (lq_l adX adM oX oM oO b i))
    (hop : ∃ (r : Int32) (hM' : z_T), fX11_judged oX (xs (i + 1)) hX = some r ∧ fX12_judged oM (xs (i + 1)) hM = some (r, hM') ∧ Inv hX hM')
    (kk : ∀ (adX adM : Nat → Nat) (hX hM : z_T) (H : Heap) (locs : List Loc) (ls : Array Slot), Inv hX hM → z_2 G s adX adM hX hM H locs → lv_has ls 8 (lq_l adX adM oX oM oO b i) → W p l e room_1 s m #[.ref b] below meth c H locs (cells + 8) (slots + 125) Q (F0 m 1722 ls [])) : W p l e room_1 s m #[.ref b] below meth c H locs cells slots Q (F0 m 1498 ls []) := by
  obtain ⟨r, hM', e1, e2, hI1⟩ := hop
  obtain ⟨gX, gM, gO, -⟩ := hV _ _ hI
  obtain ⟨gX1, gM1, gO1, gI1⟩ := hV _ _ hI1
  have hx := C.1.1
  have hb := C.1.2.1
  refine lv_aload_n hx hb dw_1498 rfl (lv_at hl 3 rfl) ?_
  refine lq_rd C w.2.2.1 (lv_at hl 4 rfl) (lv_at hl 0 rfl) (k := 1) (by omega) (by decide) dw_1499 dw_1500 dw_1502 dw_1503 dw_1504 ?_
  refine z_2I (lq_cc C w.2.2.2.2.1) w (z_runV (lq_cc C w.2.2.2.2.1) w.B 10 (mm_X11_judged C.2.2.1 l adX oX (xs (i + 1)) hX e1) md_X11_judged qmL_195 gX (by decide) rfl rfl rfl ⟨Nat.le_of_ble_eq_true rfl, Nat.le_of_ble_eq_true rfl⟩ rfl hl.1 rfl (Nat.le_of_ble_eq_true rfl) dw_1505 (lq_rm hcs (by decide) (by decide))) (fun H locs adM2 hag w => ?_)
  replace hl := lq_ag rfl (hag _ (z_ok_lt gM)) rfl hl
  refine lv_aload_n hx hb dw_1508 rfl (lv_at hl 2 rfl) ?_
  refine lq_rd C w.2.2.1 (lv_at hl 4 rfl) (lv_at hl 0 rfl) (k := 1) (by omega) (by decide) dw_1509 dw_1510 dw_1512 dw_1513 dw_1514 ?_
  refine z_2I (lq_cc C w.swap.2.2.2.2.1) w.swap (z_runV (lq_cc C w.swap.2.2.2.2.1) w.swap.B 11 (mm_X12_judged C.2.2.1 l adM2 oM (xs (i + 1)) hM e2) md_X12_judged qmL_198 gM (by decide) rfl rfl rfl ⟨Nat.le_of_ble_eq_true rfl, Nat.le_of_ble_eq_true rfl⟩ rfl hl.1 rfl (Nat.le_of_ble_eq_true rfl) dw_1515 (lq_rm2 hcs (by decide) (by decide))) (fun H locs adX2 hag w => ?_)
  replace w := w.swap
  replace hl := lq_ag (hag _ (z_ok_lt gX1)) rfl (hag _ (z_ok_lt gO1)) hl
  refine lv_icmp_eq (tgt := 1722) hx hb dw_1518 (by decide) (fun _ => ?_) (fun cn => absurd rfl cn)
  refine W.widen (k := cells + 8) (n := slots + 125) (by omega) (by omega) ?_
  exact kk _ _ _ _ _ _ _ hI1 w hl
set_option maxHeartbeats 4000000 in
set_option maxRecDepth 100000 in
theorem lc_drawn (C : lq_C G p s m meth c b L xs) (hfl : l.stackTraces = false) {Inv : z_T → z_T → Prop} {oX oM oO : Nat} (hV : lq_V Inv oX oM oO) {adX adM : Nat → Nat} {hX hM : z_T} {H : Heap} {locs : List Loc} {ls : Array Slot} {cells slots i : Nat} (w : z_2 G s adX adM hX hM H locs) (hI : Inv hX hM) (hi : i + 6 ≤ L) (hcs : cells + 8 ≤ room_1.cells ∧ slots + 125 ≤ room_1.slots) (hl : lv_has ls 8 (lq_l adX adM oX oM oO b i))
    (hop : ∃ (r : Int32) (hX' hM' : z_T), fX11_drawn oX (xs (i + 1)) (xs (i + 2)) hX = some (r, hX') ∧ fX12_drawn oM (xs (i + 1)) (xs (i + 2)) hM = some (r, hM') ∧ Inv hX' hM')
    (kk : ∀ (adX adM : Nat → Nat) (hX hM : z_T) (H : Heap) (locs : List Loc) (ls : Array Slot), Inv hX hM → z_2 G s adX adM hX hM H locs → lv_has ls 8 (lq_l adX adM oX oM oO b i) → W p l e room_1 s m #[.ref b] below meth c H locs (cells + 8) (slots + 125) Q (F0 m 1722 ls [])) : W p l e room_1 s m #[.ref b] below meth c H locs cells slots Q (F0 m 1523 ls []) := by
  obtain ⟨r, hX', hM', e1, e2, hI1⟩ := hop
  obtain ⟨gX, gM, gO, -⟩ := hV _ _ hI
  obtain ⟨gX1, gM1, gO1, gI1⟩ := hV _ _ hI1
  have hx := C.1.1
  have hb := C.1.2.1
  refine lv_aload_n hx hb dw_1523 rfl (lv_at hl 3 rfl) ?_
  refine lq_rd C w.2.2.1 (lv_at hl 4 rfl) (lv_at hl 0 rfl) (k := 1) (by omega) (by decide) dw_1524 dw_1525 dw_1527 dw_1528 dw_1529 ?_
  refine lq_rd C w.2.2.1 (lv_at hl 4 rfl) (lv_at hl 0 rfl) (k := 2) (by omega) (by decide) dw_1530 dw_1531 dw_1533 dw_1534 dw_1535 ?_
  refine z_2I (lq_cc C w.2.2.2.2.1) w (z_runV (lq_cc C w.2.2.2.2.1) w.B 10 (mm_X11_drawn C.2.2.1 l adX oX (xs (i + 1)) (xs (i + 2)) hX e1) md_X11_drawn qmL_199 gX (by decide) rfl rfl rfl ⟨Nat.le_of_ble_eq_true rfl, Nat.le_of_ble_eq_true rfl⟩ rfl hl.1 rfl (Nat.le_of_ble_eq_true rfl) dw_1536 (lq_rm hcs (by decide) (by decide))) (fun H locs adM2 hag w => ?_)
  replace hl := lq_ag rfl (hag _ (z_ok_lt gM)) rfl hl
  refine lv_aload_n hx hb dw_1539 rfl (lv_at hl 2 rfl) ?_
  refine lq_rd C w.2.2.1 (lv_at hl 4 rfl) (lv_at hl 0 rfl) (k := 1) (by omega) (by decide) dw_1540 dw_1541 dw_1543 dw_1544 dw_1545 ?_
  refine lq_rd C w.2.2.1 (lv_at hl 4 rfl) (lv_at hl 0 rfl) (k := 2) (by omega) (by decide) dw_1546 dw_1547 dw_1549 dw_1550 dw_1551 ?_
  refine z_2I (lq_cc C w.swap.2.2.2.2.1) w.swap (z_runV (lq_cc C w.swap.2.2.2.2.1) w.swap.B 11 (mm_X12_drawn C.2.2.1 l adM2 oM (xs (i + 1)) (xs (i + 2)) hM e2) md_X12_drawn qmL_202 gM (by decide) rfl rfl rfl ⟨Nat.le_of_ble_eq_true rfl, Nat.le_of_ble_eq_true rfl⟩ rfl hl.1 rfl (Nat.le_of_ble_eq_true rfl) dw_1552 (lq_rm2 hcs (by decide) (by decide))) (fun H locs adX2 hag w => ?_)
  replace w := w.swap
  replace hl := lq_ag (hag _ (z_ok_lt gX1)) rfl (hag _ (z_ok_lt gO1)) hl
  refine lv_icmp_eq (tgt := 1722) hx hb dw_1555 (by decide) (fun _ => ?_) (fun cn => absurd rfl cn)
  refine W.widen (k := cells + 8) (n := slots + 125) (by omega) (by omega) ?_
  exact kk _ _ _ _ _ _ _ hI1 w hl
set_option maxHeartbeats 4000000 in
set_option maxRecDepth 100000 in
theorem lc_wrongs (C : lq_C G p s m meth c b L xs) (hfl : l.stackTraces = false) {Inv : z_T → z_T → Prop} {oX oM oO : Nat} (hV : lq_V Inv oX oM oO) {adX adM : Nat → Nat} {hX hM : z_T} {H : Heap} {locs : List Loc} {ls : Array Slot} {cells slots i : Nat} (w : z_2 G s adX adM hX hM H locs) (hI : Inv hX hM) (hi : i + 6 ≤ L) (hcs : cells + 8 ≤ room_1.cells ∧ slots + 125 ≤ room_1.slots) (hl : lv_has ls 8 (lq_l adX adM oX oM oO b i))
    (hop : ∃ (r : Int32) (hX' hM' : z_T), fX11_wrongs oX (xs (i + 1)) (xs (i + 2)) (xs (i + 3)) hX = some (r, hX') ∧ fX12_wrongs oM (xs (i + 1)) (xs (i + 2)) (xs (i + 3)) hM = some (r, hM') ∧ Inv hX' hM')
    (kk : ∀ (adX adM : Nat → Nat) (hX hM : z_T) (H : Heap) (locs : List Loc) (ls : Array Slot), Inv hX hM → z_2 G s adX adM hX hM H locs → lv_has ls 8 (lq_l adX adM oX oM oO b i) → W p l e room_1 s m #[.ref b] below meth c H locs (cells + 8) (slots + 125) Q (F0 m 1722 ls [])) : W p l e room_1 s m #[.ref b] below meth c H locs cells slots Q (F0 m 1560 ls []) := by
  obtain ⟨r, hX', hM', e1, e2, hI1⟩ := hop
  obtain ⟨gX, gM, gO, -⟩ := hV _ _ hI
  obtain ⟨gX1, gM1, gO1, gI1⟩ := hV _ _ hI1
  have hx := C.1.1
  have hb := C.1.2.1
  refine lv_aload_n hx hb dw_1560 rfl (lv_at hl 3 rfl) ?_
  refine lq_rd C w.2.2.1 (lv_at hl 4 rfl) (lv_at hl 0 rfl) (k := 1) (by omega) (by decide) dw_1561 dw_1562 dw_1564 dw_1565 dw_1566 ?_
  refine lq_rd C w.2.2.1 (lv_at hl 4 rfl) (lv_at hl 0 rfl) (k := 2) (by omega) (by decide) dw_1567 dw_1568 dw_1570 dw_1571 dw_1572 ?_
  refine lq_rd C w.2.2.1 (lv_at hl 4 rfl) (lv_at hl 0 rfl) (k := 3) (by omega) (by decide) dw_1573 dw_1574 dw_1576 dw_1577 dw_1578 ?_
  refine z_2I (lq_cc C w.2.2.2.2.1) w (z_runV (lq_cc C w.2.2.2.2.1) w.B 10 (mm_X11_wrongs C.2.2.1 l adX oX (xs (i + 1)) (xs (i + 2)) (xs (i + 3)) hX e1) md_X11_wrongs qmL_203 gX (by decide) rfl rfl rfl ⟨Nat.le_of_ble_eq_true rfl, Nat.le_of_ble_eq_true rfl⟩ rfl hl.1 rfl (Nat.le_of_ble_eq_true rfl) dw_1579 (lq_rm hcs (by decide) (by decide))) (fun H locs adM2 hag w => ?_)
  replace hl := lq_ag rfl (hag _ (z_ok_lt gM)) rfl hl
  refine lv_aload_n hx hb dw_1582 rfl (lv_at hl 2 rfl) ?_
  refine lq_rd C w.2.2.1 (lv_at hl 4 rfl) (lv_at hl 0 rfl) (k := 1) (by omega) (by decide) dw_1583 dw_1584 dw_1586 dw_1587 dw_1588 ?_
  refine lq_rd C w.2.2.1 (lv_at hl 4 rfl) (lv_at hl 0 rfl) (k := 2) (by omega) (by decide) dw_1589 dw_1590 dw_1592 dw_1593 dw_1594 ?_
  refine lq_rd C w.2.2.1 (lv_at hl 4 rfl) (lv_at hl 0 rfl) (k := 3) (by omega) (by decide) dw_1595 dw_1596 dw_1598 dw_1599 dw_1600 ?_
  refine z_2I (lq_cc C w.swap.2.2.2.2.1) w.swap (z_runV (lq_cc C w.swap.2.2.2.2.1) w.swap.B 11 (mm_X12_wrongs C.2.2.1 l adM2 oM (xs (i + 1)) (xs (i + 2)) (xs (i + 3)) hM e2) md_X12_wrongs qmL_207 gM (by decide) rfl rfl rfl ⟨Nat.le_of_ble_eq_true rfl, Nat.le_of_ble_eq_true rfl⟩ rfl hl.1 rfl (Nat.le_of_ble_eq_true rfl) dw_1601 (lq_rm2 hcs (by decide) (by decide))) (fun H locs adX2 hag w => ?_)
  replace w := w.swap
  replace hl := lq_ag (hag _ (z_ok_lt gX1)) rfl (hag _ (z_ok_lt gO1)) hl
  refine lv_icmp_eq (tgt := 1722) hx hb dw_1604 (by decide) (fun _ => ?_) (fun cn => absurd rfl cn)
  refine W.widen (k := cells + 8) (n := slots + 125) (by omega) (by omega) ?_
  exact kk _ _ _ _ _ _ _ hI1 w hl
set_option maxHeartbeats 4000000 in
set_option maxRecDepth 100000 in
theorem lc_sentence (C : lq_C G p s m meth c b L xs) (hfl : l.stackTraces = false) {Inv : z_T → z_T → Prop} {oX oM oO : Nat} (hV : lq_V Inv oX oM oO) {adX adM : Nat → Nat} {hX hM : z_T} {H : Heap} {locs : List Loc} {ls : Array Slot} {cells slots i : Nat} (w : z_2 G s adX adM hX hM H locs) (hI : Inv hX hM) (hi : i + 6 ≤ L) (hcs : cells + 8 ≤ room_1.cells ∧ slots + 125 ≤ room_1.slots) (hl : lv_has ls 8 (lq_l adX adM oX oM oO b i))
    (hop : ∃ (r : Int32) (hX' hM' : z_T), fX11_sentence oX  hX = some (r, hX') ∧ fX12_sentence oM  hM = some (r, hM') ∧ Inv hX' hM')
    (kk : ∀ (adX adM : Nat → Nat) (hX hM : z_T) (H : Heap) (locs : List Loc) (ls : Array Slot), Inv hX hM → z_2 G s adX adM hX hM H locs → lv_has ls 8 (lq_l adX adM oX oM oO b i) → W p l e room_1 s m #[.ref b] below meth c H locs (cells + 8) (slots + 125) Q (F0 m 1722 ls [])) : W p l e room_1 s m #[.ref b] below meth c H locs cells slots Q (F0 m 1609 ls []) := by
  obtain ⟨r, hX', hM', e1, e2, hI1⟩ := hop
  obtain ⟨gX, gM, gO, -⟩ := hV _ _ hI
  obtain ⟨gX1, gM1, gO1, gI1⟩ := hV _ _ hI1
  have hx := C.1.1
  have hb := C.1.2.1
  refine lv_aload_n hx hb dw_1609 rfl (lv_at hl 3 rfl) ?_
  refine z_2I (lq_cc C w.2.2.2.2.1) w (z_runV (lq_cc C w.2.2.2.2.1) w.B 10 (mm_X11_sentence C.2.2.1 l adX oX  hX e1) md_X11_sentence qmL_208 gX (by decide) rfl rfl rfl ⟨Nat.le_of_ble_eq_true rfl, Nat.le_of_ble_eq_true rfl⟩ rfl hl.1 rfl (Nat.le_of_ble_eq_true rfl) dw_1610 (lq_rm hcs (by decide) (by decide))) (fun H locs adM2 hag w => ?_)
  replace hl := lq_ag rfl (hag _ (z_ok_lt gM)) rfl hl
  refine lv_aload_n hx hb dw_1613 rfl (lv_at hl 2 rfl) ?_
  refine z_2I (lq_cc C w.swap.2.2.2.2.1) w.swap (z_runV (lq_cc C w.swap.2.2.2.2.1) w.swap.B 11 (mm_X12_sentence C.2.2.1 l adM2 oM  hM e2) md_X12_sentence qmL_211 gM (by decide) rfl rfl rfl ⟨Nat.le_of_ble_eq_true rfl, Nat.le_of_ble_eq_true rfl⟩ rfl hl.1 rfl (Nat.le_of_ble_eq_true rfl) dw_1614 (lq_rm2 hcs (by decide) (by decide))) (fun H locs adX2 hag w => ?_)
  replace w := w.swap
  replace hl := lq_ag (hag _ (z_ok_lt gX1)) rfl (hag _ (z_ok_lt gO1)) hl
  refine lv_icmp_eq (tgt := 1722) hx hb dw_1617 (by decide) (fun _ => ?_) (fun cn => absurd rfl cn)
  refine W.widen (k := cells + 8) (n := slots + 125) (by omega) (by omega) ?_
  exact kk _ _ _ _ _ _ _ hI1 w hl
set_option maxHeartbeats 4000000 in
set_option maxRecDepth 100000 in
theorem lc_said (C : lq_C G p s m meth c b L xs) (hfl : l.stackTraces = false) {Inv : z_T → z_T → Prop} {oX oM oO : Nat} (hV : lq_V Inv oX oM oO) {adX adM : Nat → Nat} {hX hM : z_T} {H : Heap} {locs : List Loc} {ls : Array Slot} {cells slots i : Nat} (w : z_2 G s adX adM hX hM H locs) (hI : Inv hX hM) (hi : i + 6 ≤ L) (hcs : cells + 8 ≤ room_1.cells ∧ slots + 125 ≤ room_1.slots) (hl : lv_has ls 8 (lq_l adX adM oX oM oO b i))
    (hop : ∃ (r : Int32) (hX' hM' : z_T), fX11_said oX (xs (i + 1)) hX = some (r, hX') ∧ fX12_said oM (xs (i + 1)) hM = some (r, hM') ∧ Inv hX' hM')
    (kk : ∀ (adX adM : Nat → Nat) (hX hM : z_T) (H : Heap) (locs : List Loc) (ls : Array Slot), Inv hX hM → z_2 G s adX adM hX hM H locs → lv_has ls 8 (lq_l adX adM oX oM oO b i) → W p l e room_1 s m #[.ref b] below meth c H locs (cells + 8) (slots + 125) Q (F0 m 1722 ls [])) : W p l e room_1 s m #[.ref b] below meth c H locs cells slots Q (F0 m 1622 ls []) := by
  obtain ⟨r, hX', hM', e1, e2, hI1⟩ := hop
  obtain ⟨gX, gM, gO, -⟩ := hV _ _ hI
  obtain ⟨gX1, gM1, gO1, gI1⟩ := hV _ _ hI1
  have hx := C.1.1
  have hb := C.1.2.1
  refine lv_aload_n hx hb dw_1622 rfl (lv_at hl 3 rfl) ?_
  refine lq_rd C w.2.2.1 (lv_at hl 4 rfl) (lv_at hl 0 rfl) (k := 1) (by omega) (by decide) dw_1623 dw_1624 dw_1626 dw_1627 dw_1628 ?_
  refine z_2I (lq_cc C w.2.2.2.2.1) w (z_runV (lq_cc C w.2.2.2.2.1) w.B 10 (mm_X11_said C.2.2.1 l adX oX (xs (i + 1)) hX e1) md_X11_said qmL_212 gX (by decide) rfl rfl rfl ⟨Nat.le_of_ble_eq_true rfl, Nat.le_of_ble_eq_true rfl⟩ rfl hl.1 rfl (Nat.le_of_ble_eq_true rfl) dw_1629 (lq_rm hcs (by decide) (by decide))) (fun H locs adM2 hag w => ?_)
  replace hl := lq_ag rfl (hag _ (z_ok_lt gM)) rfl hl
  refine lv_aload_n hx hb dw_1632 rfl (lv_at hl 2 rfl) ?_
  refine lq_rd C w.2.2.1 (lv_at hl 4 rfl) (lv_at hl 0 rfl) (k := 1) (by omega) (by decide) dw_1633 dw_1634 dw_1636 dw_1637 dw_1638 ?_
  refine z_2I (lq_cc C w.swap.2.2.2.2.1) w.swap (z_runV (lq_cc C w.swap.2.2.2.2.1) w.swap.B 11 (mm_X12_said C.2.2.1 l adM2 oM (xs (i + 1)) hM e2) md_X12_said qmL_215 gM (by decide) rfl rfl rfl ⟨Nat.le_of_ble_eq_true rfl, Nat.le_of_ble_eq_true rfl⟩ rfl hl.1 rfl (Nat.le_of_ble_eq_true rfl) dw_1639 (lq_rm2 hcs (by decide) (by decide))) (fun H locs adX2 hag w => ?_)
  replace w := w.swap
  replace hl := lq_ag (hag _ (z_ok_lt gX1)) rfl (hag _ (z_ok_lt gO1)) hl
  refine lv_icmp_eq (tgt := 1722) hx hb dw_1642 (by decide) (fun _ => ?_) (fun cn => absurd rfl cn)
  refine W.widen (k := cells + 8) (n := slots + 125) (by omega) (by omega) ?_
  exact kk _ _ _ _ _ _ _ hI1 w hl
set_option maxHeartbeats 4000000 in
set_option maxRecDepth 100000 in
theorem lc_image (C : lq_C G p s m meth c b L xs) (hfl : l.stackTraces = false) {Inv : z_T → z_T → Prop} {oX oM oO : Nat} (hV : lq_V Inv oX oM oO) {adX adM : Nat → Nat} {hX hM : z_T} {H : Heap} {locs : List Loc} {ls : Array Slot} {cells slots i : Nat} (w : z_2 G s adX adM hX hM H locs) (hI : Inv hX hM) (hi : i + 6 ≤ L) (hcs : cells + 8 ≤ room_1.cells ∧ slots + 125 ≤ room_1.slots) (hl : lv_has ls 8 (lq_l adX adM oX oM oO b i))
    (hop : ∃ (r : Int32) (hX' hM' : z_T), fX11_image oX (xs (i + 1)) hX = some (r, hX') ∧ fX12_image oM (xs (i + 1)) hM = some (r, hM') ∧ Inv hX' hM')
    (kk : ∀ (adX adM : Nat → Nat) (hX hM : z_T) (H : Heap) (locs : List Loc) (ls : Array Slot), Inv hX hM → z_2 G s adX adM hX hM H locs → lv_has ls 8 (lq_l adX adM oX oM oO b i) → W p l e room_1 s m #[.ref b] below meth c H locs (cells + 8) (slots + 125) Q (F0 m 1722 ls [])) : W p l e room_1 s m #[.ref b] below meth c H locs cells slots Q (F0 m 1647 ls []) := by
  obtain ⟨r, hX', hM', e1, e2, hI1⟩ := hop
  obtain ⟨gX, gM, gO, -⟩ := hV _ _ hI
  obtain ⟨gX1, gM1, gO1, gI1⟩ := hV _ _ hI1
  have hx := C.1.1
  have hb := C.1.2.1
  refine lv_aload_n hx hb dw_1647 rfl (lv_at hl 3 rfl) ?_
  refine lq_rd C w.2.2.1 (lv_at hl 4 rfl) (lv_at hl 0 rfl) (k := 1) (by omega) (by decide) dw_1648 dw_1649 dw_1651 dw_1652 dw_1653 ?_
  refine z_2I (lq_cc C w.2.2.2.2.1) w (z_runV (lq_cc C w.2.2.2.2.1) w.B 10 (mm_X11_image C.2.2.1 l adX oX (xs (i + 1)) hX e1) md_X11_image qmL_216 gX (by decide) rfl rfl rfl ⟨Nat.le_of_ble_eq_true rfl, Nat.le_of_ble_eq_true rfl⟩ rfl hl.1 rfl (Nat.le_of_ble_eq_true rfl) dw_1654 (lq_rm hcs (by decide) (by decide))) (fun H locs adM2 hag w => ?_)
  replace hl := lq_ag rfl (hag _ (z_ok_lt gM)) rfl hl
  refine lv_aload_n hx hb dw_1657 rfl (lv_at hl 2 rfl) ?_
  refine lq_rd C w.2.2.1 (lv_at hl 4 rfl) (lv_at hl 0 rfl) (k := 1) (by omega) (by decide) dw_1658 dw_1659 dw_1661 dw_1662 dw_1663 ?_
  refine z_2I (lq_cc C w.swap.2.2.2.2.1) w.swap (z_runV (lq_cc C w.swap.2.2.2.2.1) w.swap.B 11 (mm_X12_image C.2.2.1 l adM2 oM (xs (i + 1)) hM e2) md_X12_image qmL_219 gM (by decide) rfl rfl rfl ⟨Nat.le_of_ble_eq_true rfl, Nat.le_of_ble_eq_true rfl⟩ rfl hl.1 rfl (Nat.le_of_ble_eq_true rfl) dw_1664 (lq_rm2 hcs (by decide) (by decide))) (fun H locs adX2 hag w => ?_)
  replace w := w.swap
  replace hl := lq_ag (hag _ (z_ok_lt gX1)) rfl (hag _ (z_ok_lt gO1)) hl
  refine lv_icmp_eq (tgt := 1722) hx hb dw_1667 (by decide) (fun _ => ?_) (fun cn => absurd rfl cn)
  refine W.widen (k := cells + 8) (n := slots + 125) (by omega) (by omega) ?_
  exact kk _ _ _ _ _ _ _ hI1 w hl
set_option maxHeartbeats 4000000 in
set_option maxRecDepth 100000 in
theorem lc_restore (C : lq_C G p s m meth c b L xs) (hfl : l.stackTraces = false) {Inv : z_T → z_T → Prop} {oX oM oO : Nat} (hV : lq_V Inv oX oM oO) {adX adM : Nat → Nat} {hX hM : z_T} {H : Heap} {locs : List Loc} {ls : Array Slot} {cells slots i : Nat} (w : z_2 G s adX adM hX hM H locs) (hI : Inv hX hM) (hi : i + 6 ≤ L) (hcs : cells + 8 ≤ room_1.cells ∧ slots + 125 ≤ room_1.slots) (hl : lv_has ls 8 (lq_l adX adM oX oM oO b i))
    (hop : ∃ (r : Int32) (hX' hM' : z_T), fX11_restore oX (xs (i + 1)) hX = some (r, hX') ∧ fX12_restore oM (xs (i + 1)) hM = some (r, hM') ∧ Inv hX' hM')
    (kk : ∀ (adX adM : Nat → Nat) (hX hM : z_T) (H : Heap) (locs : List Loc) (ls : Array Slot), Inv hX hM → z_2 G s adX adM hX hM H locs → lv_has ls 8 (lq_l adX adM oX oM oO b i) → W p l e room_1 s m #[.ref b] below meth c H locs (cells + 8) (slots + 125) Q (F0 m 1722 ls [])) : W p l e room_1 s m #[.ref b] below meth c H locs cells slots Q (F0 m 1672 ls []) := by
  obtain ⟨r, hX', hM', e1, e2, hI1⟩ := hop
  obtain ⟨gX, gM, gO, -⟩ := hV _ _ hI
  obtain ⟨gX1, gM1, gO1, gI1⟩ := hV _ _ hI1
  have hx := C.1.1
  have hb := C.1.2.1
  refine lv_aload_n hx hb dw_1672 rfl (lv_at hl 3 rfl) ?_
  refine lq_rd C w.2.2.1 (lv_at hl 4 rfl) (lv_at hl 0 rfl) (k := 1) (by omega) (by decide) dw_1673 dw_1674 dw_1676 dw_1677 dw_1678 ?_
  refine z_2I (lq_cc C w.2.2.2.2.1) w (z_runV (lq_cc C w.2.2.2.2.1) w.B 10 (mm_X11_restore C.2.2.1 l adX oX (xs (i + 1)) hX e1) md_X11_restore qmL_220 gX (by decide) rfl rfl rfl ⟨Nat.le_of_ble_eq_true rfl, Nat.le_of_ble_eq_true rfl⟩ rfl hl.1 rfl (Nat.le_of_ble_eq_true rfl) dw_1679 (lq_rm hcs (by decide) (by decide))) (fun H locs adM2 hag w => ?_)
  replace hl := lq_ag rfl (hag _ (z_ok_lt gM)) rfl hl
  refine lv_aload_n hx hb dw_1682 rfl (lv_at hl 2 rfl) ?_
  refine lq_rd C w.2.2.1 (lv_at hl 4 rfl) (lv_at hl 0 rfl) (k := 1) (by omega) (by decide) dw_1683 dw_1684 dw_1686 dw_1687 dw_1688 ?_
  refine z_2I (lq_cc C w.swap.2.2.2.2.1) w.swap (z_runV (lq_cc C w.swap.2.2.2.2.1) w.swap.B 11 (mm_X12_restore C.2.2.1 l adM2 oM (xs (i + 1)) hM e2) md_X12_restore qmL_223 gM (by decide) rfl rfl rfl ⟨Nat.le_of_ble_eq_true rfl, Nat.le_of_ble_eq_true rfl⟩ rfl hl.1 rfl (Nat.le_of_ble_eq_true rfl) dw_1689 (lq_rm2 hcs (by decide) (by decide))) (fun H locs adX2 hag w => ?_)
  replace w := w.swap
  replace hl := lq_ag (hag _ (z_ok_lt gX1)) rfl (hag _ (z_ok_lt gO1)) hl
  refine lv_icmp_eq (tgt := 1722) hx hb dw_1692 (by decide) (fun _ => ?_) (fun cn => absurd rfl cn)
  refine W.widen (k := cells + 8) (n := slots + 125) (by omega) (by omega) ?_
  exact kk _ _ _ _ _ _ _ hI1 w hl
set_option maxHeartbeats 4000000 in
set_option maxRecDepth 100000 in
theorem lc_count (C : lq_C G p s m meth c b L xs) (hfl : l.stackTraces = false) {Inv : z_T → z_T → Prop} {oX oM oO : Nat} (hV : lq_V Inv oX oM oO) {adX adM : Nat → Nat} {hX hM : z_T} {H : Heap} {locs : List Loc} {ls : Array Slot} {cells slots i : Nat} (w : z_2 G s adX adM hX hM H locs) (hI : Inv hX hM) (hi : i + 6 ≤ L) (hcs : cells + 8 ≤ room_1.cells ∧ slots + 125 ≤ room_1.slots) (hl : lv_has ls 8 (lq_l adX adM oX oM oO b i))
    (hop : ∃ (r : Int32) (hM' : z_T), fX11_count oX (xs (i + 1)) hX = some r ∧ fX12_count oM (xs (i + 1)) hM = some (r, hM') ∧ Inv hX hM')
    (kk : ∀ (adX adM : Nat → Nat) (hX hM : z_T) (H : Heap) (locs : List Loc) (ls : Array Slot), Inv hX hM → z_2 G s adX adM hX hM H locs → lv_has ls 8 (lq_l adX adM oX oM oO b i) → W p l e room_1 s m #[.ref b] below meth c H locs (cells + 8) (slots + 125) Q (F0 m 1722 ls [])) : W p l e room_1 s m #[.ref b] below meth c H locs cells slots Q (F0 m 1697 ls []) := by
  obtain ⟨r, hM', e1, e2, hI1⟩ := hop
  obtain ⟨gX, gM, gO, -⟩ := hV _ _ hI
  obtain ⟨gX1, gM1, gO1, gI1⟩ := hV _ _ hI1
  have hx := C.1.1
  have hb := C.1.2.1
  refine lv_aload_n hx hb dw_1697 rfl (lv_at hl 3 rfl) ?_
  refine lq_rd C w.2.2.1 (lv_at hl 4 rfl) (lv_at hl 0 rfl) (k := 1) (by omega) (by decide) dw_1698 dw_1699 dw_1701 dw_1702 dw_1703 ?_
  refine z_2I (lq_cc C w.2.2.2.2.1) w (z_runV (lq_cc C w.2.2.2.2.1) w.B 10 (mm_X11_count C.2.2.1 l adX oX (xs (i + 1)) hX e1) md_X11_count qmL_224 gX (by decide) rfl rfl rfl ⟨Nat.le_of_ble_eq_true rfl, Nat.le_of_ble_eq_true rfl⟩ rfl hl.1 rfl (Nat.le_of_ble_eq_true rfl) dw_1704 (lq_rm hcs (by decide) (by decide))) (fun H locs adM2 hag w => ?_)
  replace hl := lq_ag rfl (hag _ (z_ok_lt gM)) rfl hl
  refine lv_aload_n hx hb dw_1707 rfl (lv_at hl 2 rfl) ?_
  refine lq_rd C w.2.2.1 (lv_at hl 4 rfl) (lv_at hl 0 rfl) (k := 1) (by omega) (by decide) dw_1708 dw_1709 dw_1711 dw_1712 dw_1713 ?_
  refine z_2I (lq_cc C w.swap.2.2.2.2.1) w.swap (z_runV (lq_cc C w.swap.2.2.2.2.1) w.swap.B 11 (mm_X12_count C.2.2.1 l adM2 oM (xs (i + 1)) hM e2) md_X12_count qmL_227 gM (by decide) rfl rfl rfl ⟨Nat.le_of_ble_eq_true rfl, Nat.le_of_ble_eq_true rfl⟩ rfl hl.1 rfl (Nat.le_of_ble_eq_true rfl) dw_1714 (lq_rm2 hcs (by decide) (by decide))) (fun H locs adX2 hag w => ?_)
  replace w := w.swap
  replace hl := lq_ag (hag _ (z_ok_lt gX1)) rfl (hag _ (z_ok_lt gO1)) hl
  refine lv_icmp_eq (tgt := 1722) hx hb dw_1717 (by decide) (fun _ => ?_) (fun cn => absurd rfl cn)
  refine W.widen (k := cells + 8) (n := slots + 125) (by omega) (by omega) ?_
  exact kk _ _ _ _ _ _ _ hI1 w hl
end LQ
