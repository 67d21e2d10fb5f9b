/-! the law: its loop, out of the operations -/
/-- every operation keeps what is between the two heaps, and answers alike -/
def lq_Ops (Inv : z_T → z_T → Prop) (oX oM oO : Nat) : Prop :=
  (∀ (hX hM : z_T) (x1 : Int32) (x2 : Int32) (x3 : Int32) (x4 : Int32) (x5 : Int32), Inv hX hM → ∃ (r : Int32) (hX' hM' : z_T), fX11_feed oX x1 x2 x3 x4 x5 hX = some (r, hX') ∧ fX12_feed oM x1 x2 x3 x4 x5 hM = some (r, hM') ∧ Inv hX' hM') ∧
  (∀ (hX hM : z_T) (x1 : Int32), Inv hX hM → ∃ (r : Int32) (hX' hM' : z_T), fX11_end oX x1 hX = some (r, hX') ∧ fX12_end oM x1 hM = some (r, hM') ∧ Inv hX' hM') ∧
  (∀ (hX hM : z_T), Inv hX hM → ∃ (r : Int32) (hX' hM' : z_T), fX11_book oX  hX = some (r, hX') ∧ fX12_book oM  hM = some (r, hM') ∧ Inv hX' hM') ∧
  (∀ (hX hM : z_T), Inv hX hM → ∃ (r : Int32) (hM' : z_T), fX11_fault oX  hX = some r ∧ fX12_fault oM  hM = some (r, hM') ∧ Inv hX hM') ∧
  (∀ (hX hM : z_T) (x1 : Int32) (x2 : Int32), Inv hX hM → ∃ (r : Int32) (hM' : z_T), fX11_test oX x1 x2 hX = some r ∧ fX12_test oM x1 x2 hM = some (r, hM') ∧ Inv hX hM') ∧
  (∀ (hX hM : z_T) (x1 : Int32) (x2 : Int32), Inv hX hM → ∃ (r : Int32) (hM' : z_T), fX11_dream oX x1 x2 hX = some r ∧ fX12_dream oM x1 x2 hM = some (r, hM') ∧ Inv hX hM') ∧
  (∀ (hX hM : z_T) (x1 : Int32) (x2 : Int32), Inv hX hM → ∃ (r : Int32) (hM' : z_T), fX11_stays oX x1 x2 hX = some r ∧ fX12_stays oM x1 x2 hM = some (r, hM') ∧ Inv hX hM') ∧
  (∀ (hX hM : z_T) (x1 : Int32) (x2 : Int32), Inv hX hM → ∃ (r : Int32) (hX' hM' : z_T), fX11_ask oX x1 x2 hX = some (r, hX') ∧ fX12_ask oM x1 x2 hM = some (r, hM') ∧ Inv hX' hM') ∧
  (∀ (hX hM : z_T), Inv hX hM → ∃ (r : Int32) (hX' hM' : z_T), fX11_sleep oX  hX = some (r, hX') ∧ fX12_sleep oM  hM = some (r, hM') ∧ Inv hX' hM') ∧
  (∀ (hX hM : z_T) (x1 : Int32), Inv hX hM → ∃ (r : Int32) (hM' : z_T), fX11_answer oX x1 hX = some r ∧ fX12_answer oM x1 hM = some (r, hM') ∧ Inv hX hM') ∧
  (∀ (hX hM : z_T), Inv hX hM → ∃ (r : Int32) (hX' hM' : z_T), fX11_undo oX  hX = some (r, hX') ∧ fX12_undo oM  hM = some (r, hM') ∧ Inv hX' hM') ∧
  (∀ (hX hM : z_T) (x1 : Int32), Inv hX hM → ∃ (k : Int32) (v : Int64) (hX' hM' : z_T), fL_sure oX x1 oO hX = some (k, hX') ∧ fX12_sure oM x1 hM = some (v, hM') ∧ fX12_thrown oM hM' = some k ∧ (k = 0 → z_L hX' oO 0 = v) ∧ Inv hX' hM') ∧
  (∀ (hX hM : z_T) (x1 : Int32) (x2 : Int32), Inv hX hM → ∃ (k : Int32) (v : Int64) (hX' hM' : z_T), fL_odds oX x1 x2 oO hX = some (k, hX') ∧ fX12_odds oM x1 x2 hM = some (v, hM') ∧ fX12_thrown oM hM' = some k ∧ (k = 0 → z_L hX' oO 0 = v) ∧ Inv hX' hM') ∧
  (∀ (hX hM : z_T), Inv hX hM → ∃ (r : Int32) (hM' : z_T), fX11_up oX  hX = some r ∧ fX12_up oM  hM = some (r, hM') ∧ Inv hX hM') ∧
  (∀ (hX hM : z_T), Inv hX hM → ∃ (r : Int32) (hM' : z_T), fX11_likely oX  hX = some r ∧ fX12_likely oM  hM = some (r, hM') ∧ Inv hX hM') ∧
  (∀ (hX hM : z_T), Inv hX hM → ∃ (r : Int32) (hM' : z_T), fX11_fits oX  hX = some r ∧ fX12_fits oM  hM = some (r, hM') ∧ Inv hX hM') ∧
  (∀ (hX hM : z_T), Inv hX hM → ∃ (r : Int32) (hM' : z_T), fX11_enough oX  hX = some r ∧ fX12_enough oM  hM = some (r, hM') ∧ Inv hX hM') ∧
  (∀ (hX hM : z_T), Inv hX hM → ∃ (r : Int32) (hM' : z_T), fX11_forger oX  hX = some r ∧ fX12_forger oM  hM = some (r, hM') ∧ Inv hX hM') ∧
  (∀ (hX hM : z_T) (x1 : Int32) (x2 : Int32), Inv hX hM → ∃ (k : Int32) (v : Int64) (hX' hM' : z_T), fL_error oX x1 x2 oO hX = some (k, hX') ∧ fX12_error oM x1 x2 hM = some (v, hM') ∧ fX12_thrown oM hM' = some k ∧ (k = 0 → z_L hX' oO 0 = v) ∧ Inv hX' hM') ∧
  (∀ (hX hM : z_T), Inv hX hM → ∃ (r : Int32) (hM' : z_T), fX11_pair oX  hX = some r ∧ fX12_pair oM  hM = some (r, hM') ∧ Inv hX hM') ∧
  (∀ (hX hM : z_T) (x1 : Int32) (x2 : Int32), Inv hX hM → ∃ (k : Int32) (v : Int64) (hX' hM' : z_T), fL_cost oX x1 x2 oO hX = some (k, hX') ∧ fX12_cost oM x1 x2 hM = some (v, hM') ∧ fX12_thrown oM hM' = some k ∧ (k = 0 → z_L hX' oO 0 = v) ∧ Inv hX' hM') ∧
  (∀ (hX hM : z_T) (x1 : Int32), Inv hX hM → ∃ (r : Int32) (hX' hM' : z_T), fX11_first oX x1 hX = some (r, hX') ∧ fX12_first oM x1 hM = some (r, hM') ∧ Inv hX' hM') ∧
  (∀ (hX hM : z_T) (x1 : Int32), Inv hX hM → ∃ (r : Int32) (hX' hM' : z_T), fX11_write oX x1 hX = some (r, hX') ∧ fX12_write oM x1 hM = some (r, hM') ∧ Inv hX' hM') ∧
  (∀ (hX hM : z_T) (x1 : Int32), Inv hX hM → ∃ (r : Int32) (hM' : z_T), fX11_byteAt oX x1 hX = some r ∧ fX12_byteAt oM x1 hM = some (r, hM') ∧ Inv hX hM') ∧
  (∀ (hX hM : z_T), Inv hX hM → ∃ (r : Int32) (hX' hM' : z_T), fX11_tree oX  hX = some (r, hX') ∧ fX12_tree oM  hM = some (r, hM') ∧ Inv hX' hM') ∧
  (∀ (hX hM : z_T) (x1 : Int32), Inv hX hM → ∃ (k : Int32) (v : Int64) (hX' hM' : z_T), fL_worth oX x1 oO hX = some (k, hX') ∧ fX12_worth oM x1 hM = some (v, hM') ∧ fX12_thrown oM hM' = some k ∧ (k = 0 → z_L hX' oO 0 = v) ∧ Inv hX' hM') ∧
  (∀ (hX hM : z_T), Inv hX hM → ∃ (r : Int32) (hM' : z_T), fX11_leads oX  hX = some r ∧ fX12_leads oM  hM = some (r, hM') ∧ Inv hX hM') ∧
  (∀ (hX hM : z_T) (x1 : Int32) (x2 : Int32), Inv hX hM → ∃ (k : Int32) (v : Int64) (hX' hM' : z_T), fL_after oX x1 x2 oO hX = some (k, hX') ∧ fX12_after oM x1 x2 hM = some (v, hM') ∧ fX12_thrown oM hM' = some k ∧ (k = 0 → z_L hX' oO 0 = v) ∧ Inv hX' hM') ∧
  (∀ (hX hM : z_T) (x1 : Int32), Inv hX hM → ∃ (k : Int32) (v : Int64) (hX' hM' : z_T), fL_lot oX x1 oO hX = some (k, hX') ∧ fX12_lot oM x1 hM = some (v, hM') ∧ fX12_thrown oM hM' = some k ∧ (k = 0 → z_L hX' oO 0 = v) ∧ Inv hX' hM') ∧
  (∀ (hX hM : z_T) (x1 : Int32) (x2 : Int32), Inv hX hM → ∃ (k : Int32) (v : Int64) (hX' hM' : z_T), fL_share oX x1 x2 oO hX = some (k, hX') ∧ fX12_share oM x1 x2 hM = some (v, hM') ∧ fX12_thrown oM hM' = some k ∧ (k = 0 → z_L hX' oO 0 = v) ∧ Inv hX' hM') ∧
  (∀ (hX hM : z_T), Inv hX hM → ∃ (r : Int32) (hM' : z_T), fX11_next oX  hX = some r ∧ fX12_next oM  hM = some (r, hM') ∧ Inv hX hM') ∧
  (∀ (hX hM : z_T) (x1 : Int32) (x2 : Int32), Inv hX hM → ∃ (k : Int32) (v : Int64) (hX' hM' : z_T), fL_fails oX x1 x2 oO hX = some (k, hX') ∧ fX12_fails oM x1 x2 hM = some (v, hM') ∧ fX12_thrown oM hM' = some k ∧ (k = 0 → z_L hX' oO 0 = v) ∧ Inv hX' hM') ∧
  (∀ (hX hM : z_T) (x1 : Int32) (x2 : Int32), Inv hX hM → ∃ (k : Int32) (v : Int64) (hX' hM' : z_T), fL_deep oX x1 x2 oO hX = some (k, hX') ∧ fX12_deep oM x1 x2 hM = some (v, hM') ∧ fX12_thrown oM hM' = some k ∧ (k = 0 → z_L hX' oO 0 = v) ∧ Inv hX' hM') ∧
  (∀ (hX hM : z_T) (x1 : Int32) (x2 : Int32), Inv hX hM → ∃ (k : Int32) (v : Int64) (hX' hM' : z_T), fL_tells oX x1 x2 oO hX = some (k, hX') ∧ fX12_tells oM x1 x2 hM = some (v, hM') ∧ fX12_thrown oM hM' = some k ∧ (k = 0 → z_L hX' oO 0 = v) ∧ Inv hX' hM') ∧
  (∀ (hX hM : z_T) (x1 : Int32) (x2 : Int32), Inv hX hM → ∃ (r : Int32) (hM' : z_T), fX11_apart oX x1 x2 hX = some r ∧ fX12_apart oM x1 x2 hM = some (r, hM') ∧ Inv hX hM') ∧
  (∀ (hX hM : z_T), Inv hX hM → ∃ (r : Int32) (hX' hM' : z_T), fX11_nights oX  hX = some (r, hX') ∧ fX12_nights oM  hM = some (r, hM') ∧ Inv hX' hM') ∧
  (∀ (hX hM : z_T) (x1 : Int32), Inv hX hM → ∃ (r : Int32) (hM' : z_T), fX11_judged oX x1 hX = some r ∧ fX12_judged oM x1 hM = some (r, hM') ∧ Inv hX hM') ∧
  (∀ (hX hM : z_T) (x1 : Int32) (x2 : Int32), Inv hX hM → ∃ (r : Int32) (hX' hM' : z_T), fX11_drawn oX x1 x2 hX = some (r, hX') ∧ fX12_drawn oM x1 x2 hM = some (r, hM') ∧ Inv hX' hM') ∧
  (∀ (hX hM : z_T) (x1 : Int32) (x2 : Int32) (x3 : Int32), Inv hX hM → ∃ (r : Int32) (hX' hM' : z_T), fX11_wrongs oX x1 x2 x3 hX = some (r, hX') ∧ fX12_wrongs oM x1 x2 x3 hM = some (r, hM') ∧ Inv hX' hM') ∧
  (∀ (hX hM : z_T), Inv hX hM → ∃ (r : Int32) (hX' hM' : z_T), fX11_sentence oX  hX = some (r, hX') ∧ fX12_sentence oM  hM = some (r, hM') ∧ Inv hX' hM') ∧
  (∀ (hX hM : z_T) (x1 : Int32), Inv hX hM → ∃ (r : Int32) (hX' hM' : z_T), fX11_said oX x1 hX = some (r, hX') ∧ fX12_said oM x1 hM = some (r, hM') ∧ Inv hX' hM') ∧
  (∀ (hX hM : z_T) (x1 : Int32), Inv hX hM → ∃ (r : Int32) (hX' hM' : z_T), fX11_image oX x1 hX = some (r, hX') ∧ fX12_image oM x1 hM = some (r, hM') ∧ Inv hX' hM') ∧
  (∀ (hX hM : z_T) (x1 : Int32), Inv hX hM → ∃ (r : Int32) (hX' hM' : z_T), fX11_restore oX x1 hX = some (r, hX') ∧ fX12_restore oM x1 hM = some (r, hM') ∧ Inv hX' hM') ∧
  (∀ (hX hM : z_T) (x1 : Int32), Inv hX hM → ∃ (r : Int32) (hM' : z_T), fX11_count oX x1 hX = some r ∧ fX12_count oM x1 hM = some (r, hM') ∧ Inv hX hM')
section LP
variable {p : Program} {l : Launch} {e : Env} {s : State} {m : MethodId} {below : List Frame} {meth : Method} {c : Code} {b L : Nat} {xs : Nat → Int32} {G : z_Gt} {Q : State → Prop}
theorem lq_gt {L i : Nat} (hL : L ≤ 3072) (hi : i ≤ 4000) : (Int32.ofNat L - 6 < nI i) ↔ L < i + 6 := by
  have e : (nI L - nI 6).toInt = (L : Int) - 6 := pk_sub_toInt (by omega) (by decide)
  have e2 : (nI i).toInt = (i : Int) := nI_toInt (by omega)
  show (nI L - nI 6 < nI i) ↔ _
  rw [Int32.lt_iff_toInt_lt, e, e2]
  omega
set_option maxHeartbeats 4000000 in
set_option maxRecDepth 100000 in
theorem lq_case (C : lq_C G p s m meth c b L xs) (hfl : l.stackTraces = false) {Inv : z_T → z_T → Prop} {oX oM oO : Nat} (hV : lq_V Inv oX oM oO) (hops : lq_Ops Inv oX oM oO) {adX adM : Nat → Nat} {hX hM : z_T} {H : Heap} {locs : List Loc} {ls : Array Slot} {cells slots i : Nat} (w : z_2 G s adX adM hX hM H locs) (hI : Inv hX hM) (hi : i + 6 ≤ L) (hcs : cells + 8 ≤ room_1.cells ∧ slots + 125 ≤ room_1.slots) (hl : lv_has ls 8 (lq_l adX adM oX oM oO b i))
    (kk : ∀ (adX adM : Nat → Nat) (hX hM : z_T) (H : Heap) (locs : List Loc) (ls : Array Slot), Inv hX hM → z_2 G s adX adM hX hM H locs → lv_has ls 8 (lq_l adX adM oX oM oO b i) → W p l e room_1 s m #[.ref b] below meth c H locs (cells + 8) (slots + 125) Q (F0 m 1722 ls [])) (j : Nat) (hj : j < 64) : W p l e room_1 s m #[.ref b] below meth c H locs cells slots Q (F0 m 40 ls [.int (nI j)]) := by
  have hx := C.1.1
  have hb := C.1.2.1
  match j, hj with
  | 0, _ => exact lv_tableIn (off := 192) (tgt := 232) hx hb dw_40 (by decide +kernel) (by decide +kernel) (by decide +kernel) (by decide +kernel) (lc_feed C hfl hV w hI hi hcs hl (hops.1 hX hM _ _ _ _ _ hI) kk)
  | 1, _ => exact lv_tableIn (off := 265) (tgt := 305) hx hb dw_40 (by decide +kernel) (by decide +kernel) (by decide +kernel) (by decide +kernel) (lc_end C hfl hV w hI hi hcs hl (hops.2.1 hX hM _ hI) kk)
  | 2, _ => exact lv_tableIn (off := 290) (tgt := 330) hx hb dw_40 (by decide +kernel) (by decide +kernel) (by decide +kernel) (by decide +kernel) (lc_book C hfl hV w hI hi hcs hl (hops.2.2.1 hX hM hI) kk)
  | 3, _ => exact lv_tableIn (off := 303) (tgt := 343) hx hb dw_40 (by decide +kernel) (by decide +kernel) (by decide +kernel) (by decide +kernel) (lc_fault C hfl hV w hI hi hcs hl (hops.2.2.2.1 hX hM hI) kk)
  | 4, _ => exact lv_tableIn (off := 316) (tgt := 356) hx hb dw_40 (by decide +kernel) (by decide +kernel) (by decide +kernel) (by decide +kernel) (lc_test C hfl hV w hI hi hcs hl (hops.2.2.2.2.1 hX hM _ _ hI) kk)
  | 5, _ => exact lv_tableIn (off := 353) (tgt := 393) hx hb dw_40 (by decide +kernel) (by decide +kernel) (by decide +kernel) (by decide +kernel) (lc_dream C hfl hV w hI hi hcs hl (hops.2.2.2.2.2.1 hX hM _ _ hI) kk)
  | 6, _ => exact lv_tableIn (off := 390) (tgt := 430) hx hb dw_40 (by decide +kernel) (by decide +kernel) (by decide +kernel) (by decide +kernel) (lc_stays C hfl hV w hI hi hcs hl (hops.2.2.2.2.2.2.1 hX hM _ _ hI) kk)
  | 7, _ => exact lv_tableIn (off := 427) (tgt := 467) hx hb dw_40 (by decide +kernel) (by decide +kernel) (by decide +kernel) (by decide +kernel) (lc_ask C hfl hV w hI hi hcs hl (hops.2.2.2.2.2.2.2.1 hX hM _ _ hI) kk)
  | 8, _ => exact lv_tableIn (off := 464) (tgt := 504) hx hb dw_40 (by decide +kernel) (by decide +kernel) (by decide +kernel) (by decide +kernel) (lc_sleep C hfl hV w hI hi hcs hl (hops.2.2.2.2.2.2.2.2.1 hX hM hI) kk)
  | 9, _ => exact lv_tableIn (off := 477) (tgt := 517) hx hb dw_40 (by decide +kernel) (by decide +kernel) (by decide +kernel) (by decide +kernel) (lc_answer C hfl hV w hI hi hcs hl (hops.2.2.2.2.2.2.2.2.2.1 hX hM _ hI) kk)
  | 10, _ => exact lv_tableIn (off := 502) (tgt := 542) hx hb dw_40 (by decide +kernel) (by decide +kernel) (by decide +kernel) (by decide +kernel) (lc_undo C hfl hV w hI hi hcs hl (hops.2.2.2.2.2.2.2.2.2.2.1 hX hM hI) kk)
  | 11, _ => exact lv_tableIn (off := 515) (tgt := 555) hx hb dw_40 (by decide +kernel) (by decide +kernel) (by decide +kernel) (by decide +kernel) (lc_sure C hfl hV w hI hi hcs hl (hops.2.2.2.2.2.2.2.2.2.2.2.1 hX hM _ hI) kk)
  | 12, _ => exact lv_tableIn (off := 570) (tgt := 610) hx hb dw_40 (by decide +kernel) (by decide +kernel) (by decide +kernel) (by decide +kernel) (lc_odds C hfl hV w hI hi hcs hl (hops.2.2.2.2.2.2.2.2.2.2.2.2.1 hX hM _ _ hI) kk)
  | 13, _ => exact lv_tableIn (off := 637) (tgt := 677) hx hb dw_40 (by decide +kernel) (by decide +kernel) (by decide +kernel) (by decide +kernel) (lc_up C hfl hV w hI hi hcs hl (hops.2.2.2.2.2.2.2.2.2.2.2.2.2.1 hX hM hI) kk)
  | 14, _ => exact lv_tableIn (off := 650) (tgt := 690) hx hb dw_40 (by decide +kernel) (by decide +kernel) (by decide +kernel) (by decide +kernel) (lc_likely C hfl hV w hI hi hcs hl (hops.2.2.2.2.2.2.2.2.2.2.2.2.2.2.1 hX hM hI) kk)
  | 15, _ => exact lv_tableIn (off := 663) (tgt := 703) hx hb dw_40 (by decide +kernel) (by decide +kernel) (by decide +kernel) (by decide +kernel) (lc_fits C hfl hV w hI hi hcs hl (hops.2.2.2.2.2.2.2.2.2.2.2.2.2.2.2.1 hX hM hI) kk)
  | 16, _ => exact lv_tableIn (off := 676) (tgt := 716) hx hb dw_40 (by decide +kernel) (by decide +kernel) (by decide +kernel) (by decide +kernel) (lc_enough C hfl hV w hI hi hcs hl (hops.2.2.2.2.2.2.2.2.2.2.2.2.2.2.2.2.1 hX hM hI) kk)
  | 17, _ => exact lv_tableIn (off := 689) (tgt := 729) hx hb dw_40 (by decide +kernel) (by decide +kernel) (by decide +kernel) (by decide +kernel) (lc_forger C hfl hV w hI hi hcs hl (hops.2.2.2.2.2.2.2.2.2.2.2.2.2.2.2.2.2.1 hX hM hI) kk)
  | 18, _ => exact lv_tableIn (off := 702) (tgt := 742) hx hb dw_40 (by decide +kernel) (by decide +kernel) (by decide +kernel) (by decide +kernel) (lc_error C hfl hV w hI hi hcs hl (hops.2.2.2.2.2.2.2.2.2.2.2.2.2.2.2.2.2.2.1 hX hM _ _ hI) kk)
  | 19, _ => exact lv_tableIn (off := 769) (tgt := 809) hx hb dw_40 (by decide +kernel) (by decide +kernel) (by decide +kernel) (by decide +kernel) (lc_pair C hfl hV w hI hi hcs hl (hops.2.2.2.2.2.2.2.2.2.2.2.2.2.2.2.2.2.2.2.1 hX hM hI) kk)
  | 20, _ => exact lv_tableIn (off := 782) (tgt := 822) hx hb dw_40 (by decide +kernel) (by decide +kernel) (by decide +kernel) (by decide +kernel) (lc_cost C hfl hV w hI hi hcs hl (hops.2.2.2.2.2.2.2.2.2.2.2.2.2.2.2.2.2.2.2.2.1 hX hM _ _ hI) kk)
  | 21, _ => exact lv_tableIn (off := 849) (tgt := 889) hx hb dw_40 (by decide +kernel) (by decide +kernel) (by decide +kernel) (by decide +kernel) (lc_first C hfl hV w hI hi hcs hl (hops.2.2.2.2.2.2.2.2.2.2.2.2.2.2.2.2.2.2.2.2.2.1 hX hM _ hI) kk)
  | 22, _ => exact lv_tableIn (off := 874) (tgt := 914) hx hb dw_40 (by decide +kernel) (by decide +kernel) (by decide +kernel) (by decide +kernel) (lc_write C hfl hV w hI hi hcs hl (hops.2.2.2.2.2.2.2.2.2.2.2.2.2.2.2.2.2.2.2.2.2.2.1 hX hM _ hI) kk)
  | 23, _ => exact lv_tableIn (off := 899) (tgt := 939) hx hb dw_40 (by decide +kernel) (by decide +kernel) (by decide +kernel) (by decide +kernel) (lc_byteAt C hfl hV w hI hi hcs hl (hops.2.2.2.2.2.2.2.2.2.2.2.2.2.2.2.2.2.2.2.2.2.2.2.1 hX hM _ hI) kk)
  | 24, _ => exact lv_tableIn (off := 924) (tgt := 964) hx hb dw_40 (by decide +kernel) (by decide +kernel) (by decide +kernel) (by decide +kernel) (lc_tree C hfl hV w hI hi hcs hl (hops.2.2.2.2.2.2.2.2.2.2.2.2.2.2.2.2.2.2.2.2.2.2.2.2.1 hX hM hI) kk)
  | 25, _ => exact lv_tableIn (off := 937) (tgt := 977) hx hb dw_40 (by decide +kernel) (by decide +kernel) (by decide +kernel) (by decide +kernel) (lc_worth C hfl hV w hI hi hcs hl (hops.2.2.2.2.2.2.2.2.2.2.2.2.2.2.2.2.2.2.2.2.2.2.2.2.2.1 hX hM _ hI) kk)
  | 26, _ => exact lv_tableIn (off := 992) (tgt := 1032) hx hb dw_40 (by decide +kernel) (by decide +kernel) (by decide +kernel) (by decide +kernel) (lc_leads C hfl hV w hI hi hcs hl (hops.2.2.2.2.2.2.2.2.2.2.2.2.2.2.2.2.2.2.2.2.2.2.2.2.2.2.1 hX hM hI) kk)
  | 27, _ => exact lv_tableIn (off := 1005) (tgt := 1045) hx hb dw_40 (by decide +kernel) (by decide +kernel) (by decide +kernel) (by decide +kernel) (lc_after C hfl hV w hI hi hcs hl (hops.2.2.2.2.2.2.2.2.2.2.2.2.2.2.2.2.2.2.2.2.2.2.2.2.2.2.2.1 hX hM _ _ hI) kk)
  | 28, _ => exact lv_tableIn (off := 1072) (tgt := 1112) hx hb dw_40 (by decide +kernel) (by decide +kernel) (by decide +kernel) (by decide +kernel) (lc_lot C hfl hV w hI hi hcs hl (hops.2.2.2.2.2.2.2.2.2.2.2.2.2.2.2.2.2.2.2.2.2.2.2.2.2.2.2.2.1 hX hM _ hI) kk)
  | 29, _ => exact lv_tableIn (off := 1127) (tgt := 1167) hx hb dw_40 (by decide +kernel) (by decide +kernel) (by decide +kernel) (by decide +kernel) (lc_share C hfl hV w hI hi hcs hl (hops.2.2.2.2.2.2.2.2.2.2.2.2.2.2.2.2.2.2.2.2.2.2.2.2.2.2.2.2.2.1 hX hM _ _ hI) kk)
  | 30, _ => exact lv_tableIn (off := 1194) (tgt := 1234) hx hb dw_40 (by decide +kernel) (by decide +kernel) (by decide +kernel) (by decide +kernel) (lc_next C hfl hV w hI hi hcs hl (hops.2.2.2.2.2.2.2.2.2.2.2.2.2.2.2.2.2.2.2.2.2.2.2.2.2.2.2.2.2.2.1 hX hM hI) kk)
  | 31, _ => exact lv_tableIn (off := 1207) (tgt := 1247) hx hb dw_40 (by decide +kernel) (by decide +kernel) (by decide +kernel) (by decide +kernel) (lc_fails C hfl hV w hI hi hcs hl (hops.2.2.2.2.2.2.2.2.2.2.2.2.2.2.2.2.2.2.2.2.2.2.2.2.2.2.2.2.2.2.2.1 hX hM _ _ hI) kk)
  | 32, _ => exact lv_tableIn (off := 1274) (tgt := 1314) hx hb dw_40 (by decide +kernel) (by decide +kernel) (by decide +kernel) (by decide +kernel) (lc_deep C hfl hV w hI hi hcs hl (hops.2.2.2.2.2.2.2.2.2.2.2.2.2.2.2.2.2.2.2.2.2.2.2.2.2.2.2.2.2.2.2.2.1 hX hM _ _ hI) kk)
  | 33, _ => exact lv_tableIn (off := 1341) (tgt := 1381) hx hb dw_40 (by decide +kernel) (by decide +kernel) (by decide +kernel) (by decide +kernel) (lc_tells C hfl hV w hI hi hcs hl (hops.2.2.2.2.2.2.2.2.2.2.2.2.2.2.2.2.2.2.2.2.2.2.2.2.2.2.2.2.2.2.2.2.2.1 hX hM _ _ hI) kk)
  | 34, _ => exact lv_tableIn (off := 1408) (tgt := 1448) hx hb dw_40 (by decide +kernel) (by decide +kernel) (by decide +kernel) (by decide +kernel) (lc_apart C hfl hV w hI hi hcs hl (hops.2.2.2.2.2.2.2.2.2.2.2.2.2.2.2.2.2.2.2.2.2.2.2.2.2.2.2.2.2.2.2.2.2.2.1 hX hM _ _ hI) kk)
  | 35, _ => exact lv_tableIn (off := 1445) (tgt := 1485) hx hb dw_40 (by decide +kernel) (by decide +kernel) (by decide +kernel) (by decide +kernel) (lc_nights C hfl hV w hI hi hcs hl (hops.2.2.2.2.2.2.2.2.2.2.2.2.2.2.2.2.2.2.2.2.2.2.2.2.2.2.2.2.2.2.2.2.2.2.2.1 hX hM hI) kk)
  | 36, _ => exact lv_tableIn (off := 1458) (tgt := 1498) hx hb dw_40 (by decide +kernel) (by decide +kernel) (by decide +kernel) (by decide +kernel) (lc_judged C hfl hV w hI hi hcs hl (hops.2.2.2.2.2.2.2.2.2.2.2.2.2.2.2.2.2.2.2.2.2.2.2.2.2.2.2.2.2.2.2.2.2.2.2.2.1 hX hM _ hI) kk)
  | 37, _ => exact lv_tableIn (off := 1483) (tgt := 1523) hx hb dw_40 (by decide +kernel) (by decide +kernel) (by decide +kernel) (by decide +kernel) (lc_drawn C hfl hV w hI hi hcs hl (hops.2.2.2.2.2.2.2.2.2.2.2.2.2.2.2.2.2.2.2.2.2.2.2.2.2.2.2.2.2.2.2.2.2.2.2.2.2.1 hX hM _ _ hI) kk)
  | 38, _ => exact lv_tableIn (off := 1520) (tgt := 1560) hx hb dw_40 (by decide +kernel) (by decide +kernel) (by decide +kernel) (by decide +kernel) (lc_wrongs C hfl hV w hI hi hcs hl (hops.2.2.2.2.2.2.2.2.2.2.2.2.2.2.2.2.2.2.2.2.2.2.2.2.2.2.2.2.2.2.2.2.2.2.2.2.2.2.1 hX hM _ _ _ hI) kk)
  | 39, _ => exact lv_tableIn (off := 1569) (tgt := 1609) hx hb dw_40 (by decide +kernel) (by decide +kernel) (by decide +kernel) (by decide +kernel) (lc_sentence C hfl hV w hI hi hcs hl (hops.2.2.2.2.2.2.2.2.2.2.2.2.2.2.2.2.2.2.2.2.2.2.2.2.2.2.2.2.2.2.2.2.2.2.2.2.2.2.2.1 hX hM hI) kk)
  | 40, _ => exact lv_tableIn (off := 1582) (tgt := 1622) hx hb dw_40 (by decide +kernel) (by decide +kernel) (by decide +kernel) (by decide +kernel) (lc_said C hfl hV w hI hi hcs hl (hops.2.2.2.2.2.2.2.2.2.2.2.2.2.2.2.2.2.2.2.2.2.2.2.2.2.2.2.2.2.2.2.2.2.2.2.2.2.2.2.2.1 hX hM _ hI) kk)
  | 41, _ => exact lv_tableIn (off := 1607) (tgt := 1647) hx hb dw_40 (by decide +kernel) (by decide +kernel) (by decide +kernel) (by decide +kernel) (lc_image C hfl hV w hI hi hcs hl (hops.2.2.2.2.2.2.2.2.2.2.2.2.2.2.2.2.2.2.2.2.2.2.2.2.2.2.2.2.2.2.2.2.2.2.2.2.2.2.2.2.2.1 hX hM _ hI) kk)
  | 42, _ => exact lv_tableIn (off := 1632) (tgt := 1672) hx hb dw_40 (by decide +kernel) (by decide +kernel) (by decide +kernel) (by decide +kernel) (lc_restore C hfl hV w hI hi hcs hl (hops.2.2.2.2.2.2.2.2.2.2.2.2.2.2.2.2.2.2.2.2.2.2.2.2.2.2.2.2.2.2.2.2.2.2.2.2.2.2.2.2.2.2.1 hX hM _ hI) kk)
  | 43, _ => exact lv_tableIn (off := 1657) (tgt := 1697) hx hb dw_40 (by decide +kernel) (by decide +kernel) (by decide +kernel) (by decide +kernel) (lc_count C hfl hV w hI hi hcs hl (hops.2.2.2.2.2.2.2.2.2.2.2.2.2.2.2.2.2.2.2.2.2.2.2.2.2.2.2.2.2.2.2.2.2.2.2.2.2.2.2.2.2.2.2 hX hM _ hI) kk)
  | j + 44, hj => exact lv_tableOut (tgt := 1722) hx hb dw_40 (Or.inr (by rw [nI_toInt (by omega)]; omega)) (by decide +kernel) (W.widen (k := cells + 8) (n := slots + 125) (by omega) (by omega) (kk _ _ _ _ _ _ _ hI w hl))
set_option maxHeartbeats 4000000 in
theorem lq_loop (C : lq_C G p s m meth c b L xs) (hfl : l.stackTraces = false) {Inv : z_T → z_T → Prop} {oX oM oO : Nat} (hV : lq_V Inv oX oM oO) (hops : lq_Ops Inv oX oM oO)
    (kx : ∀ (H : Heap) (locs : List Loc) (ls : Array Slot) (cells slots : Nat), va_S (fun q => s.heap.size ≤ q) s.heap H locs → cells ≤ 601024 → slots ≤ 7293034 → W p l e room_1 s m #[.ref b] below meth c H locs cells slots Q (F0 m 1728 ls [])) :
    ∀ (n i : Nat) (adX adM : Nat → Nat) (hX hM : z_T) (H : Heap) (locs : List Loc) (ls : Array Slot) (cells slots : Nat), L ≤ i + 6 * n + 5 → i ≤ 3100 → z_2 G s adX adM hX hM H locs → Inv hX hM → cells + 8 * n ≤ 601024 → slots + 125 * n ≤ 7293034 → lv_has ls 8 (lq_l adX adM oX oM oO b i) →
    W p l e room_1 s m #[.ref b] below meth c H locs cells slots Q (F0 m 23 ls []) := by
  have hx := C.1.1
  have hb := C.1.2.1
  have hL := C.2.2.2.2.2.2.2
  intro n
  induction n with
  | zero =>
    intro i adX adM hX hM H locs ls cells slots hn hi w hI hc1 hc2 hl
    refine lv_iload hx hb dw_23 (lv_at hl 0 rfl) ?_
    refine lv_aload_n hx hb dw_25 rfl (lv_at hl 4 rfl) ?_
    refine va_slen hx hb C.2.2.2.2.1 C.2.2.2.2.2.1 (Nat.not_le.mpr C.2.2.2.2.2.1) w.2.2.1 dw_26 ?_
    refine lv_bipush (v := (6 : Int32)) hx hb dw_27 (by decide) ?_
    refine lv_isub hx hb dw_29 ?_
    exact lv_icmp_gt (tgt := 1728) hx hb dw_30 (by decide) (fun _ => kx _ _ _ _ _ w.2.2.1 (by omega) (by omega)) (fun h => absurd ((lq_gt hL (by omega)).mpr (by omega)) h)
  | succ n ih =>
    intro i adX adM hX hM H locs ls cells slots hn hi w hI hc1 hc2 hl
    refine lv_iload hx hb dw_23 (lv_at hl 0 rfl) ?_
    refine lv_aload_n hx hb dw_25 rfl (lv_at hl 4 rfl) ?_
    refine va_slen hx hb C.2.2.2.2.1 C.2.2.2.2.2.1 (Nat.not_le.mpr C.2.2.2.2.2.1) w.2.2.1 dw_26 ?_
    refine lv_bipush (v := (6 : Int32)) hx hb dw_27 (by decide) ?_
    refine lv_isub hx hb dw_29 ?_
    refine lv_icmp_gt (tgt := 1728) hx hb dw_30 (by decide) (fun _ => kx _ _ _ _ _ w.2.2.1 (by omega) (by omega)) (fun h => ?_)
    have hi6 : i + 6 ≤ L := by
      have := mt (lq_gt hL (by omega)).mpr h
      omega
    refine lv_aload_n hx hb dw_33 rfl (lv_at hl 4 rfl) ?_
    refine lv_iload hx hb dw_34 (lv_at hl 0 rfl) ?_
    refine va_sld hx hb C.2.2.2.2.1 C.2.2.2.2.2.1 (Nat.not_le.mpr C.2.2.2.2.2.1) w.2.2.1 (vp_in_nI (by omega) (by omega)) dw_36 ?_
    rw [nI_clamp (by omega)]
    refine lv_bipush (v := (63 : Int32)) hx hb dw_37 (by decide) ?_
    refine lv_iand hx hb dw_39 ?_
    obtain ⟨j, hj, ej⟩ := pk_andE (xs i) (m := (63 : Int32)) 6 (by decide)
    rw [ej]
    refine lq_case C hfl hV hops w hI hi6 (show cells + 8 ≤ 601024 ∧ slots + 125 ≤ 7293034 from ⟨by omega, by omega⟩) hl (fun adX adM hX hM H locs ls hI w hl => ?_) j hj
    refine lv_iinc (k := 0) (v := nI (i + 6)) (lv' := lq_l adX adM oX oM oO b (i + 6)) hx hb dw_1722 hl rfl (nI_add i 6) (by decide) rfl (fun ls hl => ?_)
    refine lv_goto (tgt := 23) hx hb dw_1725 (by decide) ?_
    exact ih (i + 6) adX adM hX hM H locs ls (cells + 8) (slots + 125) (by omega) (by omega) w hI (by omega) (by omega) hl
end LP
