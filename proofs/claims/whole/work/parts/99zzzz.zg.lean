/-! what the Statement gives of the start, as the walk wants it: classes, arrays, words, constants, texts -/
def kA : List Cond := flatC (Jvm.Cond.and given_1 narrow_1)
def kI : List Nat := [35, 83, 149, 254, 204, 226, 99, 951, 143, 781, 27, 1263]
def kX : List Nat := [4, 38, 45, 97, 309, 333, 358, 384, 411, 86, 109, 122, 67, 76, 284, 262, 136, 151, 167, 184, 202, 221, 241]
def kL : List Nat := [105, 388, 425, 865, 1930, 1931, 1932, 1933, 1934, 856, 887, 889, 804, 807, 1034, 1031, 993, 995, 997, 999, 1001, 1003, 1005]
def kB : List Nat := [482, 488, 496, 505, 515]
def kR : List Nat := [706, 707, 768, 769, 770]
def kE (k : Nat) : Term := .static "DreamTests$Word" (z_wn k) "LDreamTests$Word;"
def kS (i : Nat) : Term := .string "DreamTests$Plan" (z_stx.getD i (0, "")).1
def kV (i : Nat) : Term := .field (kS i) "java/lang/String" "value" "[B"
theorem kI_ok : ∀ ci, ci < 12 → tables_1[kI.getD ci 0]? = some (.instantiable (z_c ci).1 (z_c ci).2.2) := by decide +kernel
theorem kX_ok : ∀ k, k < 23 → kA[kX.getD k 0]? = some (.exactly (kE k) "DreamTests$Word") := by decide +kernel
theorem kO_ok : ∀ k, k < 23 → kA[kX.getD k 0 + 1]? = some (.eq (.field (kE k) "java/lang/Enum" "ordinal" "I") (.int (nI k))) := by decide +kernel
theorem kN_ok : ∀ k, k < 23 → kA[kX.getD k 0 + 2]? = some (.eq (.field (kE k) "DreamTests$Word" "name" "J") (.long (z_wname k))) := by decide +kernel
theorem kT_ok : ∀ k, k < 23 → kA[kX.getD k 0 + 3]? = some (.eq (.field (kE k) "DreamTests$Word" "setting" "I") (.int (z_wset k))) := by decide +kernel
theorem kW_ok : ∀ k, k < 23 → kA[kX.getD k 0 + 4]? = some (.eq (.field (kE k) "DreamTests$Word" "least" "I") (.int (z_wleast k))) := by decide +kernel
theorem kG_ok : ∀ k, k < 23 → kA[kX.getD k 0 + 5]? = some (.eq (.field (kE k) "DreamTests$Word" "greatest" "I") (.int (z_wgreat k))) := by decide +kernel
theorem kL_ok : ∀ k, k < 23 → tables_1[kL.getD k 0]? = some (.laysStatic "DreamTests$Word" (z_wn k) "LDreamTests$Word;") := by decide +kernel
theorem kM_ok : ∀ j, j < 23 → kA[15 + j]? = some (.eq (.elem (.static "DreamTests$Word" "ALL" "[LDreamTests$Word;") (.int (Int32.ofNat j))) (kE j)) := by decide +kernel
theorem kU_ok : ∀ j, j < 6 → kA[56 + j]? = some (.eq (.elem (.static "DreamTests$Plan" "UNITS" "[I") (.int (Int32.ofNat j))) (.int (z_unit j))) := by decide +kernel
theorem kR_ok : ∀ i, i < 5 → tables_1[kR.getD i 0]? = some (.stringRef "DreamTests$Plan" (z_stx.getD i (0, "")).1 (z_stx.getD i (0, "")).2) := by decide +kernel
theorem kB_ok : ∀ i, i < 5 → kA[kB.getD i 0]? = some (.exactly (kS i) "java/lang/String") ∧ kA[kB.getD i 0 + 1]? = some (.eq (.field (kS i) "java/lang/String" "coder" "B") (.int 0)) ∧ kA[kB.getD i 0 + 2]? = some (.arrayOf (kV i) .byte) ∧ kA[kB.getD i 0 + 3]? = some (.eq (.length (kV i)) (.int (Int32.ofNat (z_sln.getD i 0)))) ∧ z_sln.getD i 0 < 2 ^ 31 := by decide +kernel
theorem kC_ok : ∀ i, i < 5 → ∀ j, j < z_sln.getD i 0 → kA[kB.getD i 0 + 4 + j]? = some (.eq (.elem (kV i) (.int (Int32.ofNat j))) (.int ((z_sby.getD i []).getD j 0))) := by decide +kernel
theorem kD_ok : ∀ j, j < 5 → ∀ i, i < j → kA[kB.getD j 0 + 4 + z_sln.getD j 0 + i]? = some (.not (.eq (kS i) (kS j))) := by decide +kernel
theorem kH_ok : (z_thw.filter (fun w => !goodWord w)).all (fun w => decide (w ∈ lw_tbl)) = true := by decide +kernel
section KK
variable {s : State} {b : Nat} {G : z_Gt}
theorem kk_at (hgv : (Jvm.Cond.and given_1 narrow_1).before #[.ref b] s = true) {i : Nat} {w : Cond} (e : kA[i]? = some w) : w.before #[.ref b] s = true := flat_of_before _ hgv w (List.mem_of_getElem? e)
theorem kk_tb (hts : ∀ w ∈ lw_tbl, w.before #[.ref b] s = true) {i : Nat} {w : Cond} (e : tables_1[i]? = some w) : w.before #[.ref b] s = true := hts w (List.mem_append_right _ (List.mem_of_getElem? e))
theorem kk_eqr {t u : Term} {a : Nat} (h : (Cond.eq t u).before #[.ref b] s = true) (hu : u.eval #[.ref b] s none [] s = some (.ref a)) : t.eval #[.ref b] s none [] s = some (.ref a) := by
  cases hv : t.eval #[.ref b] s none [] s with
  | none => simp [Cond.before, Cond.holds, Cond.value, hv] at h
  | some w =>
    simp only [Cond.before, Cond.holds, Cond.value, hv, hu] at h
    cases w <;> simp_all
theorem kk_known (hts : ∀ w ∈ lw_tbl, w.before #[.ref b] s = true) : ∃ (cC : Nat → ClassId) (iS : Nat → Nat → Nat), ∀ ci, ci < 12 → u_Kn s (z_c ci).1 (z_c ci).2.1 (z_c ci).2.2 (cC ci) (iS ci) := by
  have h0 : ∀ ci : Nat, ∃ q : ClassId × (Nat → Nat), ci < 12 → u_Kn s (z_c ci).1 (z_c ci).2.1 (z_c ci).2.2 q.1 q.2 := by
    intro ci
    by_cases hci : ci < 12
    · obtain ⟨cC, iS, h⟩ := u_known (n := (z_c ci).2.2) hts (fun w hw => (List.mem_filter.mp (z_uw ci hci w hw)).1) (kk_tb hts (kI_ok ci hci))
      exact ⟨(cC, iS), fun _ => h⟩
    · exact ⟨(0, fun _ => 0), fun h => absurd h hci⟩
  obtain ⟨f, hf⟩ := Classical.axiomOfChoice h0
  exact ⟨fun ci => (f ci).1, fun ci => (f ci).2, hf⟩
theorem kk_prim {ty : FieldType} (h : (Cond.arrayClass ty).before #[.ref b] s = true) : ∃ c : ClassId, ArrOfT s c ty ∧ s.vm.findClass ("[" ++ ty.toString) = some c := by
  obtain ⟨c, k, comp, h1, h2, h3⟩ := Cond.arrayClass_spec h
  exact ⟨c, fun n z => ⟨fun k h => (by cases h), k, h2, comp, h3⟩, h1⟩
theorem kk_obj {C : String} (h : (Cond.arrayOver (.object C)).before #[.ref b] s = true) : ∃ c : ClassId, ArrOfT s c (.object C) ∧ va_RA s c (.object C) := by
  obtain ⟨comp, c, k, h1, h2, h3, h4, h5⟩ := Cond.arrayOver_spec h
  exact ⟨c, fun n z => ⟨fun k h => (by cases h), k, h3, comp, h4⟩, k, comp, h3, h4, h1, h5⟩
theorem kk_aa {t : FieldType} (h : (Cond.arrayOver (.array t)).before #[.ref b] s = true) : ∃ c : ClassId, ArrOfT s c (.array t) ∧ va_RA s c (.array t) := by
  obtain ⟨comp, c, k, h1, h2, h3, h4, h5⟩ := arrayOverA_spec h
  exact ⟨c, fun n z => ⟨fun k h => (by cases h), k, h3, comp, h4⟩, h5⟩
theorem kk_arr (hts : ∀ w ∈ lw_tbl, w.before #[.ref b] s = true) : ∃ cA : Nat → ClassId, ∀ t, 12 ≤ t → t < 19 → ArrOfT s (cA t) (z_ty t) ∧ va_RA s (cA t) (z_ty t) := by
  have h0 : ∀ t : Nat, ∃ c : ClassId, 12 ≤ t → t < 19 → ArrOfT s c (z_ty t) ∧ va_RA s c (z_ty t) := by
    intro t
    by_cases ht : 12 ≤ t ∧ t < 19
    · have key : ∃ c : ClassId, ArrOfT s c (z_ty t) ∧ va_RA s c (z_ty t) := by
        rcases (show t = 12 ∨ t = 13 ∨ t = 14 ∨ t = 15 ∨ t = 16 ∨ t = 17 ∨ t = 18 by omega) with rfl | rfl | rfl | rfl | rfl | rfl | rfl
        · exact kk_prim (ty := .byte) (kk_tb hts (i := 97) (by decide +kernel))
        · exact kk_prim (ty := .int) (kk_tb hts (i := 80) (by decide +kernel))
        · exact kk_prim (ty := .long) (kk_tb hts (i := 81) (by decide +kernel))
        · exact kk_prim (ty := .boolean) (kk_tb hts (i := 252) (by decide +kernel))
        · exact kk_obj (kk_tb hts (i := 210) (by decide +kernel))
        · exact kk_obj (kk_tb hts (i := 202) (by decide +kernel))
        · exact kk_aa (kk_tb hts (i := 232) (by decide +kernel))
      obtain ⟨c, h⟩ := key
      exact ⟨c, fun _ _ => h⟩
    · exact ⟨0, fun h1 h2 => absurd ⟨h1, h2⟩ ht⟩
  obtain ⟨f, hf⟩ := Classical.axiomOfChoice h0
  exact ⟨f, hf⟩
theorem kk_nw (hts : ∀ w ∈ lw_tbl, w.before #[.ref b] s = true) : ∀ w ∈ z_nw, va_Nw w s := fun w hw => by
  have h := List.mem_filter.mp hw
  have hb := hts w (List.mem_append_right _ h.1)
  have h2 := h.2
  cases w <;> first | exact va_Nw.of rfl hb | exact absurd (show false = true from h2) (by decide)
theorem kk_th (hts : ∀ w ∈ lw_tbl, w.before #[.ref b] s = true) : ∀ w ∈ z_thw.filter (fun w => !goodWord w), va_Nw w s := fun w hw => by
  have h1 := List.all_eq_true.mp kH_ok w hw
  have hb := hts w (of_decide_eq_true h1)
  have h2 := List.all_eq_true.mp z_thw_bad w hw
  cases w <;> first | exact va_Nw.of rfl hb | exact absurd (show false = true from h2) (by decide)
theorem kk_E (hgv : (Jvm.Cond.and given_1 narrow_1).before #[.ref b] s = true) : ∃ ad : Nat → Nat, ∀ k, k < 23 → (kE k).eval #[.ref b] s none [] s = some (.ref (ad k)) := by
  have h0 : ∀ k : Nat, ∃ a : Nat, k < 23 → (kE k).eval #[.ref b] s none [] s = some (.ref a) := by
    intro k
    by_cases hk : k < 23
    · obtain ⟨a, c, cell, kk, q1, -⟩ := Cond.exactly_spec (kk_at hgv (kX_ok k hk))
      exact ⟨a, fun _ => q1⟩
    · exact ⟨0, fun h => absurd h hk⟩
  exact Classical.axiomOfChoice h0
theorem kF_all : ∀ a : Nat, a < s.heap.size → ¬ z_F a := fun _ _ h => h
theorem kk_S1 (hts : ∀ w ∈ lw_tbl, w.before #[.ref b] s = true) (hgv : (Jvm.Cond.and given_1 narrow_1).before #[.ref b] s = true) (hG : G.2.2.2.2 = s.heap) (hE : ∀ k, k < 23 → (kE k).eval #[.ref b] s none [] s = some (.ref (G.2.2.2.1 k))) : z_S1 G s := by
  have hA := kF_all (s := s)
  have hi : (Cond.initialized "DreamTests$Word").before #[.ref b] s = true := kk_tb hts (i := 6) (by decide +kernel)
  have hp : (Cond.initialized "DreamTests$Plan").before #[.ref b] s = true := kk_tb hts (i := 10) (by decide +kernel)
  unfold z_S1
  rw [hG]
  refine ⟨fun k hk => va_Zof (kk_tb hts (kL_ok k hk)) hi (hE k hk) hA, fun k hk => ⟨vk_OFof (hE k hk) (va_eqtl (kk_at hgv (kN_ok k hk))) hA, vk_OFof (hE k hk) (va_eqt (kk_at hgv (kT_ok k hk))) hA, vk_OFof (hE k hk) (va_eqt (kk_at hgv (kW_ok k hk))) hA, vk_OFof (hE k hk) (va_eqt (kk_at hgv (kG_ok k hk))) hA⟩, fun i j h1 h2 e => ?_, ?_, ?_, va_AO.of (kk_tb hts (i := 210) (by decide +kernel)), va_AO.of (kk_tb hts (i := 202) (by decide +kernel))⟩
  · have oi := va_eqt (kk_at hgv (kO_ok i h1))
    have oj := va_eqt (kk_at hgv (kO_ok j h2))
    rw [va_fe (hE i h1)] at oi
    rw [va_fe (hE j h2), ← e] at oj
    have q := Value.int.inj (Option.some.inj (oi.symm.trans oj))
    rw [nI_eq (by omega) (by omega)] at q
    exact q
  · obtain ⟨t, ht, hT⟩ := va_Tof (s := s) (args := #[.ref b]) (tm := .static "DreamTests$Word" "ALL" "[LDreamTests$Word;") (ty := .object "DreamTests$Word") (N := 23) (f := fun j => .ref (G.2.2.2.1 j)) (by decide) (kk_at hgv (i := 12) (by decide +kernel)) (va_eqt (kk_at hgv (i := 13) (by decide +kernel))) (fun j hj => kk_eqr (kk_at hgv (kM_ok j hj)) (hE j hj)) hA
    exact ⟨t, va_Zof (kk_tb hts (i := 377) (by decide +kernel)) hi ht hA, hT⟩
  · obtain ⟨t, ht, hT⟩ := va_Tof (s := s) (args := #[.ref b]) (tm := .static "DreamTests$Plan" "UNITS" "[I") (ty := .int) (N := 6) (f := fun j => .int (z_unit j)) (by decide) (kk_at hgv (i := 54) (by decide +kernel)) (va_eqt (kk_at hgv (i := 55) (by decide +kernel))) (fun j hj => va_eqt (kk_at hgv (kU_ok j hj))) hA
    exact ⟨t, va_Zof (kk_tb hts (i := 684) (by decide +kernel)) hp ht hA, hT⟩
theorem kk_S (hgv : (Jvm.Cond.and given_1 narrow_1).before #[.ref b] s = true) : ∃ adK adV : Nat → Nat, vk_S 5 z_sln z_sby adK adV z_F s s.heap ∧ ∀ i, i < 5 → (kS i).eval #[.ref b] s none [] s = some (.ref (adK i)) :=
  vk_Sof (tm := kS) (fun i hi => (kB_ok i hi).2.2.2.2) (fun i hi => kk_at hgv (kB_ok i hi).1) (fun i hi => kk_at hgv (kB_ok i hi).2.1) (fun i hi => kk_at hgv (kB_ok i hi).2.2.1) (fun i hi => kk_at hgv (kB_ok i hi).2.2.2.1) (fun i hi j hj => kk_at hgv (kC_ok i hi j hj))
    (fun i j h1 h2 hne => by
      by_cases q : i < j
      · exact Or.inl (kk_at hgv (kD_ok j h2 i q))
      · exact Or.inr (kk_at hgv (kD_ok i h1 j (by omega)))) kF_all
theorem kk_S2 (hts : ∀ w ∈ lw_tbl, w.before #[.ref b] s = true) (hgv : (Jvm.Cond.and given_1 narrow_1).before #[.ref b] s = true) {adK adV : Nat → Nat} (hS : vk_S 5 z_sln z_sby adK adV z_F s s.heap) (hK : ∀ i, i < 5 → (kS i).eval #[.ref b] s none [] s = some (.ref (adK i))) (hG : G.2.2.2.2 = s.heap) (hE : ∀ i, G.2.2.2.1 (23 + i) = adK i) : z_S2 G s := by
  have hA := kF_all (s := s)
  have eG : (fun i => G.2.2.2.1 (23 + i)) = adK := funext hE
  unfold z_S2
  rw [hG, eG]
  refine ⟨⟨adV, hS⟩, fun i hi => ?_, va_Zof (kk_tb hts (i := 721) (by decide +kernel)) (kk_tb hts (i := 20) (by decide +kernel)) (va_eqi (kk_at hgv (i := 62) (by decide +kernel))) hA, va_Zqof (kk_tb hts (i := 737) (by decide +kernel)) (kk_tb hts (i := 22) (by decide +kernel)) (kk_at hgv (i := 63) (by decide +kernel)) hA⟩
  rw [hE i]
  exact vk_R.of (A := #[.ref b]) (kk_tb hts (kR_ok i hi)) (hK i hi)
theorem kk_S3 (hts : ∀ w ∈ lw_tbl, w.before #[.ref b] s = true) (hgv : (Jvm.Cond.and given_1 narrow_1).before #[.ref b] s = true) (hG : G.2.2.2.2 = s.heap) : z_S3 G s := by
  have hA := kF_all (s := s)
  have hi : (Cond.initialized "java/lang/Throwable").before #[.ref b] s = true := kk_tb hts (i := 15) (by decide +kernel)
  unfold z_S3
  rw [hG]
  exact ⟨kk_th hts, vx_Zqof (kk_tb hts (i := 1104) (by decide +kernel)) hi (kk_at hgv (i := 307) (by decide +kernel)) hA, vx_Zqof (kk_tb hts (i := 1106) (by decide +kernel)) hi (kk_at hgv (i := 308) (by decide +kernel)) hA, va_Nw.of rfl (kk_tb hts (i := 1079) (by decide +kernel)), kk_tb hts (i := 232) (w := .arrayOver (.array .long)) (by decide +kernel)⟩
theorem kk_all (hts : ∀ w ∈ lw_tbl, w.before #[.ref b] s = true) (hgv : (Jvm.Cond.and given_1 narrow_1).before #[.ref b] s = true) : ∃ G : z_Gt, G.2.2.2.2 = s.heap ∧ z_KK G (z_S G) s := by
  obtain ⟨cC, iS, h1⟩ := kk_known hts
  obtain ⟨cA, h2⟩ := kk_arr hts
  obtain ⟨adE, h3⟩ := kk_E hgv
  obtain ⟨adK, adV, h4, h5⟩ := kk_S hgv
  refine ⟨(cC, iS, cA, fun k => if k < 23 then adE k else adK (k - 23), s.heap), rfl, h1, h2, kk_nw hts, kk_S1 hts hgv rfl (fun k hk => ?_), kk_S2 hts hgv h4 h5 rfl (fun i => ?_), kk_S3 hts hgv rfl⟩
  · show (kE k).eval #[.ref b] s none [] s = some (.ref (if k < 23 then adE k else adK (k - 23)))
    rw [if_pos hk]
    exact h3 k hk
  · show (if 23 + i < 23 then adE (23 + i) else adK (23 + i - 23)) = adK i
    rw [if_neg (by omega), Nat.add_sub_cancel_left]
end KK
