/-! arrays, new things, calls, ends -/
section ZA
variable {p : Program} {l : Launch} {e : Env} {R : Room} {s : State} {m : MethodId} {args : Array Value} {below : List Frame} {meth : Method} {c : Code} {H : Heap} {locs : List Loc} {cells slots : Nat} {Q : State → Prop}
variable {cc : ByteArray} {pc nL : Nat} {ls : Array Slot} {rest : List Value} {own : String} {G : z_Gt} {S : State → Prop} {ad : Nat → Nat} {n0 : Nat} {h : z_T}

theorem z_arr (hc : z_C G S ad n0 p m c cc nL s args own meth) (hB : z_B G ad n0 s h H locs) (kd : Nat) {o : Nat} (hg : z_ok h o kd = true) (h1 : 12 ≤ kd) : H[ad o]? = some (arrV (G.2.2.1 kd) (z_N h o) (z_av ad h o kd)) := by
  have hkd := z_ok_K hg
  have hcell := (hB.1.1 o (z_ok_lt hg)).2.1 (by rw [hkd]; exact h1)
  rw [hkd] at hcell
  exact hcell
theorem z_iald (hc : z_C G S ad n0 p m c cc nL s args own meth) (hB : z_B G ad n0 s h H locs) {o : Nat} {i : Int32} (hg : z_ok h o 13 = true) (hi : z_ix i (z_N h o) = true) (hdg : decode cc pc = .ok (.iaload, 1))
    (kk : W p l e R s m args below meth c H locs cells slots Q (F0 m (pc + 1) ls (.int (z_I h o i.toNatClampNeg) :: rest))) : W p l e R s m args below meth c H locs cells slots Q (F0 m pc ls (.int i :: .ref (ad o) :: rest)) := by
  have hin := z_ix_in hi
  have hlt : i.toNatClampNeg < z_N h o := Nat.not_le.mp fun q => hin (Or.inr q)
  exact W.iald (v := .int (z_I h o i.toNatClampNeg)) hc.1.1 hc.1.2.1 (z_arr hc hB 13 hg (by decide)) ((hc.2.1.2.1 13 (by decide) (by decide)).1 _ _) (fun q => by cases q) (by rw [arrV_size]; exact hin) (by rw [arrV_read _ _ hlt]; rfl) rfl rfl hdg kk
theorem z_lald (hc : z_C G S ad n0 p m c cc nL s args own meth) (hB : z_B G ad n0 s h H locs) {o : Nat} {i : Int32} (hg : z_ok h o 14 = true) (hi : z_ix i (z_N h o) = true) (hdg : decode cc pc = .ok (.laload, 1))
    (kk : W p l e R s m args below meth c H locs cells slots Q (F0 m (pc + 1) ls (.long (z_L h o i.toNatClampNeg) :: rest))) : W p l e R s m args below meth c H locs cells slots Q (F0 m pc ls (.int i :: .ref (ad o) :: rest)) := by
  have hin := z_ix_in hi
  have hlt : i.toNatClampNeg < z_N h o := Nat.not_le.mp fun q => hin (Or.inr q)
  exact W.lald (v := .long (z_L h o i.toNatClampNeg)) hc.1.1 hc.1.2.1 (z_arr hc hB 14 hg (by decide)) ((hc.2.1.2.1 14 (by decide) (by decide)).1 _ _) (fun q => by cases q) (by rw [arrV_size]; exact hin) (by rw [arrV_read _ _ hlt]; rfl) rfl rfl hdg kk
theorem z_bald (hc : z_C G S ad n0 p m c cc nL s args own meth) (hB : z_B G ad n0 s h H locs) {o : Nat} {i : Int32} (hg : z_ok h o 12 = true) (hi : z_ix i (z_N h o) = true) (hdg : decode cc pc = .ok (.baload, 1))
    (kk : W p l e R s m args below meth c H locs cells slots Q (F0 m (pc + 1) ls (.int (z_I h o i.toNatClampNeg) :: rest))) : W p l e R s m args below meth c H locs cells slots Q (F0 m pc ls (.int i :: .ref (ad o) :: rest)) := by
  have hin := z_ix_in hi
  have hlt : i.toNatClampNeg < z_N h o := Nat.not_le.mp fun q => hin (Or.inr q)
  exact W.bald (v := .int (z_I h o i.toNatClampNeg)) hc.1.1 hc.1.2.1 (z_arr hc hB 12 hg (by decide)) ((hc.2.1.2.1 12 (by decide) (by decide)).1 _ _) (fun q => by cases q) (by rw [arrV_size]; exact hin) (by rw [arrV_read _ _ hlt]; rfl) rfl rfl hdg kk
theorem z_zald (hc : z_C G S ad n0 p m c cc nL s args own meth) (hB : z_B G ad n0 s h H locs) {o : Nat} {i : Int32} (hg : z_ok h o 15 = true) (hi : z_ix i (z_N h o) = true) (hdg : decode cc pc = .ok (.baload, 1))
    (kk : W p l e R s m args below meth c H locs cells slots Q (F0 m (pc + 1) ls (.int (z_I h o i.toNatClampNeg) :: rest))) : W p l e R s m args below meth c H locs cells slots Q (F0 m pc ls (.int i :: .ref (ad o) :: rest)) := by
  have hin := z_ix_in hi
  have hlt : i.toNatClampNeg < z_N h o := Nat.not_le.mp fun q => hin (Or.inr q)
  exact W.zald (v := .int (z_I h o i.toNatClampNeg)) hc.1.1 hc.1.2.1 (z_arr hc hB 15 hg (by decide)) ((hc.2.1.2.1 15 (by decide) (by decide)).1 _ _) (fun q => by cases q) (by rw [arrV_size]; exact hin) (by rw [arrV_read _ _ hlt]; rfl) rfl rfl hdg kk
theorem z_aaldQ (hc : z_C G S ad n0 p m c cc nL s args own meth) (hB : z_B G ad n0 s h H locs) (kd : Nat) (h1 : 16 ≤ kd) (h2 : kd < 19) (hty : (z_ty kd).isReference = true) {o : Nat} {i : Int32} (hg : z_ok h o kd = true) (hi : z_ix i (z_N h o) = true) (hdg : decode cc pc = .ok (.aaload, 1))
    (kk : W p l e R s m args below meth c H locs cells slots Q (F0 m (pc + 1) ls (va_rf ((z_R h o i.toNatClampNeg).map ad) :: rest))) : W p l e R s m args below meth c H locs cells slots Q (F0 m pc ls (.int i :: .ref (ad o) :: rest)) := by
  have hin := z_ix_in hi
  have hlt : i.toNatClampNeg < z_N h o := Nat.not_le.mp fun q => hin (Or.inr q)
  have hv : z_av ad h o kd i.toNatClampNeg = va_rf ((z_R h o i.toNatClampNeg).map ad) := by
    rcases (show kd = 16 ∨ kd = 17 ∨ kd = 18 by omega) with rfl | rfl | rfl <;> rfl
  exact W.aald (v := va_rf ((z_R h o i.toNatClampNeg).map ad)) (ty := z_ty kd) hc.1.1 hc.1.2.1 (z_arr hc hB kd hg (by omega)) ((hc.2.1.2.1 kd (by omega) h2).1 _ _) hty (fun q => by cases q) (by rw [arrV_size]; exact hin) (by rw [arrV_read _ _ hlt, hv]) rfl rfl hdg kk
theorem z_aald (hc : z_C G S ad n0 p m c cc nL s args own meth) (hB : z_B G ad n0 s h H locs) (kd : Nat) (h1 : 16 ≤ kd) (h2 : kd < 19) (hty : (z_ty kd).isReference = true) {o o1 : Nat} {i : Int32} (hg : z_ok h o kd = true) (hi : z_ix i (z_N h o) = true) (hr : z_R h o i.toNatClampNeg = some o1) (hdg : decode cc pc = .ok (.aaload, 1))
    (kk : W p l e R s m args below meth c H locs cells slots Q (F0 m (pc + 1) ls (.ref (ad o1) :: rest))) : W p l e R s m args below meth c H locs cells slots Q (F0 m pc ls (.int i :: .ref (ad o) :: rest)) := z_aaldQ hc hB kd h1 h2 hty hg hi hdg (by rw [hr]; exact kk)
theorem z_alen (hc : z_C G S ad n0 p m c cc nL s args own meth) (hB : z_B G ad n0 s h H locs) (kd : Nat) (h1 : 12 ≤ kd) (h2 : kd < 19) {o : Nat} (hg : z_ok h o kd = true) (hdg : decode cc pc = .ok (.arraylength, 1))
    (kk : W p l e R s m args below meth c H locs cells slots Q (F0 m (pc + 1) ls (.int (nI (z_N h o)) :: rest))) : W p l e R s m args below meth c H locs cells slots Q (F0 m pc ls (.ref (ad o) :: rest)) :=
  W.alen hc.1.1 hc.1.2.1 (z_arr hc hB kd hg h1) ((hc.2.1.2.1 kd h1 h2).1 _ _) (by rw [arrV_size]; rfl) rfl rfl hdg kk
theorem z_ast_fin {H1 : Heap} (hc : z_C G S ad n0 p m c cc nL s args own meth) (hB : z_B G ad n0 s h H locs) (kd : Nat) {o : Nat} {h' : z_T} (hg : z_ok h o kd = true) (h1 : 12 ≤ kd) (f : Nat → Value) (g1 : H1[ad o]? = some (arrV (G.2.2.1 kd) (z_N h o) f)) (g2 : H1.size = H.size) (g3 : ∀ q, q ≠ ad o → H1[q]? = H[q]?) {k : Nat} (e1 : z_n h' = z_n h) (e2 : ∀ q, q ≠ o → z_sm h h' q) (e3 : z_K h' = z_K h) (e4 : z_N h' = z_N h) (e5 : ∀ j, f j = z_av ad h' o kd j) (e6 : ∀ j r, z_R h' o j = some r → r < z_n h) : z_B G ad n0 s h' H1 (locs ++ [⟨ad o, k⟩]) := by
  have hkd := z_ok_K hg
  refine ⟨hB.1.put e1 e2 ⟨fun hh => ?_, fun _ => ?_, fun j r _ g4 => by rw [e1]; exact e6 j r g4⟩ g2 g3, z_S_put hc hB g2 g3⟩
  · rw [e3, hkd] at hh; omega
  · rw [e3, e4, hkd, g1]
    congr 2
    funext j
    exact e5 j
theorem z_iast (hc : z_C G S ad n0 p m c cc nL s args own meth) (hB : z_B G ad n0 s h H locs) {o : Nat} {i : Int32} {x : Int32} (hg : z_ok h o 13 = true) (hi : z_ix i (z_N h o) = true) (hdg : decode cc pc = .ok (.iastore, 1))
    (kk : ∀ (H1 : Heap) (locs1 : List Loc), z_B G ad n0 s (z_sI h o i.toNatClampNeg x) H1 locs1 → W p l e R s m args below meth c H1 locs1 cells slots Q (F0 m (pc + 1) ls (rest))) : W p l e R s m args below meth c H locs cells slots Q (F0 m pc ls (.int x :: .int i :: .ref (ad o) :: rest)) := by
  have hin := z_ix_in hi
  refine W.iast hc.1.1 hc.1.2.1 (z_arr hc hB 13 hg (by decide)) ((hc.2.1.2.1 13 (by decide) (by decide)).1 _ _) (fun q => by cases q) (by rw [arrV_size]; exact hin) rfl rfl hdg fun H1 g1 g2 g3 => ?_
  rw [arrV_store] at g1
  refine kk H1 _ (z_ast_fin hc hB 13 hg (by decide) _ g1 g2 g3 rfl z_sm_I rfl rfl (fun j => ?_) (fun j r g => z_cla hB hg (by decide) g))
  show updV _ _ _ _ = Value.int (z_u2 h.1 o i.toNatClampNeg (x) o j)
  by_cases e : j = i.toNatClampNeg
  · subst e
    simp [updV, z_u2_s]
    try rfl
  · simp only [updV, z_u2_s, if_neg e]
    rfl
theorem z_last (hc : z_C G S ad n0 p m c cc nL s args own meth) (hB : z_B G ad n0 s h H locs) {o : Nat} {i : Int32} {x : Int64} (hg : z_ok h o 14 = true) (hi : z_ix i (z_N h o) = true) (hdg : decode cc pc = .ok (.lastore, 1))
    (kk : ∀ (H1 : Heap) (locs1 : List Loc), z_B G ad n0 s (z_sL h o i.toNatClampNeg x) H1 locs1 → W p l e R s m args below meth c H1 locs1 cells slots Q (F0 m (pc + 1) ls (rest))) : W p l e R s m args below meth c H locs cells slots Q (F0 m pc ls (.long x :: .int i :: .ref (ad o) :: rest)) := by
  have hin := z_ix_in hi
  refine W.last hc.1.1 hc.1.2.1 (z_arr hc hB 14 hg (by decide)) ((hc.2.1.2.1 14 (by decide) (by decide)).1 _ _) (fun q => by cases q) (by rw [arrV_size]; exact hin) rfl rfl hdg fun H1 g1 g2 g3 => ?_
  rw [arrV_store] at g1
  refine kk H1 _ (z_ast_fin hc hB 14 hg (by decide) _ g1 g2 g3 rfl z_sm_L rfl rfl (fun j => ?_) (fun j r g => z_cla hB hg (by decide) g))
  show updV _ _ _ _ = Value.long (z_u2 h.2.1 o i.toNatClampNeg (x) o j)
  by_cases e : j = i.toNatClampNeg
  · subst e
    simp [updV, z_u2_s]
    try rfl
  · simp only [updV, z_u2_s, if_neg e]
    rfl
theorem z_bast (hc : z_C G S ad n0 p m c cc nL s args own meth) (hB : z_B G ad n0 s h H locs) {o : Nat} {i : Int32} {x : Int32} (hg : z_ok h o 12 = true) (hi : z_ix i (z_N h o) = true) (hdg : decode cc pc = .ok (.bastore, 1))
    (kk : ∀ (H1 : Heap) (locs1 : List Loc), z_B G ad n0 s (z_sI h o i.toNatClampNeg x.toInt8.toInt32) H1 locs1 → W p l e R s m args below meth c H1 locs1 cells slots Q (F0 m (pc + 1) ls (rest))) : W p l e R s m args below meth c H locs cells slots Q (F0 m pc ls (.int x :: .int i :: .ref (ad o) :: rest)) := by
  have hin := z_ix_in hi
  refine W.bast hc.1.1 hc.1.2.1 (z_arr hc hB 12 hg (by decide)) ((hc.2.1.2.1 12 (by decide) (by decide)).1 _ _) (fun q => by cases q) (by rw [arrV_size]; exact hin) rfl rfl hdg fun H1 g1 g2 g3 => ?_
  rw [arrV_store] at g1
  refine kk H1 _ (z_ast_fin hc hB 12 hg (by decide) _ g1 g2 g3 rfl z_sm_I rfl rfl (fun j => ?_) (fun j r g => z_cla hB hg (by decide) g))
  show updV _ _ _ _ = Value.int (z_u2 h.1 o i.toNatClampNeg (x.toInt8.toInt32) o j)
  by_cases e : j = i.toNatClampNeg
  · subst e
    simp [updV, z_u2_s]
    try rfl
  · simp only [updV, z_u2_s, if_neg e]
    rfl
theorem z_zast (hc : z_C G S ad n0 p m c cc nL s args own meth) (hB : z_B G ad n0 s h H locs) {o : Nat} {i : Int32} {x : Int32} (hg : z_ok h o 15 = true) (hi : z_ix i (z_N h o) = true) (hdg : decode cc pc = .ok (.bastore, 1))
    (kk : ∀ (H1 : Heap) (locs1 : List Loc), z_B G ad n0 s (z_sI h o i.toNatClampNeg (vp_nar .boolean x)) H1 locs1 → W p l e R s m args below meth c H1 locs1 cells slots Q (F0 m (pc + 1) ls (rest))) : W p l e R s m args below meth c H locs cells slots Q (F0 m pc ls (.int x :: .int i :: .ref (ad o) :: rest)) := by
  have hin := z_ix_in hi
  refine W.zast hc.1.1 hc.1.2.1 (z_arr hc hB 15 hg (by decide)) ((hc.2.1.2.1 15 (by decide) (by decide)).1 _ _) (fun q => by cases q) (by rw [arrV_size]; exact hin) rfl rfl hdg fun H1 g1 g2 g3 => ?_
  rw [arrV_store] at g1
  refine kk H1 _ (z_ast_fin hc hB 15 hg (by decide) _ g1 g2 g3 rfl z_sm_I rfl rfl (fun j => ?_) (fun j r g => z_cla hB hg (by decide) g))
  show updV _ _ _ _ = Value.int (z_u2 h.1 o i.toNatClampNeg ((vp_nar .boolean x)) o j)
  by_cases e : j = i.toNatClampNeg
  · subst e
    simp [updV, z_u2_s, vp_nar]
    try rfl
  · simp only [updV, z_u2_s, if_neg e]
    rfl
theorem z_aast (hc : z_C G S ad n0 p m c cc nL s args own meth) (hB : z_B G ad n0 s h H locs) (kd ci : Nat) (h1 : 16 ≤ kd) (h2 : kd < 18) (hci : ci < 12) (hty : z_ty kd = .object (z_c ci).1) {o v : Nat} {i : Int32} (hg : z_ok h o kd = true) (hi : z_ix i (z_N h o) = true) (hv : z_ok h v ci = true) (hdg : decode cc pc = .ok (.aastore, 1))
    (kk : ∀ (H1 : Heap) (locs1 : List Loc), z_B G ad n0 s (z_sR h o i.toNatClampNeg (some v)) H1 locs1 → W p l e R s m args below meth c H1 locs1 cells slots Q (F0 m (pc + 1) ls (rest))) : W p l e R s m args below meth c H locs cells slots Q (F0 m pc ls (.ref (ad v) :: .int i :: .ref (ad o) :: rest)) := by
  have hin := z_ix_in hi
  have hlt : i.toNatClampNeg < z_N h o := Nat.not_le.mp fun q => hin (Or.inr q)
  have h0 : ¬ i < 0 := fun q => hin (Or.inl q)
  have hkd := z_ok_K hv
  have hcell := (hB.1.1 v (z_ok_lt hv)).1 (by rw [hkd]; exact hci)
  rw [hkd] at hcell
  obtain ⟨cellV, q1, q2, q3, -⟩ := hcell
  have hcls := (hc.2.1.1 ci hci).2
  have hra := (hc.2.1.2.1 kd (by omega) (by omega)).2
  rw [hty] at hra
  obtain ⟨kA, comp, k1, k2, k3, -⟩ := hra
  have hcomp : comp = G.1 ci := Option.some.inj (k3.symm.trans hcls.1)
  subst hcomp
  obtain ⟨kC, hkC, -⟩ := hcls.2
  refine W.aast hc.1.1 hc.1.2.1 (z_arr hc hB kd hg (by omega)) (fun q h => by cases h) (fun h => by cases h) k1 k2 rfl hkC ⟨h0, by rw [arrV_size]; exact hlt⟩ q1 (fun q h => by rw [q3] at h; cases h) (by rw [q2]; exact hkC) (by rw [q2]; exact va_assign hcls) rfl rfl hdg fun H1 g1 g2 g3 => ?_
  rw [arrV_store] at g1
  refine kk H1 _ (z_ast_fin hc hB kd hg (by omega) _ g1 g2 g3 rfl z_sm_R rfl rfl (fun j => ?_) (fun j q g => by
    have g' : z_u2 h.2.2.1 o i.toNatClampNeg (some v) o j = some q := g
    rw [z_u2_s] at g'
    by_cases e : j = i.toNatClampNeg
    · rw [if_pos e] at g'; cases g'; exact z_ok_lt hv
    · rw [if_neg e] at g'; exact z_cla hB hg (by omega) g'))
  have hv2 : ∀ h' : z_T, z_av ad h' o kd j = va_rf ((z_R h' o j).map ad) := by
    intro h'
    rcases (show kd = 16 ∨ kd = 17 by omega) with rfl | rfl <;> rfl
  rw [hv2]
  show updV _ _ _ _ = va_rf ((z_u2 h.2.2.1 o i.toNatClampNeg (some v) o j).map ad)
  by_cases e : j = i.toNatClampNeg
  · subst e
    simp [updV, z_u2_s, va_rf]
  · simp only [updV, z_u2_s, if_neg e]
    rw [hv2]
    rfl
end ZA
