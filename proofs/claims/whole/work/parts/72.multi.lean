/-! new long[N][K]: the row itself stands in wip/whole/later/88.multi (it wants the whole library); here only its statement -/
def z_ml (h : z_T) (N K : Nat) : z_T :=
  ((fun a => if z_n h ≤ a ∧ a ≤ z_n h + N then (fun _ => 0) else z_I h a), (fun a => if z_n h ≤ a ∧ a ≤ z_n h + N then (fun _ => 0) else z_L h a),
   (fun a => if a = z_n h then (fun j => if j < N then some (z_n h + 1 + j) else none) else if z_n h ≤ a ∧ a ≤ z_n h + N then (fun _ => none) else z_R h a),
   (fun a => if a = z_n h then 18 else if z_n h ≤ a ∧ a ≤ z_n h + N then 14 else z_K h a), (fun a => if a = z_n h then N else if z_n h ≤ a ∧ a ≤ z_n h + N then K else z_N h a), z_n h + 1 + N)
section ZML
variable {p : Program} {l : Launch} {e : Env} {R : Room} {s : State} {m : MethodId} {args : Array Value} {below : List Frame} {meth : Method} {c : Code} {H : Heap} {locs : List Loc} {cells slots : Nat} {Q : State → Prop}
variable {cc : ByteArray} {pc nL : Nat} {ls : Array Slot} {rest : List Value} {own : String} {G : z_Gt} {S : State → Prop} {ad : Nat → Nat} {n0 : Nat} {h h1 : z_T}
theorem z_multi (hc : z_C G S ad n0 p m c cc nL s args own meth) (hB : z_B G ad n0 s h H locs) (N K : Nat) {n k : Int32} {index : Nat} (eh : h1 = z_ml h N K) (hN : n.toNatClampNeg = N) (hM : k.toNatClampNeg = K) (hn : ¬ n < 0) (hk : ¬ k < 0) (hb1 : N * 4 ≤ 536870912) (hb2 : K * 8 ≤ 536870912) (hl : Cond.classLink own index "[[J" ∈ z_ws) (hover : va_Nw (.arrayOver (.array .long)) s) (harr : Cond.arrayClass .long ∈ z_ws) (hcells : cells + (1 + N) ≤ R.cells) (hslots : slots + (N + N * K) ≤ R.slots) (hdg : decode cc pc = .ok (.multianewarray index 2, 4))
    (kk : ∀ (H1 : Heap), z_B G ad n0 s h1 H1 locs → W p l e R s m args below meth c H1 locs (cells + 1 + N) (slots + N + N * K) Q (F0 m (pc + 4) ls (.ref (ad (z_n h)) :: rest))) : W p l e R s m args below meth c H locs cells slots Q (F0 m pc ls (.int k :: .int n :: rest)) := by
  sorry
theorem z_ml_ok {h : z_T} {N K : Nat} : z_ok (z_ml h N K) (z_n h) 18 = true := by
  have e : z_n (z_ml h N K) = z_n h + 1 + N := rfl
  have eK0 : z_K (z_ml h N K) (z_n h) = 18 := if_pos rfl
  simp [z_ok, e, eK0]; omega
end ZML
