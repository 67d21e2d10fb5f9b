/-! two worlds beside one another, the class's and the reference's: one is called, the other stays -/
def z_re (ad : Nat → Nat) (n sz : Nat) : Nat → Nat := fun i => if i < n then ad i else sz + (i - n)
theorem z_re_lt {ad : Nat → Nat} {n sz i : Nat} (h : i < n) : z_re ad n sz i = ad i := if_pos h
theorem z_re_ge {ad : Nat → Nat} {n sz i : Nat} (h : ¬ i < n) : z_re ad n sz i = sz + (i - n) := if_neg h
theorem z_A0 (ad ad' : Nat → Nat) (sz : Nat) : z_A ad 0 sz = z_A ad' 0 sz := by
  funext q
  apply propext
  constructor
  · rintro (⟨i, hi, -⟩ | h)
    · exact absurd hi (Nat.not_lt_zero _)
    · exact Or.inr h
  · rintro (⟨i, hi, -⟩ | h)
    · exact absurd hi (Nat.not_lt_zero _)
    · exact Or.inr h
theorem z_cell.re {G : z_Gt} {ad : Nat → Nat} {h : z_T} {H H1 : Heap} {o sz : Nat} (ho : o < z_n h) (hq : H1[ad o]? = H[ad o]?) (hc : z_cell G ad h H o) : z_cell G (z_re ad (z_n h) sz) h H1 o := by
  obtain ⟨c1, c2, c3⟩ := hc
  have eo : z_re ad (z_n h) sz o = ad o := if_pos ho
  have em : ∀ k, (z_K h o < 12 → z_tg (z_K h o) k = 2) → (z_R h o k).map (z_re ad (z_n h) sz) = (z_R h o k).map ad := by
    intro k g
    cases e : z_R h o k with
    | none => rfl
    | some r => exact congrArg some (z_re_lt (c3 k r g e))
  refine ⟨fun hk => ?_, fun hk => ?_, c3⟩
  · rw [eo]
    refine ((c1 hk).kept hq).to (fun k _ => ?_)
    by_cases t2 : z_tg (z_K h o) k = 2
    · rw [t2]
      show va_rf _ = va_rf _
      rw [em k (fun _ => t2)]
    · generalize z_tg (z_K h o) k = t at t2
      match t, t2 with
      | 0, _ => rfl
      | 1, _ => rfl
      | 2, h2 => exact absurd rfl h2
      | t + 3, _ => rfl
  · rw [eo, hq, c2 hk]
    congr 2
    funext j
    have e1 := em j (fun hh => absurd hh (by omega))
    unfold z_av
    split <;> first | rfl | rw [e1]
theorem z_W.re {G : z_Gt} {ad : Nat → Nat} {h : z_T} {H H1 : Heap} (w : z_W G ad h H) {A : Nat → Prop} (hz : H.size ≤ H1.size) (hq : ∀ q : Nat, q < H.size → ¬ A q → H1[q]? = H[q]?) (hA : ∀ i, i < z_n h → ¬ A (ad i)) (hG : ∀ q, q < G.2.2.2.2.size → ¬ A q) : z_W G (z_re ad (z_n h) H1.size) h H1 := by
  obtain ⟨w1, w2, w3, w4, w5, w6, w7⟩ := w
  refine ⟨fun o ho => (w1 o ho).re ho (hq _ (w6 o ho) (hA o ho)), fun i j e => ?_, fun i hi => z_re_ge (by omega), fun i => ?_, fun q g => (hq q (by omega) (hG q g)).trans (w5 q g), fun i hi => ?_, by omega⟩
  · by_cases hi : i < z_n h
    · by_cases hj : j < z_n h
      · rw [z_re_lt hi, z_re_lt hj] at e; exact w2 i j e
      · rw [z_re_lt hi, z_re_ge hj] at e; have := w6 i hi; omega
    · by_cases hj : j < z_n h
      · rw [z_re_ge hi, z_re_lt hj] at e; have := w6 j hj; omega
      · rw [z_re_ge hi, z_re_ge hj] at e; omega
  · by_cases hi : i < z_n h
    · rw [z_re_lt hi]; exact w4 i
    · rw [z_re_ge hi]; omega
  · rw [z_re_lt hi]; have := w6 i hi; omega
/-- the two worlds now -/
def z_2 (G : z_Gt) (s : State) (ad ad2 : Nat → Nat) (h h2 : z_T) (H : Heap) (locs : List Loc) : Prop :=
  z_W G ad h H ∧ z_W G ad2 h2 H ∧ va_S (fun q => s.heap.size ≤ q) s.heap H locs ∧ (∀ i, i < z_n h → ∀ j, j < z_n h2 → ad i ≠ ad2 j) ∧ (∀ i, s.heap.size ≤ ad i) ∧ (∀ i, s.heap.size ≤ ad2 i)
theorem z_A0' (ad : Nat → Nat) (sz : Nat) : z_A ad 0 sz = fun q => sz ≤ q := by
  funext q
  apply propext
  constructor
  · rintro (⟨i, hi, -⟩ | h)
    · exact absurd hi (Nat.not_lt_zero _)
    · exact h
  · exact Or.inr
theorem z_2.swap {G : z_Gt} {s : State} {ad ad2 : Nat → Nat} {h h2 : z_T} {H : Heap} {locs : List Loc} (w : z_2 G s ad ad2 h h2 H locs) : z_2 G s ad2 ad h2 h H locs :=
  ⟨w.2.1, w.1, w.2.2.1, fun i hi j hj e => w.2.2.2.1 j hj i hi e.symm, w.2.2.2.2.2, w.2.2.2.2.1⟩
theorem z_2.B {G : z_Gt} {s : State} {ad ad2 : Nat → Nat} {h h2 : z_T} {H : Heap} {locs : List Loc} (w : z_2 G s ad ad2 h h2 H locs) : z_B G ad 0 s h H locs := ⟨w.1, by rw [z_A0']; exact w.2.2.1⟩
theorem z_C.re {G : z_Gt} {S : State → Prop} {ad ad' : Nat → Nat} {p : Program} {m : MethodId} {c : Code} {cc : ByteArray} {nL : Nat} {s : State} {args : Array Value} {own : String} {meth : Method} (hc : z_C G S ad 0 p m c cc nL s args own meth) (h : ∀ i, s.heap.size ≤ ad' i) : z_C G S ad' 0 p m c cc nL s args own meth :=
  ⟨hc.1, hc.2.1, fun i => Or.inr (h i), hc.2.2.2⟩
/-- one world went on to h' (its new heap may have been laid anew: ad'), the other stayed -/
theorem z_2.next {G : z_Gt} {s : State} {ad ad2 ad' : Nat → Nat} {h h' h2 : z_T} {H H1 : Heap} {locs locs1 : List Loc} (w : z_2 G s ad ad2 h h2 H locs) (hz : H.size ≤ H1.size) (hq : ∀ q : Nat, q < H.size → ¬ z_A ad (z_n h) H.size q → H1[q]? = H[q]?) (hS : va_S (z_A ad 0 s.heap.size) s.heap H1 locs1) (h1 : z_W G ad' h' H1) (had : ∀ i, i < z_n h' → ad' i = ad i) (hb : ∀ i, s.heap.size ≤ ad' i) :
    z_2 G s ad' (z_re ad2 (z_n h2) H1.size) h' h2 H1 locs1 := by
  obtain ⟨w1, w2, w3, w4, w5, w6⟩ := w
  have hS' : va_S (fun q => s.heap.size ≤ q) s.heap H1 locs1 := by rw [z_A0'] at hS; exact hS
  refine ⟨h1, w2.re hz hq (fun j hj => ?_) (fun q hg => ?_), hS', fun i hi j hj e => ?_, hb, fun i => ?_⟩
  · rintro (⟨i, hi, e⟩ | h)
    · exact w4 i hi j hj e.symm
    · have := w2.2.2.2.2.2.1 j hj; omega
  · rintro (⟨i, hi, e⟩ | h)
    · have := w1.2.2.2.1 i; omega
    · have := w1.2.2.2.2.2.2; omega
  · rw [z_re_lt hj, had i hi] at e
    by_cases h3 : i < z_n h
    · exact w4 i h3 j hj e
    · have := w1.2.2.1 i (by omega); have := w2.2.2.2.2.2.1 j hj; omega
  · by_cases h3 : i < z_n h2
    · rw [z_re_lt h3]; exact w6 i
    · rw [z_re_ge h3]; have := hS'.1; omega
section Z2
variable {p : Program} {l : Launch} {e : Env} {R : Room} {s : State} {m : MethodId} {args : Array Value} {below : List Frame} {meth : Method} {c : Code} {H : Heap} {locs : List Loc} {cells slots mc ms : Nat} {Q : State → Prop}
variable {cc : ByteArray} {pc nL : Nat} {ls : Array Slot} {rest st0 : List Value} {own : String} {G : z_Gt} {S : State → Prop} {ad ad2 : Nat → Nat} {h h' h2 : z_T}
theorem z_2I {r : Int32} {a : Array Value} (hc : z_C G S ad 0 p m c cc nL s args own meth) (w : z_2 G s ad ad2 h h2 H locs) (hr : va_Run p l e R s m args below meth c H locs cells slots mc ms (F0 m pc ls st0) rest (z_Qi G ad h' (z_n h) H.size r a) (z_A ad (z_n h) H.size))
    (kk : ∀ (H1 : Heap) (locs1 : List Loc) (ad2' : Nat → Nat), (∀ i, i < z_n h2 → ad2' i = ad2 i) → z_2 G s ad ad2' h' h2 H1 locs1 → W p l e R s m args below meth c H1 locs1 (cells + mc) (slots + ms) Q (F0 m (pc + 3) ls (.int r :: rest))) : W p l e R s m args below meth c H locs cells slots Q (F0 m pc ls st0) :=
  va_calli hr w.B.2 (fun q _ hq => z_A1 hc w.B q hq) (z_A1 hc w.B) (fun r1 u t H1 locs1 ht _ hp hb hz hq hS => by subst hp; exact kk H1 locs1 _ (fun i hi => z_re_lt hi) (w.next hz hq hS (by rw [← ht]; exact hb) (fun _ _ => rfl) w.2.2.2.2.1))
theorem z_2L {r : Int64} {a : Array Value} (hc : z_C G S ad 0 p m c cc nL s args own meth) (w : z_2 G s ad ad2 h h2 H locs) (hr : va_Run p l e R s m args below meth c H locs cells slots mc ms (F0 m pc ls st0) rest (z_Ql G ad h' (z_n h) H.size r a) (z_A ad (z_n h) H.size))
    (kk : ∀ (H1 : Heap) (locs1 : List Loc) (ad2' : Nat → Nat), (∀ i, i < z_n h2 → ad2' i = ad2 i) → z_2 G s ad ad2' h' h2 H1 locs1 → W p l e R s m args below meth c H1 locs1 (cells + mc) (slots + ms) Q (F0 m (pc + 3) ls (.long r :: rest))) : W p l e R s m args below meth c H locs cells slots Q (F0 m pc ls st0) :=
  va_calll hr w.B.2 (fun q _ hq => z_A1 hc w.B q hq) (z_A1 hc w.B) (fun r1 u t H1 locs1 ht _ hp hb hz hq hS => by subst hp; exact kk H1 locs1 _ (fun i hi => z_re_lt hi) (w.next hz hq hS (by rw [← ht]; exact hb) (fun _ _ => rfl) w.2.2.2.2.1))
theorem z_2V {a : Array Value} (hc : z_C G S ad 0 p m c cc nL s args own meth) (w : z_2 G s ad ad2 h h2 H locs) (hr : va_Run p l e R s m args below meth c H locs cells slots mc ms (F0 m pc ls st0) rest (z_Qv G ad h' (z_n h) H.size a) (z_A ad (z_n h) H.size))
    (kk : ∀ (H1 : Heap) (locs1 : List Loc) (ad2' : Nat → Nat), (∀ i, i < z_n h2 → ad2' i = ad2 i) → z_2 G s ad ad2' h' h2 H1 locs1 → W p l e R s m args below meth c H1 locs1 (cells + mc) (slots + ms) Q (F0 m (pc + 3) ls rest)) : W p l e R s m args below meth c H locs cells slots Q (F0 m pc ls st0) :=
  va_callv hr w.B.2 (fun q _ hq => z_A1 hc w.B q hq) (z_A1 hc w.B) (fun u t H1 locs1 ht _ hp hb hz hq hS => kk H1 locs1 _ (fun i hi => z_re_lt hi) (w.next hz hq hS (by rw [← ht]; exact hb) (fun _ _ => rfl) w.2.2.2.2.1))
end Z2
