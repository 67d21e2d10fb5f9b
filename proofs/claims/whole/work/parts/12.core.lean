/-! THE HEAP BY NUMBERS: object number o has rows of ints, longs, references (numbers again); ad gives its address -/
abbrev z_T : Type := (Nat → Nat → Int32) × (Nat → Nat → Int64) × (Nat → Nat → Option Nat) × (Nat → Nat) × (Nat → Nat) × Nat
def z_I (h : z_T) : Nat → Nat → Int32 := h.1
def z_L (h : z_T) : Nat → Nat → Int64 := h.2.1
def z_R (h : z_T) : Nat → Nat → Option Nat := h.2.2.1
def z_K (h : z_T) : Nat → Nat := h.2.2.2.1
def z_N (h : z_T) : Nat → Nat := h.2.2.2.2.1
def z_n (h : z_T) : Nat := h.2.2.2.2.2
def z_u2 {α : Type} (f : Nat → Nat → α) (o k : Nat) (v : α) : Nat → Nat → α := fun a => if a = o then (fun b => if b = k then v else f o b) else f a
def z_sI (h : z_T) (o k : Nat) (v : Int32) : z_T := (z_u2 h.1 o k v, h.2)
def z_sL (h : z_T) (o k : Nat) (v : Int64) : z_T := (h.1, z_u2 h.2.1 o k v, h.2.2)
def z_sR (h : z_T) (o k : Nat) (v : Option Nat) : z_T := (h.1, h.2.1, z_u2 h.2.2.1 o k v, h.2.2.2)
def z_r0 {α : Type} (f : Nat → Nat → α) (o : Nat) (v : α) : Nat → Nat → α := fun a => if a = o then (fun _ => v) else f a
/-- a new thing of a kind, with so many places -/
def z_al (h : z_T) (kd len : Nat) : z_T := (z_r0 (z_I h) (z_n h) 0, z_r0 (z_L h) (z_n h) 0, z_r0 (z_R h) (z_n h) none, va_up (z_K h) (z_n h) kd, va_up (z_N h) (z_n h) len, z_n h + 1)
def z_ok (h : z_T) (o kd : Nat) : Bool := decide (o < z_n h) && decide (z_K h o = kd)
def z_ix (i : Int32) (n : Nat) : Bool := decide (0 ≤ i.toInt) && decide (i.toInt < (n : Int))
/-- the classes of the kinds 0 to 11, their fields, the sorts of the fields: 0 int, 1 long, 2 reference, 3 a constant of the enum -/
def z_c : Nat → vw_C := fun k => match k with
  | 0 => (RX0, TX0, 11)
  | 1 => (RX1, TX1, 2)
  | 2 => (RX2, TX2, 6)
  | 3 => (RX3, TX3, 8)
  | 4 => (RX4, TX4, 3)
  | 5 => (RX5, TX5, 6)
  | 6 => (RX6, TX6, 9)
  | 7 => (RX7, TX7, 5)
  | 8 => (RX8, TX8, 4)
  | 9 => (RX9, TX9, 2)
  | 10 => (RX11, TX11, 9)
  | _ => (RX12, TX12, 57)
def z_fty : Nat → Nat → FieldType := fun k => match k with
  | 0 => tyX0
  | 1 => tyX1
  | 2 => tyX2
  | 3 => tyX3
  | 4 => tyX4
  | 5 => tyX5
  | 6 => tyX6
  | 7 => tyX7
  | 8 => tyX8
  | 9 => tyX9
  | 10 => tyX11
  | _ => tyX12
def z_tgt : FieldType → Nat := fun t => match t with
  | .int => 0
  | .boolean => 0
  | .long => 1
  | .object C => if C = "DreamTests$Word" then 3 else 2
  | _ => 2
def z_tg (ci k : Nat) : Nat := z_tgt (z_fty ci k)
/-- the arrays of the kinds 12 to 18 -/
def z_ty : Nat → FieldType := fun k => match k with
  | 12 => .byte
  | 13 => .int
  | 14 => .long
  | 15 => .boolean
  | 16 => .object "DreamTests$Night"
  | 17 => .object "DreamTests$State"
  | _ => .array .long
abbrev z_Gt : Type := (Nat → ClassId) × (Nat → Nat → Nat) × (Nat → ClassId) × (Nat → Nat) × Heap
def z_fv (G : z_Gt) (ad : Nat → Nat) (h : z_T) (o t k : Nat) : Value := match t with
  | 0 => .int (z_I h o k)
  | 1 => .long (z_L h o k)
  | 2 => va_rf ((z_R h o k).map ad)
  | _ => va_rf ((z_R h o k).map G.2.2.2.1)
def z_av (ad : Nat → Nat) (h : z_T) (o : Nat) (kd j : Nat) : Value := match kd with
  | 12 => .int (z_I h o j)
  | 13 => .int (z_I h o j)
  | 14 => .long (z_L h o j)
  | 15 => .int (z_I h o j)
  | _ => va_rf ((z_R h o j).map ad)
/-- the references that a thing holds point at things that are there -/
def z_cl (h : z_T) (o : Nat) : Prop := ∀ k r, (z_K h o < 12 → z_tg (z_K h o) k = 2) → z_R h o k = some r → r < z_n h
def z_cell (G : z_Gt) (ad : Nat → Nat) (h : z_T) (H : Heap) (o : Nat) : Prop :=
  (z_K h o < 12 → t_OB (ad o) (G.1 (z_K h o)) (z_c (z_K h o)).2.2 (G.2.1 (z_K h o)) H (fun k => z_fv G ad h o (z_tg (z_K h o) k) k)) ∧
  (12 ≤ z_K h o → H[ad o]? = some (arrV (G.2.2.1 (z_K h o)) (z_N h o) (z_av ad h o (z_K h o)))) ∧ z_cl h o
def z_W (G : z_Gt) (ad : Nat → Nat) (h : z_T) (H : Heap) : Prop :=
  (∀ o, o < z_n h → z_cell G ad h H o) ∧ (∀ i j, ad i = ad j → i = j) ∧ (∀ i, z_n h ≤ i → ad i = H.size + (i - z_n h)) ∧ (∀ i, G.2.2.2.2.size ≤ ad i) ∧ (∀ q, q < G.2.2.2.2.size → H[q]? = G.2.2.2.2[q]?) ∧ (∀ i, i < z_n h → ad i < H.size) ∧ G.2.2.2.2.size ≤ H.size
def z_A (ad : Nat → Nat) (n sz : Nat) : Nat → Prop := fun q => (∃ i, i < n ∧ q = ad i) ∨ sz ≤ q
theorem z_W.all {G : z_Gt} {ad : Nat → Nat} {h : z_T} {H : Heap} (w : z_W G ad h H) (i : Nat) : z_A ad (z_n h) H.size (ad i) := by
  by_cases hi : i < z_n h
  · exact Or.inl ⟨i, hi, rfl⟩
  · exact Or.inr (by rw [w.2.2.1 i (by omega)]; omega)
/-- what the words of the tables say: those that any state of the run keeps -/
def z_ws : List Cond := lw_tbl.filter goodWord
/-- .. and the others that are used: links among nest mates, arrays of references -/
def z_nw : List Cond := tables_1.filter (fun w => match w with
  | .fieldLinkNest .. => true
  | .methodLinkNest .. => true
  | _ => false)
/-- what is said of the machine's tables; S: what is said of the constants -/
def z_KK (G : z_Gt) (S : State → Prop) (U : State) : Prop :=
  (∀ ci, ci < 12 → u_Kn U (z_c ci).1 (z_c ci).2.1 (z_c ci).2.2 (G.1 ci) (G.2.1 ci)) ∧ (∀ t, 12 ≤ t → t < 19 → ArrOfT U (G.2.2.1 t) (z_ty t) ∧ va_RA U (G.2.2.1 t) (z_ty t)) ∧ (∀ w ∈ z_nw, va_Nw w U) ∧ S U
theorem z_nw_moved {s U : State} (hW : s.WarmedH U.vm) {w : Cond} (hw : w ∈ z_nw) (h : va_Nw w s) : va_Nw w U := by
  have h2 := (List.mem_filter.mp hw).2
  cases w <;> first | exact h.warmF hW | exact h.warmM hW | exact absurd (show false = true from h2) (by decide)
theorem z_nw_same {u U : State} (e : u.vm = U.vm) {w : Cond} (hw : w ∈ z_nw) (h : va_Nw w u) : va_Nw w U := by
  have h2 := (List.mem_filter.mp hw).2
  cases w <;> first | exact h.same rfl e | exact absurd (show false = true from h2) (by decide)
/-- what of the constants is kept -/
def z_SK (S : State → Prop) : Prop := (∀ s U : State, s.WarmedH U.vm → S s → S U) ∧ (∀ u U : State, u.vm = U.vm → S u → S U)
theorem z_KK.warm {G : z_Gt} {S : State → Prop} (hSK : z_SK S) {s U : State} (hW : s.WarmedH U.vm) (h : z_KK G S s) : z_KK G S U :=
  ⟨fun ci hc => u_Kn_moved hW.alike (h.1 ci hc), fun t h1 h2 => ⟨arrOfT_moved hW.alike (h.2.1 t h1 h2).1, (h.2.1 t h1 h2).2.moved hW.alike⟩, fun w hw => z_nw_moved hW hw (h.2.2.1 w hw), hSK.1 s U hW h.2.2.2⟩
theorem z_KK.calling {G : z_Gt} {S : State → Prop} (hSK : z_SK S) {U : State} {g : JFrame} {mk : MethodId} {a : Array Value} (h : z_KK G S U) : z_KK G S (U.calling g mk a) :=
  ⟨fun ci hc => u_Kn_moved (u := U) (U := U.calling g mk a) (Vm.Alike.refl U.vm) (h.1 ci hc), fun t h1 h2 => ⟨arrOfT_moved (u := U) (E := U.calling g mk a) (Vm.Alike.refl U.vm) (h.2.1 t h1 h2).1, va_RA.moved (u := U) (U := U.calling g mk a) (Vm.Alike.refl U.vm) (h.2.1 t h1 h2).2⟩, fun w hw => z_nw_same (u := U) (U := U.calling g mk a) rfl hw (h.2.2.1 w hw), hSK.2 U (U.calling g mk a) rfl h.2.2.2⟩
/-! rows of the heap by numbers -/
theorem z_u2_o {α : Type} {f : Nat → Nat → α} {o k a : Nat} {v : α} (h : a ≠ o) : z_u2 f o k v a = f a := if_neg h
theorem z_u2_s {α : Type} {f : Nat → Nat → α} {o k b : Nat} {v : α} : z_u2 f o k v o b = if b = k then v else f o b := by unfold z_u2; rw [if_pos rfl]
theorem z_ok_lt {h : z_T} {o kd : Nat} (e : z_ok h o kd = true) : o < z_n h := by simp [z_ok] at e; exact e.1
theorem z_ok_K {h : z_T} {o kd : Nat} (e : z_ok h o kd = true) : z_K h o = kd := by simp [z_ok] at e; exact e.2
theorem z_ix_in {i : Int32} {n : Nat} (e : z_ix i n = true) : vp_in i n := vp_in_iff.mpr (by simp [z_ix] at e; exact e)
/-- two heaps hold the same of a thing -/
def z_sm (h h' : z_T) (o : Nat) : Prop := z_I h' o = z_I h o ∧ z_L h' o = z_L h o ∧ z_R h' o = z_R h o ∧ z_K h' o = z_K h o ∧ z_N h' o = z_N h o
theorem z_cell.kept {G : z_Gt} {ad : Nat → Nat} {h h' : z_T} {H H1 : Heap} {o : Nat} (hm : z_sm h h' o) (hn : z_n h ≤ z_n h') (hq : H1[ad o]? = H[ad o]?) (hc : z_cell G ad h H o) : z_cell G ad h' H1 o := by
  obtain ⟨e1, e2, e3, e4, e5⟩ := hm
  have hf : ∀ t k, z_fv G ad h' o t k = z_fv G ad h o t k := fun t k => by unfold z_fv; rw [e1, e2, e3]
  have hv : ∀ t k, z_av ad h' o t k = z_av ad h o t k := fun t k => by unfold z_av; rw [e1, e2, e3]
  refine ⟨fun hk => ?_, fun hk => ?_, fun k r g1 g2 => ?_⟩
  · rw [e4] at hk ⊢
    exact ((hc.1 hk).kept hq).to (fun k _ => (hf _ k).symm)
  · rw [e4] at hk
    rw [hq, hc.2.1 hk, e4, e5]
    congr 2
    funext j
    exact (hv _ j).symm
  · rw [e4] at g1
    rw [e3] at g2
    exact Nat.lt_of_lt_of_le (hc.2.2 k r g1 g2) hn
/-- one thing is written, the rest stays -/
theorem z_W.put {G : z_Gt} {ad : Nat → Nat} {h h' : z_T} {H H1 : Heap} {o : Nat} (w : z_W G ad h H) (hn : z_n h' = z_n h) (hm : ∀ q, q ≠ o → z_sm h h' q) (hc : z_cell G ad h' H1 o) (z : H1.size = H.size) (oq : ∀ q : Nat, q ≠ ad o → H1[q]? = H[q]?) : z_W G ad h' H1 := by
  obtain ⟨w1, w2, w3, w4, w5, w6, w7⟩ := w
  refine ⟨fun q hq => ?_, w2, fun i hi => by rw [z]; rw [hn] at hi ⊢; exact w3 i hi, w4, fun q hq => ?_, fun i hi => by rw [z]; rw [hn] at hi; exact w6 i hi, by rw [z]; exact w7⟩
  · rw [hn] at hq
    by_cases e : q = o
    · rw [e]; exact hc
    · exact (w1 q hq).kept (hm q e) (Nat.le_of_eq hn.symm) (oq _ (fun z => e (w2 _ _ z)))
  · rw [oq q (fun z => by have := w4 o; omega)]
    exact w5 q hq
