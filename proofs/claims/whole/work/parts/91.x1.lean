/-! a book, a night of the class: where they lie -/
def xBs (h : z_T) (bo : Nat) : Prop := z_ok h bo 0 = true ∧ z_ok h (bo + 1) 13 = true ∧ z_N h (bo + 1) = 6 ∧ z_R h bo 4 = some (bo + 1) ∧ z_ok h (bo + 2) 14 = true ∧ z_N h (bo + 2) = 8 ∧ z_R h bo 5 = some (bo + 2) ∧ z_ok h (bo + 3) 13 = true ∧ z_N h (bo + 3) = 8 ∧ z_R h bo 6 = some (bo + 3) ∧ z_ok h (bo + 4) 13 = true ∧ z_N h (bo + 4) = 8 ∧ z_R h bo 7 = some (bo + 4) ∧ z_ok h (bo + 5) 14 = true ∧ z_N h (bo + 5) = 6 ∧ z_R h bo 8 = some (bo + 5) ∧ z_ok h (bo + 6) 13 = true ∧ z_N h (bo + 6) = 7 ∧ z_R h bo 9 = some (bo + 6) ∧ z_ok h (bo + 7) 13 = true ∧ z_N h (bo + 7) = 7 ∧ z_R h bo 10 = some (bo + 7)
theorem xb_0 {h : z_T} {bo : Nat} (s : xBs h bo) : z_ok h bo 0 = true := s.1
theorem xb_1 {h : z_T} {bo : Nat} (s : xBs h bo) : z_ok h (bo + 1) 13 = true := s.2.1
theorem xb_2 {h : z_T} {bo : Nat} (s : xBs h bo) : z_N h (bo + 1) = 6 := s.2.2.1
theorem xb_3 {h : z_T} {bo : Nat} (s : xBs h bo) : z_R h bo 4 = some (bo + 1) := s.2.2.2.1
theorem xb_4 {h : z_T} {bo : Nat} (s : xBs h bo) : z_ok h (bo + 2) 14 = true := s.2.2.2.2.1
theorem xb_5 {h : z_T} {bo : Nat} (s : xBs h bo) : z_N h (bo + 2) = 8 := s.2.2.2.2.2.1
theorem xb_6 {h : z_T} {bo : Nat} (s : xBs h bo) : z_R h bo 5 = some (bo + 2) := s.2.2.2.2.2.2.1
theorem xb_7 {h : z_T} {bo : Nat} (s : xBs h bo) : z_ok h (bo + 3) 13 = true := s.2.2.2.2.2.2.2.1
theorem xb_8 {h : z_T} {bo : Nat} (s : xBs h bo) : z_N h (bo + 3) = 8 := s.2.2.2.2.2.2.2.2.1
theorem xb_9 {h : z_T} {bo : Nat} (s : xBs h bo) : z_R h bo 6 = some (bo + 3) := s.2.2.2.2.2.2.2.2.2.1
theorem xb_10 {h : z_T} {bo : Nat} (s : xBs h bo) : z_ok h (bo + 4) 13 = true := s.2.2.2.2.2.2.2.2.2.2.1
theorem xb_11 {h : z_T} {bo : Nat} (s : xBs h bo) : z_N h (bo + 4) = 8 := s.2.2.2.2.2.2.2.2.2.2.2.1
theorem xb_12 {h : z_T} {bo : Nat} (s : xBs h bo) : z_R h bo 7 = some (bo + 4) := s.2.2.2.2.2.2.2.2.2.2.2.2.1
theorem xb_13 {h : z_T} {bo : Nat} (s : xBs h bo) : z_ok h (bo + 5) 14 = true := s.2.2.2.2.2.2.2.2.2.2.2.2.2.1
theorem xb_14 {h : z_T} {bo : Nat} (s : xBs h bo) : z_N h (bo + 5) = 6 := s.2.2.2.2.2.2.2.2.2.2.2.2.2.2.1
theorem xb_15 {h : z_T} {bo : Nat} (s : xBs h bo) : z_R h bo 8 = some (bo + 5) := s.2.2.2.2.2.2.2.2.2.2.2.2.2.2.2.1
theorem xb_16 {h : z_T} {bo : Nat} (s : xBs h bo) : z_ok h (bo + 6) 13 = true := s.2.2.2.2.2.2.2.2.2.2.2.2.2.2.2.2.1
theorem xb_17 {h : z_T} {bo : Nat} (s : xBs h bo) : z_N h (bo + 6) = 7 := s.2.2.2.2.2.2.2.2.2.2.2.2.2.2.2.2.2.1
theorem xb_18 {h : z_T} {bo : Nat} (s : xBs h bo) : z_R h bo 9 = some (bo + 6) := s.2.2.2.2.2.2.2.2.2.2.2.2.2.2.2.2.2.2.1
theorem xb_19 {h : z_T} {bo : Nat} (s : xBs h bo) : z_ok h (bo + 7) 13 = true := s.2.2.2.2.2.2.2.2.2.2.2.2.2.2.2.2.2.2.2.1
theorem xb_20 {h : z_T} {bo : Nat} (s : xBs h bo) : z_N h (bo + 7) = 7 := s.2.2.2.2.2.2.2.2.2.2.2.2.2.2.2.2.2.2.2.2.1
theorem xb_21 {h : z_T} {bo : Nat} (s : xBs h bo) : z_R h bo 10 = some (bo + 7) := s.2.2.2.2.2.2.2.2.2.2.2.2.2.2.2.2.2.2.2.2.2
def xNs (h : z_T) (o : Nat) : Prop := z_ok h o 2 = true ∧ z_R h o 2 = some (o + 1) ∧ z_R h o 3 = some (o + 2) ∧ z_R h o 4 = some (o + 3) ∧ z_ok h (o + 1) 13 = true ∧ z_N h (o + 1) = 12 ∧ z_ok h (o + 2) 13 = true ∧ z_N h (o + 2) = 8 ∧ z_ok h (o + 3) 14 = true ∧ z_N h (o + 3) = 7
theorem xo_0 {h : z_T} {o : Nat} (s : xNs h o) : z_ok h o 2 = true := s.1
theorem xo_1 {h : z_T} {o : Nat} (s : xNs h o) : z_R h o 2 = some (o + 1) := s.2.1
theorem xo_2 {h : z_T} {o : Nat} (s : xNs h o) : z_R h o 3 = some (o + 2) := s.2.2.1
theorem xo_3 {h : z_T} {o : Nat} (s : xNs h o) : z_R h o 4 = some (o + 3) := s.2.2.2.1
theorem xo_4 {h : z_T} {o : Nat} (s : xNs h o) : z_ok h (o + 1) 13 = true := s.2.2.2.2.1
theorem xo_5 {h : z_T} {o : Nat} (s : xNs h o) : z_N h (o + 1) = 12 := s.2.2.2.2.2.1
theorem xo_6 {h : z_T} {o : Nat} (s : xNs h o) : z_ok h (o + 2) 13 = true := s.2.2.2.2.2.2.1
theorem xo_7 {h : z_T} {o : Nat} (s : xNs h o) : z_N h (o + 2) = 8 := s.2.2.2.2.2.2.2.1
theorem xo_8 {h : z_T} {o : Nat} (s : xNs h o) : z_ok h (o + 3) 14 = true := s.2.2.2.2.2.2.2.2.1
theorem xo_9 {h : z_T} {o : Nat} (s : xNs h o) : z_N h (o + 3) = 7 := s.2.2.2.2.2.2.2.2.2
theorem xBs.fr {C : Nat → Nat → Prop} {h h' : z_T} {bo : Nat} (f : x_fr C h h') (hb : bo = 1 ∨ 83 ≤ bo) (s : xBs h bo) : xBs h' bo := by
  have hR : ∀ k a, 3 < k → z_R h bo k = some a → z_R h' bo k = some a := fun k a hk e => by
    rw [((f.2 bo (z_ok_lt s.1)).2 k).2 (by unfold xM; omega)]
    exact e
  have hN : ∀ o kd n, z_ok h o kd = true → z_N h o = n → z_N h' o = n := fun o kd n g e => by rw [(f.2 o (z_ok_lt g)).1.2]; exact e
  exact ⟨x_ok f (xb_0 s), x_ok f (xb_1 s), hN _ _ _ (xb_1 s) (xb_2 s), hR _ _ (by decide) (xb_3 s), x_ok f (xb_4 s), hN _ _ _ (xb_4 s) (xb_5 s), hR _ _ (by decide) (xb_6 s), x_ok f (xb_7 s), hN _ _ _ (xb_7 s) (xb_8 s), hR _ _ (by decide) (xb_9 s), x_ok f (xb_10 s), hN _ _ _ (xb_10 s) (xb_11 s), hR _ _ (by decide) (xb_12 s), x_ok f (xb_13 s), hN _ _ _ (xb_13 s) (xb_14 s), hR _ _ (by decide) (xb_15 s), x_ok f (xb_16 s), hN _ _ _ (xb_16 s) (xb_17 s), hR _ _ (by decide) (xb_18 s), x_ok f (xb_19 s), hN _ _ _ (xb_19 s) (xb_20 s), hR _ _ (by decide) (xb_21 s)⟩
def isN (o : Nat) : Prop := o = 15 ∨ o = 21 ∨ o = 26 ∨ o = 64 ∨ (32 ≤ o ∧ o < 64 ∧ o % 4 = 0)
theorem xNs.fr {C : Nat → Nat → Prop} {h h' : z_T} {o : Nat} (f : x_fr C h h') (ho : isN o) (s : xNs h o) : xNs h' o := by
  have hR : ∀ k a, 1 < k → z_R h o k = some a → z_R h' o k = some a := fun k a hk e => by
    rw [((f.2 o (z_ok_lt s.1)).2 k).2 (by unfold isN at ho; unfold xM; omega)]
    exact e
  have hN : ∀ o kd n, z_ok h o kd = true → z_N h o = n → z_N h' o = n := fun o kd n g e => by rw [(f.2 o (z_ok_lt g)).1.2]; exact e
  exact ⟨x_ok f s.1, hR _ _ (by decide) (xo_1 s), hR _ _ (by decide) (xo_2 s), hR _ _ (by decide) (xo_3 s), x_ok f (xo_4 s), hN _ _ _ (xo_4 s) (xo_5 s), x_ok f (xo_6 s), hN _ _ _ (xo_6 s) (xo_7 s), x_ok f (xo_8 s), hN _ _ _ (xo_8 s) (xo_9 s)⟩
