/-! the two heaps at their start: what the constructors make of nothing, by running them -/
noncomputable def y_lpF {S T : Type} (body : S → Option (S ⊕ T)) : Nat → S → Option T
  | 0, s => y_lp body s
  | n + 1, s => match body s with
    | none => none
    | some (.inl s') => y_lpF body n s'
    | some (.inr t) => some t
theorem y_lp_u {S T : Type} {body : S → Option (S ⊕ T)} {s : S} : y_lp body s = match body s with
    | none => none
    | some (.inl s') => y_lp body s'
    | some (.inr t) => some t := by
  have A : ∀ v, y_lp body s = some v → (match body s with
    | none => none
    | some (.inl s') => y_lp body s'
    | some (.inr t) => some t) = some v := fun v h => by
    obtain ⟨n, hn⟩ := y_lp_e h
    cases n with
    | zero => exact (y_lpN_0 hn).elim
    | succ n =>
      obtain ⟨w, hb, hw⟩ := y_lpN_e hn
      rw [hb]
      cases w with
      | inl s' => exact y_lp_of hw
      | inr t => exact congrArg some hw
  have B : ∀ v, (match body s with
    | none => none
    | some (.inl s') => y_lp body s'
    | some (.inr t) => some t) = some v → y_lp body s = some v := fun v h => by
    cases hb : body s with
    | none => rw [hb] at h; cases h
    | some w =>
      rw [hb] at h
      cases w with
      | inl s' =>
        obtain ⟨n, hn⟩ := y_lp_e h
        refine y_lp_of (n := n + 1) ?_
        rw [y_lpN, hb]
        exact hn
      | inr t =>
        refine y_lp_of (n := 1) ?_
        rw [y_lpN, hb]
        exact h
  exact Option.ext fun v => ⟨A v, B v⟩
theorem y_lpF_e {S T : Type} {body : S → Option (S ⊕ T)} : ∀ (n : Nat) (s : S), y_lp body s = y_lpF body n s
  | 0, _ => rfl
  | n + 1, s => by
    rw [y_lp_u, y_lpF]
    cases body s with
    | none => rfl
    | some w =>
      cases w with
      | inl s' => exact y_lpF_e n s'
      | inr t => rfl
noncomputable def fX2_begin_b36C (o0 : Nat) (x2 : Int32) (h : z_T) : Option (z_T) := y_lpF (fun q : Int32 × z_T => fX2_begin_b36_i o0 q.1 q.2) 9 (x2, h)
theorem fX2_begin_b36_C : fX2_begin_b36 = fX2_begin_b36C := by
  funext o0 x2 h
  exact y_lpF_e _ _
noncomputable def fX2_begin_b12_iC (o0 : Nat) (x2 : Int32) (h : z_T) : Option ((Int32 × z_T) ⊕ (z_T)) :=
  y_gd (z_ok h o0 2) <|
  y_bi (z_R h o0 3) fun ob17 =>
  y_gd (z_ok h ob17 13) <|
  y_br ((nI (z_N h ob17)) ≤ x2)
    (y_mp <|
    fX2_begin_b36C o0 (0 : Int32) h)
    (y_gd (z_ix x2 (z_N h ob17)) <|
    y_nm (z_sI h ob17 x2.toNatClampNeg (0 : Int32)) fun h22 =>
    y_nm (x2 + 1) fun v23 =>
    some (.inl (v23, h22)))
theorem fX2_begin_b12_i_C : fX2_begin_b12_i = fX2_begin_b12_iC := by
  unfold fX2_begin_b12_i fX2_begin_b12_iC
  rw [fX2_begin_b36_C]
noncomputable def fX2_begin_b12C (o0 : Nat) (x2 : Int32) (h : z_T) : Option (z_T) := y_lpF (fun q : Int32 × z_T => fX2_begin_b12_iC o0 q.1 q.2) 10 (x2, h)
theorem fX2_begin_b12_C : fX2_begin_b12 = fX2_begin_b12C := by
  funext o0 x2 h
  unfold fX2_begin_b12 fX2_begin_b12C
  rw [fX2_begin_b12_i_C]
  exact y_lpF_e _ _
noncomputable def fX2_beginC (o0 : Nat) (o1 : Nat) (h : z_T) : Option (z_T) :=
  y_gd (z_ok h o0 2) <|
  y_gd (z_ok h o1 0) <|
  y_nm (z_sR h o0 0 (some o1)) fun h26 =>
  y_nm (z_sI h26 o0 1 (0 : Int32)) fun h27 =>
  fX2_begin_b12C o0 (0 : Int32) h27
theorem fX2_begin_C : fX2_begin = fX2_beginC := by
  unfold fX2_begin fX2_beginC
  rw [fX2_begin_b12_C]
noncomputable def fX2_initC (o0 : Nat) (o1 : Nat) (h : z_T) : Option (z_T) :=
  y_nm (z_n h) fun ob1 =>
  y_nm (z_al h 13 12) fun h2 =>
  y_gd (z_ok h2 o0 2) <|
  y_nm (z_sR h2 o0 2 (some ob1)) fun h5 =>
  y_nm (z_n h5) fun ob6 =>
  y_nm (z_al h5 13 8) fun h7 =>
  y_gd (z_ok h7 o0 2) <|
  y_nm (z_sR h7 o0 3 (some ob6)) fun h10 =>
  y_nm (z_n h10) fun ob11 =>
  y_nm (z_al h10 14 7) fun h12 =>
  y_gd (z_ok h12 o0 2) <|
  y_nm (z_sR h12 o0 4 (some ob11)) fun h15 =>
  y_bi (fX2_beginC o0 o1 h15) fun h17 =>
  some h17
theorem fX2_init_C : fX2_init = fX2_initC := by
  unfold fX2_init fX2_initC
  rw [fX2_begin_C]
noncomputable def fX8_initC (o0 : Nat) (o1 : Nat) (h : z_T) : Option (z_T) :=
  y_nm (z_n h) fun ob1 =>
  y_nm (z_al h 2 0) fun h2 =>
  y_bi (fX2_initC ob1 o1 h2) fun h5 =>
  y_gd (z_ok h5 o0 8) <|
  y_gd (z_ok h5 ob1 2) <|
  y_nm (z_sR h5 o0 0 (some ob1)) fun h8 =>
  some h8
theorem fX8_init_C : fX8_init = fX8_initC := by
  unfold fX8_init fX8_initC
  rw [fX2_init_C]
noncomputable def fX4_initC (o0 : Nat) (o1 : Nat) (h : z_T) : Option (z_T) :=
  y_nm (z_n h) fun ob1 =>
  y_nm (z_al h 16 8) fun h2 =>
  y_gd (z_ok h2 o0 4) <|
  y_nm (z_sR h2 o0 0 (some ob1)) fun h5 =>
  y_bi (z_R h5 o0 0) fun ob6 =>
  y_gd (z_ok h5 ob6 16) <|
  y_br ((nI (z_N h5 ob6)) ≤ (0 : Int32))
    (some h5)
    (y_nm (z_n h5) fun ob9 =>
    y_nm (z_al h5 2 0) fun h10 =>
    y_bi (fX2_initC ob9 o1 h10) fun h13 =>
    y_gd (z_ok h13 ob6 16) <|
    y_gd (z_ix (0 : Int32) (z_N h13 ob6)) <|
    y_gd (z_ok h13 ob9 2) <|
    y_nm (z_sR h13 ob6 (0 : Int32).toNatClampNeg (some ob9)) fun h17 =>
    y_nm ((0 : Int32) + 1) fun v18 =>
    y_gd (z_ok h17 o0 4) <|
    y_bi (z_R h17 o0 0) fun ob20 =>
    y_gd (z_ok h17 ob20 16) <|
    y_br ((nI (z_N h17 ob20)) ≤ v18)
      (some h17)
      (y_nm (z_n h17) fun ob23 =>
      y_nm (z_al h17 2 0) fun h24 =>
      y_bi (fX2_initC ob23 o1 h24) fun h27 =>
      y_gd (z_ok h27 ob20 16) <|
      y_gd (z_ix v18 (z_N h27 ob20)) <|
      y_gd (z_ok h27 ob23 2) <|
      y_nm (z_sR h27 ob20 v18.toNatClampNeg (some ob23)) fun h31 =>
      y_nm (v18 + 1) fun v32 =>
      y_gd (z_ok h31 o0 4) <|
      y_bi (z_R h31 o0 0) fun ob34 =>
      y_gd (z_ok h31 ob34 16) <|
      y_br ((nI (z_N h31 ob34)) ≤ v32)
        (some h31)
        (y_nm (z_n h31) fun ob37 =>
        y_nm (z_al h31 2 0) fun h38 =>
        y_bi (fX2_initC ob37 o1 h38) fun h41 =>
        y_gd (z_ok h41 ob34 16) <|
        y_gd (z_ix v32 (z_N h41 ob34)) <|
        y_gd (z_ok h41 ob37 2) <|
        y_nm (z_sR h41 ob34 v32.toNatClampNeg (some ob37)) fun h45 =>
        y_nm (v32 + 1) fun v46 =>
        y_gd (z_ok h45 o0 4) <|
        y_bi (z_R h45 o0 0) fun ob48 =>
        y_gd (z_ok h45 ob48 16) <|
        y_br ((nI (z_N h45 ob48)) ≤ v46)
          (some h45)
          (y_nm (z_n h45) fun ob51 =>
          y_nm (z_al h45 2 0) fun h52 =>
          y_bi (fX2_initC ob51 o1 h52) fun h55 =>
          y_gd (z_ok h55 ob48 16) <|
          y_gd (z_ix v46 (z_N h55 ob48)) <|
          y_gd (z_ok h55 ob51 2) <|
          y_nm (z_sR h55 ob48 v46.toNatClampNeg (some ob51)) fun h59 =>
          y_nm (v46 + 1) fun v60 =>
          y_gd (z_ok h59 o0 4) <|
          y_bi (z_R h59 o0 0) fun ob62 =>
          y_gd (z_ok h59 ob62 16) <|
          y_br ((nI (z_N h59 ob62)) ≤ v60)
            (some h59)
            (y_nm (z_n h59) fun ob65 =>
            y_nm (z_al h59 2 0) fun h66 =>
            y_bi (fX2_initC ob65 o1 h66) fun h69 =>
            y_gd (z_ok h69 ob62 16) <|
            y_gd (z_ix v60 (z_N h69 ob62)) <|
            y_gd (z_ok h69 ob65 2) <|
            y_nm (z_sR h69 ob62 v60.toNatClampNeg (some ob65)) fun h73 =>
            y_nm (v60 + 1) fun v74 =>
            y_gd (z_ok h73 o0 4) <|
            y_bi (z_R h73 o0 0) fun ob76 =>
            y_gd (z_ok h73 ob76 16) <|
            y_br ((nI (z_N h73 ob76)) ≤ v74)
              (some h73)
              (y_nm (z_n h73) fun ob79 =>
              y_nm (z_al h73 2 0) fun h80 =>
              y_bi (fX2_initC ob79 o1 h80) fun h83 =>
              y_gd (z_ok h83 ob76 16) <|
              y_gd (z_ix v74 (z_N h83 ob76)) <|
              y_gd (z_ok h83 ob79 2) <|
              y_nm (z_sR h83 ob76 v74.toNatClampNeg (some ob79)) fun h87 =>
              y_nm (v74 + 1) fun v88 =>
              y_gd (z_ok h87 o0 4) <|
              y_bi (z_R h87 o0 0) fun ob90 =>
              y_gd (z_ok h87 ob90 16) <|
              y_br ((nI (z_N h87 ob90)) ≤ v88)
                (some h87)
                (y_nm (z_n h87) fun ob93 =>
                y_nm (z_al h87 2 0) fun h94 =>
                y_bi (fX2_initC ob93 o1 h94) fun h97 =>
                y_gd (z_ok h97 ob90 16) <|
                y_gd (z_ix v88 (z_N h97 ob90)) <|
                y_gd (z_ok h97 ob93 2) <|
                y_nm (z_sR h97 ob90 v88.toNatClampNeg (some ob93)) fun h101 =>
                y_nm (v88 + 1) fun v102 =>
                y_gd (z_ok h101 o0 4) <|
                y_bi (z_R h101 o0 0) fun ob104 =>
                y_gd (z_ok h101 ob104 16) <|
                y_br ((nI (z_N h101 ob104)) ≤ v102)
                  (some h101)
                  (y_nm (z_n h101) fun ob107 =>
                  y_nm (z_al h101 2 0) fun h108 =>
                  y_bi (fX2_initC ob107 o1 h108) fun h111 =>
                  y_gd (z_ok h111 ob104 16) <|
                  y_gd (z_ix v102 (z_N h111 ob104)) <|
                  y_gd (z_ok h111 ob107 2) <|
                  y_nm (z_sR h111 ob104 v102.toNatClampNeg (some ob107)) fun h115 =>
                  y_nm (v102 + 1) fun v116 =>
                  y_gd (z_ok h115 o0 4) <|
                  y_bi (z_R h115 o0 0) fun ob118 =>
                  y_gd (z_ok h115 ob118 16) <|
                  y_br ((nI (z_N h115 ob118)) ≤ v116)
                    (some h115)
                    (y_nm (z_n h115) fun ob121 =>
                    y_nm (z_al h115 2 0) fun h122 =>
                    y_bi (fX2_initC ob121 o1 h122) fun h125 =>
                    y_gd (z_ok h125 ob118 16) <|
                    y_gd (z_ix v116 (z_N h125 ob118)) <|
                    y_gd (z_ok h125 ob121 2) <|
                    y_nm (z_sR h125 ob118 v116.toNatClampNeg (some ob121)) fun h129 =>
                    y_nm (v116 + 1) fun v130 =>
                    none)))))))))
theorem fX4_init_C : fX4_init = fX4_initC := by
  unfold fX4_init fX4_initC
  rw [fX2_init_C]
noncomputable def fX11_initC (o0 : Nat) (h : z_T) : Option (z_T) :=
  y_nm (z_n h) fun o1 =>
  y_nm (z_al h 0 0) fun h2 =>
  y_bi (fX0_init o1 h2) fun h5 =>
  y_nm (z_n h5) fun o6 =>
  y_nm (z_al h5 1 0) fun h7 =>
  y_bi (fX1_init o6 h7) fun h10 =>
  y_gd (z_ok h10 o0 10) <|
  y_gd (z_ok h10 o6 1) <|
  y_nm (z_sR h10 o0 0 (some o6)) fun h13 =>
  y_nm (z_n h13) fun o14 =>
  y_nm (z_al h13 1 0) fun h15 =>
  y_bi (fX1_init o14 h15) fun h18 =>
  y_gd (z_ok h18 o0 10) <|
  y_gd (z_ok h18 o14 1) <|
  y_nm (z_sR h18 o0 1 (some o14)) fun h21 =>
  y_nm (z_n h21) fun o22 =>
  y_nm (z_al h21 6 0) fun h23 =>
  y_gd (z_ok h23 o0 10) <|
  y_bi (z_R h23 o0 0) fun o26 =>
  y_bi (fX6_init o22 o26 h23) fun h28 =>
  y_gd (z_ok h28 o0 10) <|
  y_gd (z_ok h28 o22 6) <|
  y_nm (z_sR h28 o0 2 (some o22)) fun h31 =>
  y_nm (z_n h31) fun o32 =>
  y_nm (z_al h31 8 0) fun h33 =>
  y_bi (fX8_initC o32 o1 h33) fun h36 =>
  y_gd (z_ok h36 o0 10) <|
  y_gd (z_ok h36 o32 8) <|
  y_nm (z_sR h36 o0 3 (some o32)) fun h39 =>
  y_nm (z_n h39) fun o40 =>
  y_nm (z_al h39 17 2) fun h41 =>
  y_nm (z_n h41) fun o43 =>
  y_nm (z_al h41 8 0) fun h44 =>
  y_bi (fX8_initC o43 o1 h44) fun h47 =>
  y_gd (z_ok h47 o40 17) <|
  y_gd (z_ix (0 : Int32) (z_N h47 o40)) <|
  y_gd (z_ok h47 o43 8) <|
  y_nm (z_sR h47 o40 (0 : Int32).toNatClampNeg (some o43)) fun h51 =>
  y_nm (z_n h51) fun o52 =>
  y_nm (z_al h51 8 0) fun h53 =>
  y_bi (fX8_initC o52 o1 h53) fun h56 =>
  y_gd (z_ok h56 o40 17) <|
  y_gd (z_ix (1 : Int32) (z_N h56 o40)) <|
  y_gd (z_ok h56 o52 8) <|
  y_nm (z_sR h56 o40 (1 : Int32).toNatClampNeg (some o52)) fun h60 =>
  y_gd (z_ok h60 o0 10) <|
  y_nm (z_sR h60 o0 4 (some o40)) fun h63 =>
  y_nm (z_n h63) fun o64 =>
  y_nm (z_al h63 4 0) fun h65 =>
  y_bi (fX4_initC o64 o1 h65) fun h68 =>
  y_gd (z_ok h68 o0 10) <|
  y_gd (z_ok h68 o64 4) <|
  y_nm (z_sR h68 o0 5 (some o64)) fun h71 =>
  y_nm (z_n h71) fun o72 =>
  y_nm (z_al h71 2 0) fun h73 =>
  y_bi (fX2_initC o72 o1 h73) fun h76 =>
  y_gd (z_ok h76 o0 10) <|
  y_gd (z_ok h76 o72 2) <|
  y_nm (z_sR h76 o0 6 (some o72)) fun h79 =>
  y_nm (z_n h79) fun o80 =>
  y_nm (z_al h79 5 0) fun h81 =>
  y_bi (fX5_init o80 o1 h81) fun h84 =>
  y_gd (z_ok h84 o0 10) <|
  y_gd (z_ok h84 o80 5) <|
  y_nm (z_sR h84 o0 7 (some o80)) fun h87 =>
  y_nm (z_n h87) fun o88 =>
  y_nm (z_al h87 3 0) fun h89 =>
  y_bi (fX3_init o88 h89) fun h92 =>
  y_gd (z_ok h92 o0 10) <|
  y_gd (z_ok h92 o88 3) <|
  y_nm (z_sR h92 o0 8 (some o88)) fun h95 =>
  some h95
theorem fX11_init_C : fX11_init = fX11_initC := by
  unfold fX11_init fX11_initC
  rw [fX2_init_C, fX8_init_C, fX4_init_C]
noncomputable def fX12_clears_b2C (o0 : Nat) (x1 : Int32) (h : z_T) : Option (z_T) := y_lpF (fun q : Int32 × z_T => fX12_clears_b2_i o0 q.1 q.2) 38 (x1, h)
theorem fX12_clears_b2_C : fX12_clears_b2 = fX12_clears_b2C := by
  funext o0 x1 h
  exact y_lpF_e _ _
noncomputable def fX12_clearsC (o0 : Nat) (h : z_T) : Option (z_T) :=
  fX12_clears_b2C o0 (0 : Int32) h
theorem fX12_clears_C : fX12_clears = fX12_clearsC := by
  unfold fX12_clears fX12_clearsC
  rw [fX12_clears_b2_C]
noncomputable def fX12_init_b403C (o0 : Nat) (x1 : Int32) (h : z_T) : Option (z_T) := y_lpF (fun q : Int32 × z_T => fX12_init_b403_i o0 q.1 q.2) 38 (x1, h)
theorem fX12_init_b403_C : fX12_init_b403 = fX12_init_b403C := by
  funext o0 x1 h
  exact y_lpF_e _ _
noncomputable def fX12_initC (o0 : Nat) (h : z_T) : Option (z_T) :=
  y_nm (z_n h) fun o12 =>
  y_nm (z_al h 12 940) fun h13 =>
  y_gd (z_ok h13 o0 11) <|
  y_nm (z_sR h13 o0 1 (some o12)) fun h16 =>
  y_nm (z_n h16) fun o17 =>
  y_nm (z_al h16 13 357) fun h18 =>
  y_gd (z_ok h18 o0 11) <|
  y_nm (z_sR h18 o0 6 (some o17)) fun h21 =>
  y_nm (z_n h21) fun o22 =>
  y_nm (z_al h21 13 36) fun h23 =>
  y_gd (z_ok h23 o0 11) <|
  y_nm (z_sR h23 o0 7 (some o22)) fun h26 =>
  y_nm (z_n h26) fun o27 =>
  y_nm (z_al h26 13 135) fun h28 =>
  y_gd (z_ok h28 o0 11) <|
  y_nm (z_sR h28 o0 8 (some o27)) fun h31 =>
  y_nm (z_n h31) fun o32 =>
  y_nm (z_al h31 14 28) fun h33 =>
  y_gd (z_ok h33 o0 11) <|
  y_nm (z_sR h33 o0 9 (some o32)) fun h36 =>
  y_nm (z_n h36) fun o37 =>
  y_nm (z_al h36 14 22) fun h38 =>
  y_gd (z_ok h38 o0 11) <|
  y_nm (z_sR h38 o0 10 (some o37)) fun h41 =>
  y_nm (z_n h41) fun o42 =>
  y_nm (z_al h41 14 7) fun h43 =>
  y_gd (z_ok h43 o0 11) <|
  y_nm (z_sR h43 o0 21 (some o42)) fun h46 =>
  y_nm (z_n h46) fun o47 =>
  y_nm (z_al h46 13 104) fun h48 =>
  y_gd (z_ok h48 o0 11) <|
  y_nm (z_sR h48 o0 22 (some o47)) fun h51 =>
  y_nm (z_n h51) fun o52 =>
  y_nm (z_al h51 13 13) fun h53 =>
  y_gd (z_ok h53 o0 11) <|
  y_nm (z_sR h53 o0 23 (some o52)) fun h56 =>
  y_nm (z_n h56) fun o57 =>
  y_nm (z_al h56 14 729) fun h58 =>
  y_gd (z_ok h58 o0 11) <|
  y_nm (z_sR h58 o0 25 (some o57)) fun h61 =>
  y_nm (z_n h61) fun o62 =>
  y_nm (z_al h61 13 729) fun h63 =>
  y_gd (z_ok h63 o0 11) <|
  y_nm (z_sR h63 o0 26 (some o62)) fun h66 =>
  y_nm (z_n h66) fun o67 =>
  y_nm (z_al h66 12 400) fun h68 =>
  y_gd (z_ok h68 o0 11) <|
  y_nm (z_sR h68 o0 29 (some o67)) fun h71 =>
  y_nm (z_n h71) fun o72 =>
  y_nm (z_al h71 13 64) fun h73 =>
  y_gd (z_ok h73 o0 11) <|
  y_nm (z_sR h73 o0 30 (some o72)) fun h76 =>
  y_nm (z_n h76) fun o77 =>
  y_nm (z_al h76 13 124) fun h78 =>
  y_gd (z_ok h78 o0 11) <|
  y_nm (z_sR h78 o0 32 (some o77)) fun h81 =>
  y_nm (z_n h81) fun o82 =>
  y_nm (z_al h81 13 4) fun h83 =>
  y_gd (z_ok h83 o0 11) <|
  y_nm (z_sR h83 o0 33 (some o82)) fun h86 =>
  y_nm (z_n h86) fun o87 =>
  y_nm (z_al h86 13 4) fun h88 =>
  y_gd (z_ok h88 o0 11) <|
  y_nm (z_sR h88 o0 34 (some o87)) fun h91 =>
  y_nm (z_n h91) fun o92 =>
  y_nm (z_al h91 13 3) fun h93 =>
  y_gd (z_ok h93 o0 11) <|
  y_nm (z_sR h93 o0 43 (some o92)) fun h96 =>
  y_nm (z_n h96) fun o97 =>
  y_nm (z_al h96 13 45) fun h98 =>
  y_gd (z_ok h98 o0 11) <|
  y_nm (z_sR h98 o0 47 (some o97)) fun h101 =>
  y_nm (z_n h101) fun o102 =>
  y_nm (z_al h101 15 45) fun h103 =>
  y_gd (z_ok h103 o0 11) <|
  y_nm (z_sR h103 o0 53 (some o102)) fun h106 =>
  y_nm (z_n h106) fun o107 =>
  y_nm (z_al h106 13 714) fun h108 =>
  y_gd (z_ok h108 o0 11) <|
  y_nm (z_sR h108 o0 54 (some o107)) fun h111 =>
  y_nm (z_n h111) fun o112 =>
  y_nm (z_al h111 14 28) fun h113 =>
  y_gd (z_ok h113 o0 11) <|
  y_nm (z_sR h113 o0 55 (some o112)) fun h116 =>
  y_nm (z_n h116) fun o117 =>
  y_nm (z_al h116 15 2) fun h118 =>
  y_gd (z_ok h118 o0 11) <|
  y_nm (z_sR h118 o0 56 (some o117)) fun h121 =>
  y_bi (z_R h121 o0 10) fun o123 =>
  y_gd (z_ok h121 o123 14) <|
  y_gd (z_ix (0 : Int32) (z_N h121 o123)) <|
  y_nm (z_sL h121 o123 (0 : Int32).toNatClampNeg (1952805748 : Int64)) fun h126 =>
  y_gd (z_ix (1 : Int32) (z_N h126 o123)) <|
  y_nm (z_sL h126 o123 (1 : Int32).toNatClampNeg (431415976301 : Int64)) fun h131 =>
  y_gd (z_ix (2 : Int32) (z_N h131 o123)) <|
  y_nm (z_sL h131 o123 (2 : Int32).toNatClampNeg (1919905645 : Int64)) fun h136 =>
  y_gd (z_ix (3 : Int32) (z_N h136 o123)) <|
  y_nm (z_sL h136 o123 (3 : Int32).toNatClampNeg (499985311076 : Int64)) fun h141 =>
  y_gd (z_ix (4 : Int32) (z_N h141 o123)) <|
  y_nm (z_sL h141 o123 (4 : Int32).toNatClampNeg (1937076837 : Int64)) fun h146 =>
  y_gd (z_ix (5 : Int32) (z_N h146 o123)) <|
  y_nm (z_sL h146 o123 (5 : Int32).toNatClampNeg (1818326117 : Int64)) fun h151 =>
  y_gd (z_ix (6 : Int32) (z_N h151 o123)) <|
  y_nm (z_sL h151 o123 (6 : Int32).toNatClampNeg (513021013607 : Int64)) fun h156 =>
  y_gd (z_ix (7 : Int32) (z_N h156 o123)) <|
  y_nm (z_sL h156 o123 (7 : Int32).toNatClampNeg (465557353070 : Int64)) fun h161 =>
  y_gd (z_ix (8 : Int32) (z_N h161 o123)) <|
  y_nm (z_sL h161 o123 (8 : Int32).toNatClampNeg (26990 : Int64)) fun h166 =>
  y_gd (z_ix (9 : Int32) (z_N h166 o123)) <|
  y_nm (z_sL h166 o123 (9 : Int32).toNatClampNeg (495873784179 : Int64)) fun h171 =>
  y_gd (z_ix (10 : Int32) (z_N h171 o123)) <|
  y_nm (z_sL h171 o123 (10 : Int32).toNatClampNeg (470021465459 : Int64)) fun h176 =>
  y_gd (z_ix (11 : Int32) (z_N h176 o123)) <|
  y_nm (z_sL h176 o123 (11 : Int32).toNatClampNeg (30064 : Int64)) fun h181 =>
  y_gd (z_ix (12 : Int32) (z_N h181 o123)) <|
  y_nm (z_sL h181 o123 (12 : Int32).toNatClampNeg (6448484 : Int64)) fun h186 =>
  y_gd (z_ix (13 : Int32) (z_N h186 o123)) <|
  y_nm (z_sL h186 o123 (13 : Int32).toNatClampNeg (28530 : Int64)) fun h191 =>
  y_gd (z_ix (14 : Int32) (z_N h191 o123)) <|
  y_nm (z_sL h191 o123 (14 : Int32).toNatClampNeg (6385252 : Int64)) fun h196 =>
  y_gd (z_ix (15 : Int32) (z_N h196 o123)) <|
  y_nm (z_sL h196 o123 (15 : Int32).toNatClampNeg (7237492 : Int64)) fun h201 =>
  y_gd (z_ix (16 : Int32) (z_N h201 o123)) <|
  y_nm (z_sL h201 o123 (16 : Int32).toNatClampNeg (1735356260 : Int64)) fun h206 =>
  y_gd (z_ix (17 : Int32) (z_N h206 o123)) <|
  y_nm (z_sL h206 o123 (17 : Int32).toNatClampNeg (1801810036 : Int64)) fun h211 =>
  y_gd (z_ix (18 : Int32) (z_N h211 o123)) <|
  y_nm (z_sL h211 o123 (18 : Int32).toNatClampNeg (418548245860 : Int64)) fun h216 =>
  y_gd (z_ix (19 : Int32) (z_N h216 o123)) <|
  y_nm (z_sL h216 o123 (19 : Int32).toNatClampNeg (491495845235 : Int64)) fun h221 =>
  y_gd (z_ix (20 : Int32) (z_N h221 o123)) <|
  y_nm (z_sL h221 o123 (20 : Int32).toNatClampNeg (110442489933171 : Int64)) fun h226 =>
  y_gd (z_ix (21 : Int32) (z_N h226 o123)) <|
  y_nm (z_sL h226 o123 (21 : Int32).toNatClampNeg (482854658917 : Int64)) fun h231 =>
  y_bi (fX12_clearsC o0 h231) fun h233 =>
  fX12_init_b403C o0 (0 : Int32) h233
theorem fX12_init_C : fX12_init = fX12_initC := by
  unfold fX12_init fX12_initC
  rw [fX12_clears_C, fX12_init_b403_C]
noncomputable def z_h0 : z_T := (fun _ _ => 0, fun _ _ => 0, fun _ _ => none, fun _ => 0, fun _ => 0, 0)
noncomputable def xC (h : z_T) : Bool := decide (z_n h = 83) && (List.range 83).all (fun o => decide (z_K h o = xK o) && decide (z_N h o = xN o)) && xRl.all (fun q => decide (z_R h q.1 q.2.1 = some q.2.2)) && decide (z_R h 15 0 = some 1) && decide (z_R h 14 1 = none) && decide (z_R h 14 2 = none) && ([(1, 1), (1, 2), (15, 1), (30, 2), (30, 1), (9, 1), (11, 1), (13, 8), (20, 3), (25, 3)].all fun q => decide (z_I h q.1 q.2 = 0)) && (List.range 6).all (fun i => decide (z_I h 2 i = nI (a_bk0 (2 + i)))) && ([4, 5].all fun o => (List.range 8).all fun i => decide (z_I h o i = nI 0)) && ([7, 8].all fun o => (List.range 6).all fun i => decide (z_I h o (i + 1) = nI 0)) && ((List.range 8).all fun i => decide (z_I h 17 i = nI (a_tm (fun _ => 0) i 0))) && ((List.range 7).all fun i => decide (z_L h 18 i = lN (a_lk a_bk0 (fun _ => 0) i 0))) && [5, 6, 7].all (fun k => decide (z_I h 79 k = m1))
noncomputable def mC (h : z_T) : Bool := decide (z_n h = 23) && (List.range 23).all (fun o => decide (z_K h o = mK o) && decide (z_N h o = mN o)) && (List.range 57).all (fun k => decide (mR k = none) || decide (z_R h 0 k = mR k)) && (List.range 22).all (fun k => decide (z_L h 6 k = lN (a_c8 7 (a_wn (k + 1))))) && (List.range 36).all (fun k => decide (z_I h 2 k = nI (a_bk0 k))) && ([36, 49, 176].all fun k => decide (z_I h 2 k = nI 0)) && ([2, 15, 24, 31, 44].all fun k => decide (z_I h 0 k = nI 0)) && [0, 1].all (fun k => decide (z_I h 22 k = nI 0))
set_option maxRecDepth 100000 in
theorem xC_ok : (match fX11_initC 0 (z_al z_h0 10 0) with
    | some h => decide (z_n h = 82) && xC (z_al h 14 1)
    | none => false) = true := by decide +kernel
set_option maxRecDepth 100000 in
theorem mC_ok : (match fX12_initC 0 (z_al z_h0 11 0) with
    | some h => mC h
    | none => false) = true := by decide +kernel
