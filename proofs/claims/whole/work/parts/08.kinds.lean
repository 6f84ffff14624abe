theorem zun_p {c A B : Prop} [Decidable c] (hc : c) (h : if c then A else B) : A := by rwa [if_pos hc] at h
theorem zun_n {c A B : Prop} [Decidable c] (hc : ¬ c) (h : if c then A else B) : B := by rwa [if_neg hc] at h
theorem zifp {c A B : Prop} [Decidable c] (hc : c) (h : A) : if c then A else B := by rwa [if_pos hc]
theorem zifn {c A B : Prop} [Decidable c] (hc : ¬ c) (h : B) : if c then A else B := by rwa [if_neg hc]

theorem zu0 : ∀ w ∈ u_ws RX0 TX0 13, w ∈ zgd := fun w h => zgd_in ((by decide +kernel : ∀ w ∈ u_ws RX0 TX0 13, w ∈ lw_tbl) w h) ((by decide +kernel : ∀ w ∈ u_ws RX0 TX0 13, goodWord w = true) w h)
theorem zf0 : zF 0 RX0 TX0 13 := ⟨by decide, rfl, rfl, zu0, tyX0_ok, nmX0⟩
theorem zu1 : ∀ w ∈ u_ws RX1 TX1 4, w ∈ zgd := fun w h => zgd_in ((by decide +kernel : ∀ w ∈ u_ws RX1 TX1 4, w ∈ lw_tbl) w h) ((by decide +kernel : ∀ w ∈ u_ws RX1 TX1 4, goodWord w = true) w h)
theorem zf1 : zF 1 RX1 TX1 4 := ⟨by decide, rfl, rfl, zu1, tyX1_ok, nmX1⟩
theorem zu2 : ∀ w ∈ u_ws RX2 TX2 10, w ∈ zgd := fun w h => zgd_in ((by decide +kernel : ∀ w ∈ u_ws RX2 TX2 10, w ∈ lw_tbl) w h) ((by decide +kernel : ∀ w ∈ u_ws RX2 TX2 10, goodWord w = true) w h)
theorem zf2 : zF 2 RX2 TX2 10 := ⟨by decide, rfl, rfl, zu2, tyX2_ok, nmX2⟩
theorem zu3 : ∀ w ∈ u_ws RX3 TX3 2, w ∈ zgd := fun w h => zgd_in ((by decide +kernel : ∀ w ∈ u_ws RX3 TX3 2, w ∈ lw_tbl) w h) ((by decide +kernel : ∀ w ∈ u_ws RX3 TX3 2, goodWord w = true) w h)
theorem zf3 : zF 3 RX3 TX3 2 := ⟨by decide, rfl, rfl, zu3, tyX3_ok, nmX3⟩
theorem zu4 : ∀ w ∈ u_ws RX4 TX4 11, w ∈ zgd := fun w h => zgd_in ((by decide +kernel : ∀ w ∈ u_ws RX4 TX4 11, w ∈ lw_tbl) w h) ((by decide +kernel : ∀ w ∈ u_ws RX4 TX4 11, goodWord w = true) w h)
theorem zf4 : zF 4 RX4 TX4 11 := ⟨by decide, rfl, rfl, zu4, tyX4_ok, nmX4⟩
theorem zu5 : ∀ w ∈ u_ws RX5 TX5 1, w ∈ zgd := fun w h => zgd_in ((by decide +kernel : ∀ w ∈ u_ws RX5 TX5 1, w ∈ lw_tbl) w h) ((by decide +kernel : ∀ w ∈ u_ws RX5 TX5 1, goodWord w = true) w h)
theorem zf5 : zF 5 RX5 TX5 1 := ⟨by decide, rfl, rfl, zu5, tyX5_ok, nmX5⟩
theorem zu6 : ∀ w ∈ u_ws RX6 TX6 15, w ∈ zgd := fun w h => zgd_in ((by decide +kernel : ∀ w ∈ u_ws RX6 TX6 15, w ∈ lw_tbl) w h) ((by decide +kernel : ∀ w ∈ u_ws RX6 TX6 15, goodWord w = true) w h)
theorem zf6 : zF 6 RX6 TX6 15 := ⟨by decide, rfl, rfl, zu6, tyX6_ok, nmX6⟩
theorem zu7 : ∀ w ∈ u_ws RX7 TX7 12, w ∈ zgd := fun w h => zgd_in ((by decide +kernel : ∀ w ∈ u_ws RX7 TX7 12, w ∈ lw_tbl) w h) ((by decide +kernel : ∀ w ∈ u_ws RX7 TX7 12, goodWord w = true) w h)
theorem zf7 : zF 7 RX7 TX7 12 := ⟨by decide, rfl, rfl, zu7, tyX7_ok, nmX7⟩
theorem zu8 : ∀ w ∈ u_ws RX8 TX8 4, w ∈ zgd := fun w h => zgd_in ((by decide +kernel : ∀ w ∈ u_ws RX8 TX8 4, w ∈ lw_tbl) w h) ((by decide +kernel : ∀ w ∈ u_ws RX8 TX8 4, goodWord w = true) w h)
theorem zf8 : zF 8 RX8 TX8 4 := ⟨by decide, rfl, rfl, zu8, tyX8_ok, nmX8⟩
theorem zu9 : ∀ w ∈ u_ws RX9 TX9 5, w ∈ zgd := fun w h => zgd_in ((by decide +kernel : ∀ w ∈ u_ws RX9 TX9 5, w ∈ lw_tbl) w h) ((by decide +kernel : ∀ w ∈ u_ws RX9 TX9 5, goodWord w = true) w h)
theorem zf9 : zF 9 RX9 TX9 5 := ⟨by decide, rfl, rfl, zu9, tyX9_ok, nmX9⟩
theorem zu10 : ∀ w ∈ u_ws RX10 TX10 12, w ∈ zgd := fun w h => zgd_in ((by decide +kernel : ∀ w ∈ u_ws RX10 TX10 12, w ∈ lw_tbl) w h) ((by decide +kernel : ∀ w ∈ u_ws RX10 TX10 12, goodWord w = true) w h)
theorem zf10 : zF 10 RX10 TX10 12 := ⟨by decide, rfl, rfl, zu10, tyX10_ok, nmX10⟩
theorem zu11 : ∀ w ∈ u_ws RX11 TX11 15, w ∈ zgd := fun w h => zgd_in ((by decide +kernel : ∀ w ∈ u_ws RX11 TX11 15, w ∈ lw_tbl) w h) ((by decide +kernel : ∀ w ∈ u_ws RX11 TX11 15, goodWord w = true) w h)
theorem zf11 : zF 11 RX11 TX11 15 := ⟨by decide, rfl, rfl, zu11, tyX11_ok, nmX11⟩
theorem zu12 : ∀ w ∈ u_ws RX12 TX12 46, w ∈ zgd := fun w h => zgd_in ((by decide +kernel : ∀ w ∈ u_ws RX12 TX12 46, w ∈ lw_tbl) w h) ((by decide +kernel : ∀ w ∈ u_ws RX12 TX12 46, goodWord w = true) w h)
theorem zf12 : zF 12 RX12 TX12 46 := ⟨by decide, rfl, rfl, zu12, tyX12_ok, nmX12⟩
