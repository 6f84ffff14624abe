/-! the class's set of rows, the model's owners: maps -/
def updO (f : Nat → Option Int) (r : Nat) (v : Int) (q : Nat) : Option Int := if q = r then some v else f q
def RS0 (h : Zh) (sp : Nat) : Prop := sp < 2147480000 ∧ zI h 38 3 = iI sp ∧ ∃ stp : Nat → Nat, ∀ p, p < 8192 → zI h 41 p = iI (stp p) ∧ stp p ≤ sp
def RS (h : Zh) (f : Nat → Option Int) (c sp : Nat) : Prop := sp < 2147480000 ∧ zI h 38 3 = iI sp ∧ ∃ (M : Nat) (stp key : Nat → Nat) (val : Nat → Int), M = 8192 ∧ (∀ p, p < 8192 → zI h 41 p = iI (stp p) ∧ stp p ≤ sp) ∧ (∀ p, p < 8192 → stp p = sp → zI h 39 p = iI (key p) ∧ key p < 2147483648 ∧ zI h 40 p = iI (val p)) ∧ HV M hsC (fun p => decide (stp p = sp)) key c ∧ ∀ r, f r = lk M hsC (fun p => decide (stp p = sp)) key val r
theorem RS.z {h : Zh} {f : Nat → Option Int} {c sp : Nat} (q : RS h f c sp) : RS0 h sp := by
  obtain ⟨a, b, M, stp, key, val, -, d, -⟩ := q
  exact ⟨a, b, stp, d⟩
theorem RS0.fm {S : List Nat} {h h' : Zh} {sp : Nat} (q : RS0 h sp) (f : Fm S h h') (h1 : 38 ∉ S) (h2 : 41 ∉ S) : RS0 h' sp := by
  unfold RS0
  rw [f.I h1, f.I h2]
  exact q
theorem RS.fm {S : List Nat} {h h' : Zh} {f : Nat → Option Int} {c sp : Nat} (q : RS h f c sp) (fm : Fm S h h') (h1 : 38 ∉ S) (h2 : 41 ∉ S) (h3 : 39 ∉ S) (h4 : 40 ∉ S) : RS h' f c sp := by
  unfold RS
  rw [fm.I h1, fm.I h2, fm.I h3, fm.I h4]
  exact q
theorem fX8_clear_eq {h : Zh} {sp : Nat} (s : St h) (q : RS0 h sp) (hs : sp + 1 < 2147480000) : ∃ h', fX8_clear 38 h = some h' ∧ Fm [38] h h' ∧ RS h' (fun _ => none) 0 (sp + 1) := by
  obtain ⟨a, b, stp, d⟩ := q
  refine ⟨zsI h 38 3 (iI ((sp + 1 : Nat) : Int)), ?_, Fm_sI _ _ _ (by simp), ?_⟩
  · unfold fX8_clear
    simp (maxSteps := 1000000) (disch := (first | assumption | exact ne_b rfl | omega)) only [↓reduceIte, ↓zlet_eq, ↓bdR_sI, ↓bdR_sJ, ↓bdR_aI, zc2_some, Option.bind_some, ↓si_m1, ↓si_m2, ↓si_m3, iI_lit, iI_add, iI_sub, iI_mul, leT, leF, ltT, ltF, eqT, eqF, zinT, clI, Int.toNat_natCast, Int.reduceToNat, tN1, tNa, tN0, tNm, if_pos, if_neg, zI_sI, zI_sJ, zI_sR, zJ_sI, zJ_sJ, zJ_sR, zR_sI, zR_sJ, zR_sR, zK_sI, zK_sJ, zK_sR, zL_sI, zL_sJ, zL_sR, zI_aI, zJ_aI, zR_aI, zK_aI, zL_aI, z2_at, z2_a, z2_k, z1_self, z1_ne, true_and, and_true, bIt, bIf, Bool.false_eq_true, Bool.true_eq_false, eq_self, not_true_eq_false, not_false_eq_true, sK0, sK1, sK2, sK3, sK4, sK5, sK6, sK7, sK8, sK9, sK10, sK11, sK12, sK13, sK14, sK15, sK16, sK17, sK18, sK19, sK20, sK21, sK22, sK23, sK24, sK25, sK26, sK27, sK28, sK29, sK30, sK31, sK32, sK33, sK34, sK35, sK36, sK37, sK38, sK39, sK40, sK41, sK42, sK43, sK44, sK45, sK46, sK47, sK48, sK49, sK50, sK51, sK52, sK53, sK54, sK55, sK56, sK57, sK58, sK59, sK60, sK61, sK62, sK63, sK64, sK65, sK66, sK67, sK68, sK69, sK70, sK71, sK72, sK73, sK74, sK75, sL1, sL3, sL6, sL8, sL9, sL10, sL11, sL12, sL15, sL17, sL18, sL21, sL23, sL24, sL26, sL29, sL31, sL32, sL34, sL36, sL37, sL39, sL40, sL41, sL43, sL45, sL46, sL47, sL48, sL49, sL50, sL51, sL52, sL53, sL55, sL57, sL59, sL61, sL62, sL63, sL64, sL65, sL67, sL68, sL70, sL71, sL73, sL74, sL75, sR0_0, sR0_2, sR0_5, sR0_6, sR0_11, sR2_5, sR2_6, sR2_7, sR4_1, sR4_2, sR4_4, sR7_0, sR7_1, sR13_1, sR13_2, sR13_4, sR16_0, sR16_1, sR19_1, sR19_2, sR19_4, sR22_0, sR22_1, sR25_0, sR25_2, sR25_3, sR25_4, sR25_5, sR25_6, sR25_7, sR25_8, sR25_10, sR27_1, sR27_2, sR27_4, sR30_0, sR30_1, sR33_0, sR35_0, sR35_1, sR38_0, sR38_1, sR38_2, sR42_0, sR42_5, sR42_7, sR42_11, sR42_12, sR42_13, sR53_0, sR53_1, sR53_2, sR53_3, sR54_1, sR56_1, sR58_1, sR60_1, sR65_0, sR65_1, sR65_2, sR66_0, sR66_1, sR69_0, sR69_1, sR72_0, sR72_1, ↓sB0_0, ↓sB0_2, ↓sB0_5, ↓sB0_6, ↓sB0_11, ↓sB2_5, ↓sB2_6, ↓sB2_7, ↓sB4_1, ↓sB4_2, ↓sB4_4, ↓sB7_0, ↓sB7_1, ↓sB13_1, ↓sB13_2, ↓sB13_4, ↓sB16_0, ↓sB16_1, ↓sB19_1, ↓sB19_2, ↓sB19_4, ↓sB22_0, ↓sB22_1, ↓sB25_0, ↓sB25_2, ↓sB25_3, ↓sB25_4, ↓sB25_5, ↓sB25_6, ↓sB25_7, ↓sB25_8, ↓sB25_10, ↓sB27_1, ↓sB27_2, ↓sB27_4, ↓sB30_0, ↓sB30_1, ↓sB33_0, ↓sB35_0, ↓sB35_1, ↓sB38_0, ↓sB38_1, ↓sB38_2, ↓sB42_0, ↓sB42_5, ↓sB42_7, ↓sB42_11, ↓sB42_12, ↓sB42_13, ↓sB53_0, ↓sB53_1, ↓sB53_2, ↓sB53_3, ↓sB54_1, ↓sB56_1, ↓sB58_1, ↓sB60_1, ↓sB65_0, ↓sB65_1, ↓sB65_2, ↓sB66_0, ↓sB66_1, ↓sB69_0, ↓sB69_1, ↓sB72_0, ↓sB72_1, b]
    rfl
  · obtain ⟨M, hM⟩ : ∃ M, M = 8192 := ⟨_, rfl⟩
    obtain ⟨v, l⟩ := HV.empty (M := M) (hs := hsC) (occ := fun p => decide (stp p = sp + 1)) (key := fun _ => 0) (by omega) (fun p hp => decide_eq_false (by have := (d p (by omega)).2; omega))
    refine ⟨hs, by rw [zI_sI, z2_at], M, stp, fun _ => 0, fun _ => 0, hM, fun p hp => ?_, fun p hp e => ?_, v, fun r => (l _ r).symm⟩
    · rw [zI_sI, z2_a _ _ _ _ (by decide)]
      exact ⟨(d p hp).1, by have := (d p hp).2; omega⟩
    · have := (d p hp).2
      omega
theorem hsC_ush (r : Nat) : zush (iI (r : Int) * (-1640531535 : Int32)) (19 : Int32) = iI (hsC r) := by
  unfold hsC
  exact pk_ush19 _
theorem slotOf_eq {M : Nat} (hM : M = 8192) {h : Zh} {sp c r : Nat} {stp key : Nat → Nat} {val : Nat → Int} (s : St h) (a : sp < 2147480000) (b : zI h 38 3 = iI sp) (hr : r < 2147483648) (d1 : ∀ p, p < 8192 → zI h 41 p = iI (stp p) ∧ stp p ≤ sp) (d2 : ∀ p, p < 8192 → stp p = sp → zI h 39 p = iI (key p) ∧ key p < 2147483648 ∧ zI h 40 p = iI (val p)) (v : HV M hsC (fun p => decide (stp p = sp)) key c) : fX8_slotOf 38 (iI r) h = some (iI (slt M hsC (fun p => decide (stp p = sp)) key r), h) := by
  obtain ⟨f1, f2, f3'⟩ := v.found r
  have f3 : slt M hsC (fun p => decide (stp p = sp)) key r < 8192 := by rw [← hM]; exact f3'
  have hpl : ∀ d, prb M (hsC r) d < M := fun d => prb_lt (by omega)
  unfold fX8_slotOf
  rw [zlet_eq, hsC_ush, zlet_eq]
  refine (lp_fb (st := fun d => ((iI (prb M (hsC r) d), iI (d : Int), h) : Int32 × Int32 × Zh)) (e := 0) (s' := (iI (slt M hsC (fun p => decide (stp p = sp)) key r), iI (sdt M hsC (fun p => decide (stp p = sp)) key r), h)) (sdt M hsC (fun p => decide (stp p = sp)) key r) ?_ (by omega) ?_ ?_).trans rfl
  · show (_, _, _) = (iI ((prb M (hsC r) 0 : Nat) : Int), _, _)
    have : prb M (hsC r) 0 = hsC r := Nat.mod_eq_of_lt (by rw [hM]; exact hsC_lt r)
    rw [this]
    rfl
  · sorry
  · sorry
