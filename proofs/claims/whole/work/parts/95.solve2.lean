/-! the class's pairing: the least table -/
theorem solve_135 {g h0 : Zh} {t : Tk} {d CR OW se : Nat} {pr0 ow0 : Nat → Option Nat} (tok : Tok t) (hH : tH t ≤ 300) (p : PX h0 t d CR OW) (cc : CC h0 t CR (crC t)) (h14 : zI h0 42 14 = iI se) (hse : se + 300 < 2147483648) (mk : Mr0 h0 se) (h2 : zI h0 42 2 = iI 1) (pw : PW h0 t OW pr0 ow0 1000) (cn : Cns (tH t) (fcr t (crC t)) pr0 ow0) (pf : Prf (tH t) pr0) : ∃ h' x' se', lp (fun q : Int32 × Zh => bX6_solve_135 g 42 q.1 q.2) zB (iI 0, h0) = some (1, (x', h')) ∧ Fm [42, 43, 47, 50, 51, 52, CR, OW] h0 h' ∧ (∀ j, j ≠ 10 → j ≠ 14 → zI h' 42 j = zI h0 42 j) ∧ zI h' 42 14 = iI (se' : Nat) ∧ se' ≤ se + 300 ∧ Mr0 h' se' ∧ ∃ M, Lst t M ∧ ∀ x, x < tH t → zI h' 43 x = iI (M x : Nat) := by
  obtain ⟨bn4, bn12, bu1, bu4, bnu, bk2, bk5, bkn, bp1, bp2, bpk, bH, bsp, bs1, bs4, bT1, bT16, bR1, bR2, bH1, bff, bff1⟩ := tok.b
  have hcr := crC_lt tok
  have a12 := p.2.2.2.2.2.2.2.2.2.2.2.1
  have a13 := p.2.2.2.2.2.2.2.2.2.2.2.2.1
  have a14 := p.2.2.2.2.2.2.2.2.2.2.2.2.2.1
  have a15 := p.2.2.2.2.2.2.2.2.2.2.2.2.2.2.1
  have m26 : (26 : Nat) ∉ [42, 43, 47, 50, 51, 52, CR, OW] := by simp; omega
  have m46 : (46 : Nat) ∉ [42, 43, 47, 50, 51, 52, CR, OW] := by simp; omega
  have md : d ∉ [42, 43, 47, 50, 51, 52, CR, OW] := by simp; omega
  clear a12 a13 a14 a15
  have := lp_cnt (body := fun q : Int32 × Zh => bX6_solve_135 g 42 q.1 q.2) (tH t) (fun x z => ∃ h, z = ((iI (x : Int), h) : Int32 × Zh) ∧ Fm [42, 43, 47, 50, 51, 52, CR, OW] h0 h ∧ (∀ j, j ≠ 10 → j ≠ 14 → zI h 42 j = zI h0 42 j) ∧ zI h 42 14 = iI ((se + x : Nat) : Int) ∧ Mr0 h (se + x) ∧ CC h t CR (crC t) ∧ ∃ pr ow, PW h t OW pr ow 1000 ∧ Cns (tH t) (fcr t (crC t)) pr ow ∧ Prf (tH t) pr ∧ ∀ y, y < x → ∃ row, pr y = some row ∧ ∀ r, r < row → fcr t (crC t) y r → Lq t (crC t) y pr r) (fun e z => e = 1 ∧ Fm [42, 43, 47, 50, 51, 52, CR, OW] h0 z.2 ∧ (∀ j, j ≠ 10 → j ≠ 14 → zI z.2 42 j = zI h0 42 j) ∧ ∃ se', zI z.2 42 14 = iI (se' : Nat) ∧ se' ≤ se + 300 ∧ Mr0 z.2 se' ∧ ∃ pr ow, PW z.2 t OW pr ow 1000 ∧ Cns (tH t) (fcr t (crC t)) pr ow ∧ Prf (tH t) pr ∧ ∀ y, y < tH t → ∃ row, pr y = some row ∧ ∀ r, r < row → fcr t (crC t) y r → Lq t (crC t) y pr r) ?_ ?_ (by omega) (s := (iI 0, h0)) ⟨h0, rfl, Fm.rf, fun _ _ _ => rfl, h14, mk, cc, pr0, ow0, pw, cn, pf, fun y hy => by omega⟩
  · obtain ⟨e, z, l1, l2, l3, l4, se', l5, l6, l7, pr, ow, l8, l9, l10, l11⟩ := this
    have e0 : e = 0 := by omega
    subst e0
    have hM : ∀ y, y < tH t → pr y = some ((pr y).getD 0) := fun y hy => by
      obtain ⟨row, h1, -⟩ := l11 y hy
      rw [h1]; rfl
    refine ⟨z.2, z.1, se', l1, l3, l4, l5, l6, l7, fun y => (pr y).getD 0, ⟨⟨fun x hx => ?_, fun x y hxy hy e => ?_⟩, fun x r hx hr M2 t2 hag q => ?_⟩, fun x hx => ?_⟩
    · exact (crC_fit tok hx _).mp (l9.1 x _ hx (hM x hx)).1
    · have h1 := (l9.1 x _ (by omega) (hM x (by omega))).2
      have h2 := (l9.1 y _ hy (hM y hy)).2
      dsimp only at e
      rw [e, h2] at h1
      have := Option.some.inj h1
      omega
    · obtain ⟨row, h1, h2⟩ := l11 x hx
      have hrow : (pr x).getD 0 = row := by rw [h1]; rfl
      dsimp only at hr
      rw [hrow] at hr
      have hfit : fcr t (crC t) x r := by
        rw [← q]
        exact (crC_fit tok hx _).mpr (t2.1 x hx)
      refine h2 r hr hfit M2 (fun y hy => (crC_fit tok hy _).mpr (t2.1 y hy)) t2.2 (fun y hy => ?_) q
      rw [hM y (by omega), hag y hy]
    · rw [l8.1 x hx (by omega), hM x hx]
      rfl
  · intro x z hx ⟨h, ez, fm, k1, k2, k3, k4, pr, ow, w1, w2, w3, w4⟩
    subst ez
    have p1 := p.fm fm m26 m46 md (k1 6 (by decide) (by decide))
    have s1 := p1.1
    have q3 : zR h 42 3 = some d := p1.2.1
    have d3 : Dk h d t := p1.2.2.2.2.2.2.2.2.2.2.2.2.2.2.2.1
    have hw : zI h 42 2 = iI 1 := by rw [k1 2 (by decide) (by decide)]; exact h2
    obtain ⟨h', pr', ow', r1, r2, r3, r4, r5, r6, r7, r8, r9, r10, row, r11, r12⟩ := fX6_settleLeast_eq tok hH hcr (crC_asc tok) p1 k2 (by omega) w2 w3 w1 k4 k3 hx
    refine Or.inl ⟨(iI ((x + 1 : Nat) : Int), h'), ?_, h', rfl, fm.tr r2, fun j j1 j2 => by rw [r3 j j1 j2, k1 j j1 j2], r4, r6, r5, pr', ow', r7, r8, r9, fun y hy => ?_⟩
    · show bX6_solve_135 g 42 (iI x) h = _
      unfold bX6_solve_135
      simp (maxSteps := 1000000) (disch := (first | assumption | exact ne_b rfl | omega)) only [↓reduceIte, ↓zlet_eq, ↓bdR_sI, ↓bdR_sJ, ↓bdR_aI, zc2_some, Option.bind_some, ↓si_m1, ↓si_m2, ↓si_m3, iI_lit, iI_add, iI_sub, iI_mul, leT, leF, ltT, ltF, eqT, eqF, zinT, clI, Int.toNat_natCast, Int.reduceToNat, tN1, tNa, tN0, tNm, if_pos, if_neg, zI_sI, zI_sJ, zI_sR, zJ_sI, zJ_sJ, zJ_sR, zR_sI, zR_sJ, zR_sR, zK_sI, zK_sJ, zK_sR, zL_sI, zL_sJ, zL_sR, zI_aI, zJ_aI, zR_aI, zK_aI, zL_aI, z2_at, z2_a, z2_k, z1_self, z1_ne, true_and, and_true, bIt, bIf, Bool.false_eq_true, Bool.true_eq_false, eq_self, not_true_eq_false, not_false_eq_true, sK0, sK1, sK2, sK3, sK4, sK5, sK6, sK7, sK8, sK9, sK10, sK11, sK12, sK13, sK14, sK15, sK16, sK17, sK18, sK19, sK20, sK21, sK22, sK23, sK24, sK25, sK26, sK27, sK28, sK29, sK30, sK31, sK32, sK33, sK34, sK35, sK36, sK37, sK38, sK39, sK40, sK41, sK42, sK43, sK44, sK45, sK46, sK47, sK48, sK49, sK50, sK51, sK52, sK53, sK54, sK55, sK56, sK57, sK58, sK59, sK60, sK61, sK62, sK63, sK64, sK65, sK66, sK67, sK68, sK69, sK70, sK71, sK72, sK73, sK74, sK75, sL1, sL3, sL6, sL8, sL9, sL10, sL11, sL12, sL15, sL17, sL18, sL21, sL23, sL24, sL26, sL29, sL31, sL32, sL34, sL36, sL37, sL39, sL40, sL41, sL43, sL45, sL46, sL47, sL48, sL49, sL50, sL51, sL52, sL53, sL55, sL57, sL59, sL61, sL62, sL63, sL64, sL65, sL67, sL68, sL70, sL71, sL73, sL74, sL75, sR0_0, sR0_2, sR0_5, sR0_6, sR0_11, sR2_5, sR2_6, sR2_7, sR4_1, sR4_2, sR4_4, sR7_0, sR7_1, sR13_1, sR13_2, sR13_4, sR16_0, sR16_1, sR19_1, sR19_2, sR19_4, sR22_0, sR22_1, sR25_0, sR25_2, sR25_3, sR25_4, sR25_5, sR25_6, sR25_7, sR25_8, sR25_10, sR27_1, sR27_2, sR27_4, sR30_0, sR30_1, sR33_0, sR35_0, sR35_1, sR38_0, sR38_1, sR38_2, sR42_0, sR42_5, sR42_7, sR42_11, sR42_12, sR42_13, sR53_0, sR53_1, sR53_2, sR53_3, sR54_1, sR56_1, sR58_1, sR60_1, sR65_0, sR65_1, sR65_2, sR66_0, sR66_1, sR69_0, sR69_1, sR72_0, sR72_1, ↓sB0_0, ↓sB0_2, ↓sB0_5, ↓sB0_6, ↓sB0_11, ↓sB2_5, ↓sB2_6, ↓sB2_7, ↓sB4_1, ↓sB4_2, ↓sB4_4, ↓sB7_0, ↓sB7_1, ↓sB13_1, ↓sB13_2, ↓sB13_4, ↓sB16_0, ↓sB16_1, ↓sB19_1, ↓sB19_2, ↓sB19_4, ↓sB22_0, ↓sB22_1, ↓sB25_0, ↓sB25_2, ↓sB25_3, ↓sB25_4, ↓sB25_5, ↓sB25_6, ↓sB25_7, ↓sB25_8, ↓sB25_10, ↓sB27_1, ↓sB27_2, ↓sB27_4, ↓sB30_0, ↓sB30_1, ↓sB33_0, ↓sB35_0, ↓sB35_1, ↓sB38_0, ↓sB38_1, ↓sB38_2, ↓sB42_0, ↓sB42_5, ↓sB42_7, ↓sB42_11, ↓sB42_12, ↓sB42_13, ↓sB53_0, ↓sB53_1, ↓sB53_2, ↓sB53_3, ↓sB54_1, ↓sB56_1, ↓sB58_1, ↓sB60_1, ↓sB65_0, ↓sB65_1, ↓sB65_2, ↓sB66_0, ↓sB66_1, ↓sB69_0, ↓sB69_1, ↓sB72_0, ↓sB72_1, ↓bd_of q3, d3.fK, d3.f9, hw, ↓bd_of r1]
      rfl
    · have hL : ∀ (y r : Nat), y ≤ x → Lq t (crC t) y pr r → Lq t (crC t) y pr' r := fun y r hy hq M m1 m2 m3 => hq M m1 m2 (fun z hz => by rw [← r10 z (by omega)]; exact m3 z hz)
      by_cases c : y = x
      · rw [c]
        exact ⟨row, r11, fun r hr hf => hL x r (Nat.le_refl _) (r12 r hr hf)⟩
      · obtain ⟨row2, v1, v2⟩ := w4 y (by omega)
        exact ⟨row2, by rw [r10 y (by omega)]; exact v1, fun r hr hf => hL y r (by omega) (v2 r hr hf)⟩
  · intro z ⟨h, ez, fm, k1, k2, k3, k4, pr, ow, w1, w2, w3, w4⟩
    subst ez
    have p1 := p.fm fm m26 m46 md (k1 6 (by decide) (by decide))
    have s1 := p1.1
    have q3 : zR h 42 3 = some d := p1.2.1
    have d3 : Dk h d t := p1.2.2.2.2.2.2.2.2.2.2.2.2.2.2.2.1
    refine ⟨0, (iI (tH t), h), ?_, rfl, fm, k1, se + tH t, k2, by omega, k3, pr, ow, w1, w2, w3, w4⟩
    show bX6_solve_135 g 42 (iI (tH t)) h = _
    unfold bX6_solve_135
    simp (maxSteps := 1000000) (disch := (first | assumption | exact ne_b rfl | omega)) only [↓reduceIte, ↓zlet_eq, ↓bdR_sI, ↓bdR_sJ, ↓bdR_aI, zc2_some, Option.bind_some, ↓si_m1, ↓si_m2, ↓si_m3, iI_lit, iI_add, iI_sub, iI_mul, leT, leF, ltT, ltF, eqT, eqF, zinT, clI, Int.toNat_natCast, Int.reduceToNat, tN1, tNa, tN0, tNm, if_pos, if_neg, zI_sI, zI_sJ, zI_sR, zJ_sI, zJ_sJ, zJ_sR, zR_sI, zR_sJ, zR_sR, zK_sI, zK_sJ, zK_sR, zL_sI, zL_sJ, zL_sR, zI_aI, zJ_aI, zR_aI, zK_aI, zL_aI, z2_at, z2_a, z2_k, z1_self, z1_ne, true_and, and_true, bIt, bIf, Bool.false_eq_true, Bool.true_eq_false, eq_self, not_true_eq_false, not_false_eq_true, sK0, sK1, sK2, sK3, sK4, sK5, sK6, sK7, sK8, sK9, sK10, sK11, sK12, sK13, sK14, sK15, sK16, sK17, sK18, sK19, sK20, sK21, sK22, sK23, sK24, sK25, sK26, sK27, sK28, sK29, sK30, sK31, sK32, sK33, sK34, sK35, sK36, sK37, sK38, sK39, sK40, sK41, sK42, sK43, sK44, sK45, sK46, sK47, sK48, sK49, sK50, sK51, sK52, sK53, sK54, sK55, sK56, sK57, sK58, sK59, sK60, sK61, sK62, sK63, sK64, sK65, sK66, sK67, sK68, sK69, sK70, sK71, sK72, sK73, sK74, sK75, sL1, sL3, sL6, sL8, sL9, sL10, sL11, sL12, sL15, sL17, sL18, sL21, sL23, sL24, sL26, sL29, sL31, sL32, sL34, sL36, sL37, sL39, sL40, sL41, sL43, sL45, sL46, sL47, sL48, sL49, sL50, sL51, sL52, sL53, sL55, sL57, sL59, sL61, sL62, sL63, sL64, sL65, sL67, sL68, sL70, sL71, sL73, sL74, sL75, sR0_0, sR0_2, sR0_5, sR0_6, sR0_11, sR2_5, sR2_6, sR2_7, sR4_1, sR4_2, sR4_4, sR7_0, sR7_1, sR13_1, sR13_2, sR13_4, sR16_0, sR16_1, sR19_1, sR19_2, sR19_4, sR22_0, sR22_1, sR25_0, sR25_2, sR25_3, sR25_4, sR25_5, sR25_6, sR25_7, sR25_8, sR25_10, sR27_1, sR27_2, sR27_4, sR30_0, sR30_1, sR33_0, sR35_0, sR35_1, sR38_0, sR38_1, sR38_2, sR42_0, sR42_5, sR42_7, sR42_11, sR42_12, sR42_13, sR53_0, sR53_1, sR53_2, sR53_3, sR54_1, sR56_1, sR58_1, sR60_1, sR65_0, sR65_1, sR65_2, sR66_0, sR66_1, sR69_0, sR69_1, sR72_0, sR72_1, ↓sB0_0, ↓sB0_2, ↓sB0_5, ↓sB0_6, ↓sB0_11, ↓sB2_5, ↓sB2_6, ↓sB2_7, ↓sB4_1, ↓sB4_2, ↓sB4_4, ↓sB7_0, ↓sB7_1, ↓sB13_1, ↓sB13_2, ↓sB13_4, ↓sB16_0, ↓sB16_1, ↓sB19_1, ↓sB19_2, ↓sB19_4, ↓sB22_0, ↓sB22_1, ↓sB25_0, ↓sB25_2, ↓sB25_3, ↓sB25_4, ↓sB25_5, ↓sB25_6, ↓sB25_7, ↓sB25_8, ↓sB25_10, ↓sB27_1, ↓sB27_2, ↓sB27_4, ↓sB30_0, ↓sB30_1, ↓sB33_0, ↓sB35_0, ↓sB35_1, ↓sB38_0, ↓sB38_1, ↓sB38_2, ↓sB42_0, ↓sB42_5, ↓sB42_7, ↓sB42_11, ↓sB42_12, ↓sB42_13, ↓sB53_0, ↓sB53_1, ↓sB53_2, ↓sB53_3, ↓sB54_1, ↓sB56_1, ↓sB58_1, ↓sB60_1, ↓sB65_0, ↓sB65_1, ↓sB65_2, ↓sB66_0, ↓sB66_1, ↓sB69_0, ↓sB69_1, ↓sB72_0, ↓sB72_1, ↓bd_of q3, d3.fK, d3.f9]
