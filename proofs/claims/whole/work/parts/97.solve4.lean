theorem solve_b {h ha : Zh} {t : Tk} {d CR OW se : Nat} (tok : Tok t) (hN : 101 ≤ zN h) (pi : PI h CR OW se) (hd : d = 14 ∨ d = 20) (hse : se + 600 < 2147483648) (hsN : zN h + 2 ≤ 601024) (hsS : tH t ≤ 300 → zS h + grw (zL h CR) (tH t * pcn t) + grw (zL h OW) (tR t) ≤ 7293034) (sA : St ha) (rA3 : zR ha 42 3 = some d) (rA4 : zR ha 42 4 = some 26) (rA8 : zR ha 42 8 = some CR) (rA9 : zR ha 42 9 = some OW) (dA : Dk ha d t) (hA : HdC ha t) (iA : ∀ j, j ≠ 1 → zI ha 42 j = zI h 42 j) (iA1 : zI ha 42 1 = iI 1) (iAo : ∀ i, i ≠ 42 → zI ha i = zI h i ∧ zJ ha i = zJ h i ∧ zR ha i = zR h i) (kA : zK ha = zK h) (lA : zL ha = zL h) (nA : zN ha = zN h) (zA : zS ha = zS h) : ∃ h' CR' OW' se', (if tH t ≤ 300 ∧ tH t ≤ rwsC t then jX6_solve_68 h 42 33 (iI 1) 42 ha else jX6_solve_68 h 42 33 (iI 0) 42 ha) = some h' ∧ St h' ∧ Fc (fun i => i ∈ [34, 42, 43, 46, 47, 50, 51, 52] ∨ i = CR ∨ i = OW) h h' ∧ PI h' CR' OW' se' ∧ se' ≤ se + 600 ∧ PRd h' t true ∧ Cst h h' t CR OW CR' OW' := by
  have hshx : tst t = true → thd t = false := tok.2.2.2.2.2.2.2.2.2.2.2.2
  obtain ⟨bn4, bn12, bu1, bu4, bnu, bk2, bk5, bkn, bp1, bp2, bpk, bH, bsp, bs1, bs4, bT1, bT16, bR1, bR2, bH1, bff, bff1⟩ := tok.b
  obtain ⟨i1, i2, i3, i4, i5, i6, i7, i8, i9, i10, i11, i12, i13⟩ := pi
  by_cases c : tH t ≤ 300 ∧ tH t ≤ rwsC t
  · rw [if_pos c]
    have fmB : Fm [42] ha (zsI ha 42 2 (iI 1)) := Fm_sI _ _ _ (by simp)
    have sB : St (zsI ha 42 2 (iI 1)) := sA.sI _ _ _
    have pB : P0 (zsI ha 42 2 (iI 1)) t d CR OW := ⟨sB, rA3, rA4, rA8, rA9, by show zK ha CR = 100; rw [kA]; exact i3, by show zK ha OW = 100; rw [kA]; exact i4, by show zL ha CR < _; rw [lA]; exact i5, by show zL ha OW < _; rw [lA]; exact i6, i7, i8, i9, by show CR < zN ha; rw [nA]; exact i10, by show OW < zN ha; rw [nA]; exact i11, hd, dA.fm fmB (by simp; omega), by intro x hx; rw [fmB.I (by simp)]; exact hA x hx⟩
    obtain ⟨hc1, CR', OW', r1, r2, r3, r4, r5, r6, r7, r8, r9, r10, r11, r12⟩ := fX6_clear_eq pB tok c.1 (by show zN ha + 2 ≤ _; rw [nA]; exact hsN) (by show zS ha + grw (zL ha CR) _ + grw (zL ha OW) _ ≤ _; rw [zA, lA]; exact hsS c.1)
    have hN3 := r3.1
    have eN : zN (zsI ha 42 2 (iI 1)) = zN h := nA
    have h14c : zI hc1 42 14 = iI se := by
      rw [r4 14 (by decide) (by decide), zI_sI, z2_k _ _ _ (by decide), iA 14 (by decide)]; exact i12
    have h2c : zI hc1 42 2 = iI 1 := by rw [r4 2 (by decide) (by decide), zI_sI, z2_at]
    have h1c : zI hc1 42 1 = iI 1 := by rw [r4 1 (by decide) (by decide), zI_sI, z2_k _ _ _ (by decide), iA1]
    have mkc : Mr0 hc1 se := by
      unfold Mr0
      have := (r3.2.2 52 (by rw [eN]; omega) (by simp; omega)).1
      rw [this, fmB.I (by simp), (iAo 52 (by decide)).1]
      exact i13
    have px := r2.1
    obtain ⟨h8, x8, se8, l1, l2, l3, l4, l5, l6, l7, l8⟩ := solve_87 (g := h) tok c.1 r2 h14c (by omega) mkc h2c
    have stc : St hc1 := px.1
    have st8 : St h8 := stc.fm l2
    have ne42 : ∀ z, z ∈ [42, 43, 47, 50, 51, 52, CR', OW'] → z < zN h → (z ∈ [34, 42, 43, 46, 47, 50, 51, 52] ∨ z = CR ∨ z = OW) := fun z hz hzl => by
      simp at hz ⊢
      rw [eN] at r11 r12
      omega
    have fcA : Fc (fun i => i ∈ [34, 42, 43, 46, 47, 50, 51, 52] ∨ i = CR ∨ i = OW) h hc1 := by
      rw [eN] at hN3
      refine ⟨hN3, fun i hi => ?_, fun i hi hA2 => ?_⟩
      · have := r3.2.1 i (by rw [eN]; exact hi)
        rw [this.1, this.2]
        exact ⟨by show zK ha i = _; rw [kA], by show zL ha i = _; rw [lA]⟩
      · have := r3.2.2 i (by rw [eN]; exact hi) (by simp at hA2 ⊢; omega)
        have hi42 : i ≠ 42 := fun e => hA2 (Or.inl (by rw [e]; simp))
        have ho := iAo i hi42
        rw [this.1, this.2.1, this.2.2, fmB.I (by simp; exact hi42), fmB.J, fmB.R]
        exact ho
    have pxR : zR hc1 42 8 = some CR' ∧ zR hc1 42 9 = some OW' ∧ zK hc1 CR' = 100 ∧ zK hc1 OW' = 100 ∧ zL hc1 CR' < 2147483648 ∧ zL hc1 OW' < 2147483648 ∧ CR' ≠ OW' ∧ (CR' = 48 ∨ 101 ≤ CR') ∧ (OW' = 49 ∨ 101 ≤ OW') := ⟨px.2.2.2.1, px.2.2.2.2.1, px.2.2.2.2.2.1, px.2.2.2.2.2.2.1, px.2.2.2.2.2.2.2.2.2.1, px.2.2.2.2.2.2.2.2.2.2.1, px.2.2.2.2.2.2.2.2.2.2.2.1, px.2.2.2.2.2.2.2.2.2.2.2.2.1, px.2.2.2.2.2.2.2.2.2.2.2.2.2.1⟩
    have piF : ∀ (hx : Zh) (sx : Nat), Fm [42, 43, 47, 50, 51, 52, CR', OW'] hc1 hx → zI hx 42 14 = iI sx → Mr0 hx sx → PI hx CR' OW' sx := fun hx sx f q1 q2 => ⟨by rw [f.R]; exact pxR.1, by rw [f.R]; exact pxR.2.1, by rw [f.K]; exact pxR.2.2.1, by rw [f.K]; exact pxR.2.2.2.1, by rw [f.L]; exact pxR.2.2.2.2.1, by rw [f.L]; exact pxR.2.2.2.2.2.1, pxR.2.2.2.2.2.2.1, pxR.2.2.2.2.2.2.2.1, pxR.2.2.2.2.2.2.2.2, by rw [f.N]; exact r9, by rw [f.N]; exact r10, q1, q2⟩
    have cstF : ∀ hx : Zh, Fm [42, 43, 47, 50, 51, 52, CR', OW'] hc1 hx → Cst h hx t CR OW CR' OW' := fun hx f => by
      rw [eN] at r5 r11 r12
      have eL : zL (zsI ha 42 2 (iI 1)) = zL h := lA
      have eS : zS (zsI ha 42 2 (iI 1)) = zS h := zA
      rw [eL, eS] at r6
      rw [eL] at r7 r8
      exact ⟨by rw [f.N]; exact r5, Or.inr ⟨c.1, by rw [f.S]; exact r6, by rw [f.L]; exact r7, by rw [f.L]; exact r8⟩, r11, r12⟩
    have hrun2 : jX6_solve_68 h 42 33 (iI 1) 42 ha = kX6_solve_87 h 42 1 x8 h8 := by
      unfold jX6_solve_68
      rw [if_pos (sK42 sA), if_pos (show iI 1 = 0 ∨ iI 1 = 1 from Or.inr rfl), zlet_eq, if_pos (sK42 sB), if_neg (by rw [zI_sI, z2_at]; decide), bd_of r1]
      exact lp_bd l1
    rw [hrun2]
    rcases l8 with ⟨w1, pr, ow, w2, w3, w4⟩ | ⟨w1, w2⟩
    · have p8 : PX h8 t d CR' OW' := px.fm l2 (by simp; omega) (by simp; omega) (by simp; omega) (l3 6 (by decide) (by decide))
      obtain ⟨h9, x9, se9, m1, m2, m3, m4, m5, m6, M, m7, m8⟩ := solve_135 (g := h) tok c.1 p8 l7 l4 (by omega) l6 w1 w2 w3 w4
      refine ⟨h9, CR', OW', se9, ?_, st8.fm m2, (fcA.tr l2.c (fun z hz q => ne42 z q hz)).tr m2.c (fun z hz q => ne42 z q hz), piF h9 se9 (l2.tr m2) m4 m6, by omega, ⟨by rw [m3 1 (by decide) (by decide), l3 1 (by decide) (by decide)]; exact h1c, fun _ => ⟨true, by rw [m3 2 (by decide) (by decide)]; exact w1, fun _ => ⟨c.1, ⟨M, m7⟩, fun x hx => by rw [m8 x hx, tabR_some m7 c.1 hx]⟩, fun q => by cases q⟩⟩, cstF h9 (l2.tr m2)⟩
      unfold kX6_solve_87
      exact lp_bd m1
    · have hno : ∀ x, tabR t x = -2 := fun x => tabR_none (fun ⟨M, hM⟩ => w2 ⟨M, hM.1⟩) x
      refine ⟨h8, CR', OW', se8, ?_, st8, fcA.tr l2.c (fun z hz q => ne42 z q hz), piF h8 se8 l2 l4 l6, by omega, ⟨by rw [l3 1 (by decide) (by decide)]; exact h1c, fun _ => ⟨false, w1, fun q => (by cases q), fun _ => hno⟩⟩, cstF h8 l2⟩
      unfold kX6_solve_87
      have hR3 : zR h8 42 3 = some d := by rw [l2.R]; exact px.2.1
      have d8 : Dk h8 d t := px.2.2.2.2.2.2.2.2.2.2.2.2.2.2.2.1.fm l2 (by simp; omega)
      have hex : bX6_solve_135 h 42 (iI 0) h8 = some (0 + 1, (iI 0, h8)) := by
        unfold bX6_solve_135
        simp (maxSteps := 1000000) (disch := (first | assumption | exact ne_b rfl | omega)) only [↓reduceIte, ↓zlet_eq, ↓bdR_sI, ↓bdR_sJ, ↓bdR_aI, zc2_some, Option.bind_some, ↓si_m1, ↓si_m2, ↓si_m3, iI_lit, iI_add, iI_sub, iI_mul, leT, leF, ltT, ltF, eqT, eqF, zinT, clI, Int.toNat_natCast, Int.reduceToNat, tN1, tNa, tN0, tNm, if_pos, if_neg, zI_sI, zI_sJ, zI_sR, zJ_sI, zJ_sJ, zJ_sR, zR_sI, zR_sJ, zR_sR, zK_sI, zK_sJ, zK_sR, zL_sI, zL_sJ, zL_sR, zI_aI, zJ_aI, zR_aI, zK_aI, zL_aI, z2_at, z2_a, z2_k, z1_self, z1_ne, true_and, and_true, bIt, bIf, Bool.false_eq_true, Bool.true_eq_false, eq_self, not_true_eq_false, not_false_eq_true, sK0, sK1, sK2, sK3, sK4, sK5, sK6, sK7, sK8, sK9, sK10, sK11, sK12, sK13, sK14, sK15, sK16, sK17, sK18, sK19, sK20, sK21, sK22, sK23, sK24, sK25, sK26, sK27, sK28, sK29, sK30, sK31, sK32, sK33, sK34, sK35, sK36, sK37, sK38, sK39, sK40, sK41, sK42, sK43, sK44, sK45, sK46, sK47, sK48, sK49, sK50, sK51, sK52, sK53, sK54, sK55, sK56, sK57, sK58, sK59, sK60, sK61, sK62, sK63, sK64, sK65, sK66, sK67, sK68, sK69, sK70, sK71, sK72, sK73, sK74, sK75, sL1, sL3, sL6, sL8, sL9, sL10, sL11, sL12, sL15, sL17, sL18, sL21, sL23, sL24, sL26, sL29, sL31, sL32, sL34, sL36, sL37, sL39, sL40, sL41, sL43, sL45, sL46, sL47, sL48, sL49, sL50, sL51, sL52, sL53, sL55, sL57, sL59, sL61, sL62, sL63, sL64, sL65, sL67, sL68, sL70, sL71, sL73, sL74, sL75, sR0_0, sR0_2, sR0_5, sR0_6, sR0_11, sR2_5, sR2_6, sR2_7, sR4_1, sR4_2, sR4_4, sR7_0, sR7_1, sR13_1, sR13_2, sR13_4, sR16_0, sR16_1, sR19_1, sR19_2, sR19_4, sR22_0, sR22_1, sR25_0, sR25_2, sR25_3, sR25_4, sR25_5, sR25_6, sR25_7, sR25_8, sR25_10, sR27_1, sR27_2, sR27_4, sR30_0, sR30_1, sR33_0, sR35_0, sR35_1, sR38_0, sR38_1, sR38_2, sR42_0, sR42_5, sR42_7, sR42_11, sR42_12, sR42_13, sR53_0, sR53_1, sR53_2, sR53_3, sR54_1, sR56_1, sR58_1, sR60_1, sR65_0, sR65_1, sR65_2, sR66_0, sR66_1, sR69_0, sR69_1, sR72_0, sR72_1, ↓sB0_0, ↓sB0_2, ↓sB0_5, ↓sB0_6, ↓sB0_11, ↓sB2_5, ↓sB2_6, ↓sB2_7, ↓sB4_1, ↓sB4_2, ↓sB4_4, ↓sB7_0, ↓sB7_1, ↓sB13_1, ↓sB13_2, ↓sB13_4, ↓sB16_0, ↓sB16_1, ↓sB19_1, ↓sB19_2, ↓sB19_4, ↓sB22_0, ↓sB22_1, ↓sB25_0, ↓sB25_2, ↓sB25_3, ↓sB25_4, ↓sB25_5, ↓sB25_6, ↓sB25_7, ↓sB25_8, ↓sB25_10, ↓sB27_1, ↓sB27_2, ↓sB27_4, ↓sB30_0, ↓sB30_1, ↓sB33_0, ↓sB35_0, ↓sB35_1, ↓sB38_0, ↓sB38_1, ↓sB38_2, ↓sB42_0, ↓sB42_5, ↓sB42_7, ↓sB42_11, ↓sB42_12, ↓sB42_13, ↓sB53_0, ↓sB53_1, ↓sB53_2, ↓sB53_3, ↓sB54_1, ↓sB56_1, ↓sB58_1, ↓sB60_1, ↓sB65_0, ↓sB65_1, ↓sB65_2, ↓sB66_0, ↓sB66_1, ↓sB69_0, ↓sB69_1, ↓sB72_0, ↓sB72_1, ↓bd_of hR3, d8.fK, d8.f9, w1]
      exact lp_bd (lp_e (body := fun q : Int32 × Zh => bX6_solve_135 h 42 q.1 q.2) (s := (iI 0, h8)) (N := 2 ^ 62 - 1) hex)
  · rw [if_neg c]
    have hno : ∀ x, tabR t x = -2 := fun x => by
      by_cases c2 : tH t ≤ 300
      · exact tabR_none (fun ⟨M, hM⟩ => c ⟨c2, isTb_rws tok hshx hM.1⟩) x
      · exact tabR_big c2 x
    have fmB : Fm [42] ha (zsI ha 42 2 (iI 0)) := Fm_sI _ _ _ (by simp)
    refine ⟨zsI ha 42 2 (iI 0), CR, OW, se, ?_, sA.sI _ _ _, ⟨by show zN h ≤ zN ha; rw [nA]; exact Nat.le_refl _, fun i _ => ⟨by show zK ha i = _; rw [kA], by show zL ha i = _; rw [lA]⟩, fun i hi hA2 => ?_⟩, ⟨rA8, rA9, by show zK ha CR = 100; rw [kA]; exact i3, by show zK ha OW = 100; rw [kA]; exact i4, by show zL ha CR < _; rw [lA]; exact i5, by show zL ha OW < _; rw [lA]; exact i6, i7, i8, i9, by show CR < zN ha; rw [nA]; exact i10, by show OW < zN ha; rw [nA]; exact i11, by rw [zI_sI, z2_k _ _ _ (by decide), iA 14 (by decide)]; exact i12, by unfold Mr0; rw [fmB.I (by simp), (iAo 52 (by decide)).1]; exact i13⟩, by omega, ⟨by rw [zI_sI, z2_k _ _ _ (by decide)]; exact iA1, fun _ => ⟨false, by rw [zI_sI, z2_at]; rfl, fun q => (by cases q), fun _ => hno⟩⟩, ⟨by show zN ha ≤ _; rw [nA]; omega, Or.inl ⟨zA, by show zL ha CR = _; rw [lA], by show zL ha OW = _; rw [lA]⟩, Or.inl rfl, Or.inl rfl⟩⟩
    · have sB : St (zsI ha 42 2 (iI 0)) := sA.sI _ _ _
      unfold jX6_solve_68
      rw [if_pos (sK42 sA), if_pos (show iI 0 = 0 ∨ iI 0 = 1 from Or.inl rfl), zlet_eq, if_pos (sK42 sB), if_pos (by rw [zI_sI, z2_at]; rfl)]
    · have hi42 : i ≠ 42 := fun e => hA2 (Or.inl (by rw [e]; simp))
      have ho := iAo i hi42
      rw [fmB.I (by simp; exact hi42), fmB.J, fmB.R]
      exact ho
