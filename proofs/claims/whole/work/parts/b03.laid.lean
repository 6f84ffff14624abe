/-! the ledger: what a rule lays, kept -/
theorem laidBy_end {h h4 h6 : Zh} {td i k : Nat} (s : St h) (h1 : td = 13 ∨ td = 19) (hi : i < 4) (r1 : zR h 25 1 = some td) (hk : k ≤ 21) (hru : zI h (td + 2) i = iI k) (l1 : zI h (54 + 2 * i) 2 = iI 0) (e1 : (if k = 21 then fX6_solve 42 (td + 1) 26 33 (zsI h (54 + 2 * i) 2 (iI 1)) else some (zsI h (54 + 2 * i) 2 (iI 1))) = some h4) (ej : jX4_laidBy_55 h 25 (iI i) (54 + 2 * i) h4 = some (54 + 2 * i, h6)) : fX4_laidBy 25 (iI i) h = some (54 + 2 * i, h6) := by
  obtain ⟨d1, d2, d3, d4, d5⟩ := ldS s hi
  obtain ⟨t1, t2, t3, t4, t5, t6, t7, -⟩ := tdS s h1
  have ne : td + 2 ≠ 54 + 2 * i := by omega
  unfold fX4_laidBy
  by_cases c : k = 21
  · rw [if_pos c] at e1
    rw [c] at hru
    simp (maxSteps := 1000000) (disch := (first | assumption | exact ne_b rfl | omega)) only [↓reduceIte, ↓zlet_eq, ↓bdR_sI, ↓bdR_sJ, ↓bdR_aI, zc2_some, Option.bind_some, ↓si_m1, ↓si_m2, ↓si_m3, iI_lit, iI_add, iI_sub, iI_mul, leT, leF, ltT, ltF, eqT, eqF, zinT, clI, Int.toNat_natCast, Int.reduceToNat, tN1, tNa, tN0, tNm, if_pos, if_neg, zI_sI, zI_sJ, zI_sR, zJ_sI, zJ_sJ, zJ_sR, zR_sI, zR_sJ, zR_sR, zK_sI, zK_sJ, zK_sR, zL_sI, zL_sJ, zL_sR, zI_aI, zJ_aI, zR_aI, zK_aI, zL_aI, z2_at, z2_a, z2_k, z1_self, z1_ne, true_and, and_true, bIt, bIf, Bool.false_eq_true, Bool.true_eq_false, eq_self, not_true_eq_false, not_false_eq_true, sK0, sK1, sK2, sK3, sK4, sK5, sK6, sK7, sK8, sK9, sK10, sK11, sK12, sK13, sK14, sK15, sK16, sK17, sK18, sK19, sK20, sK21, sK22, sK23, sK24, sK25, sK26, sK27, sK28, sK29, sK30, sK31, sK32, sK33, sK34, sK35, sK36, sK37, sK38, sK39, sK40, sK41, sK42, sK43, sK44, sK45, sK46, sK47, sK48, sK49, sK50, sK51, sK52, sK53, sK54, sK55, sK56, sK57, sK58, sK59, sK60, sK61, sK62, sK63, sK64, sK65, sK66, sK67, sK68, sK69, sK70, sK71, sK72, sK73, sK74, sK75, sL1, sL3, sL6, sL8, sL9, sL10, sL11, sL12, sL15, sL17, sL18, sL21, sL23, sL24, sL26, sL29, sL31, sL32, sL34, sL36, sL37, sL39, sL40, sL41, sL43, sL45, sL46, sL47, sL48, sL49, sL50, sL51, sL52, sL53, sL55, sL57, sL59, sL61, sL62, sL63, sL64, sL65, sL67, sL68, sL70, sL71, sL73, sL74, sL75, sR0_0, sR0_2, sR0_5, sR0_6, sR0_11, sR2_5, sR2_6, sR2_7, sR4_1, sR4_2, sR4_4, sR7_0, sR7_1, sR13_1, sR13_2, sR13_4, sR16_0, sR16_1, sR19_1, sR19_2, sR19_4, sR22_0, sR22_1, sR25_0, sR25_2, sR25_3, sR25_4, sR25_5, sR25_6, sR25_7, sR25_8, sR25_10, sR27_1, sR27_2, sR27_4, sR30_0, sR30_1, sR33_0, sR35_0, sR35_1, sR38_0, sR38_1, sR38_2, sR42_0, sR42_5, sR42_7, sR42_11, sR42_12, sR42_13, sR53_0, sR53_1, sR53_2, sR53_3, sR54_1, sR56_1, sR58_1, sR60_1, sR65_0, sR65_1, sR65_2, sR66_0, sR66_1, sR69_0, sR69_1, sR72_0, sR72_1, ↓sB0_0, ↓sB0_2, ↓sB0_5, ↓sB0_6, ↓sB0_11, ↓sB2_5, ↓sB2_6, ↓sB2_7, ↓sB4_1, ↓sB4_2, ↓sB4_4, ↓sB7_0, ↓sB7_1, ↓sB13_1, ↓sB13_2, ↓sB13_4, ↓sB16_0, ↓sB16_1, ↓sB19_1, ↓sB19_2, ↓sB19_4, ↓sB22_0, ↓sB22_1, ↓sB25_0, ↓sB25_2, ↓sB25_3, ↓sB25_4, ↓sB25_5, ↓sB25_6, ↓sB25_7, ↓sB25_8, ↓sB25_10, ↓sB27_1, ↓sB27_2, ↓sB27_4, ↓sB30_0, ↓sB30_1, ↓sB33_0, ↓sB35_0, ↓sB35_1, ↓sB38_0, ↓sB38_1, ↓sB38_2, ↓sB42_0, ↓sB42_5, ↓sB42_7, ↓sB42_11, ↓sB42_12, ↓sB42_13, ↓sB53_0, ↓sB53_1, ↓sB53_2, ↓sB53_3, ↓sB54_1, ↓sB56_1, ↓sB58_1, ↓sB60_1, ↓sB65_0, ↓sB65_1, ↓sB65_2, ↓sB66_0, ↓sB66_1, ↓sB69_0, ↓sB69_1, ↓sB72_0, ↓sB72_1, ↓bd_of d1, d2, l1, ↓bd_of r1, ↓bd_of t2, ↓bd_of t3, t1, t6, t7, hru, ↓bd_of e1, ej]
  · rw [if_neg c] at e1
    have e1' := Option.some.inj e1
    rw [← e1'] at ej
    have k1 : ¬ (k : Int) = 21 := by omega
    simp (maxSteps := 1000000) (disch := (first | assumption | exact ne_b rfl | omega)) only [↓reduceIte, ↓zlet_eq, ↓bdR_sI, ↓bdR_sJ, ↓bdR_aI, zc2_some, Option.bind_some, ↓si_m1, ↓si_m2, ↓si_m3, iI_lit, iI_add, iI_sub, iI_mul, leT, leF, ltT, ltF, eqT, eqF, zinT, clI, Int.toNat_natCast, Int.reduceToNat, tN1, tNa, tN0, tNm, if_pos, if_neg, zI_sI, zI_sJ, zI_sR, zJ_sI, zJ_sJ, zJ_sR, zR_sI, zR_sJ, zR_sR, zK_sI, zK_sJ, zK_sR, zL_sI, zL_sJ, zL_sR, zI_aI, zJ_aI, zR_aI, zK_aI, zL_aI, z2_at, z2_a, z2_k, z1_self, z1_ne, true_and, and_true, bIt, bIf, Bool.false_eq_true, Bool.true_eq_false, eq_self, not_true_eq_false, not_false_eq_true, sK0, sK1, sK2, sK3, sK4, sK5, sK6, sK7, sK8, sK9, sK10, sK11, sK12, sK13, sK14, sK15, sK16, sK17, sK18, sK19, sK20, sK21, sK22, sK23, sK24, sK25, sK26, sK27, sK28, sK29, sK30, sK31, sK32, sK33, sK34, sK35, sK36, sK37, sK38, sK39, sK40, sK41, sK42, sK43, sK44, sK45, sK46, sK47, sK48, sK49, sK50, sK51, sK52, sK53, sK54, sK55, sK56, sK57, sK58, sK59, sK60, sK61, sK62, sK63, sK64, sK65, sK66, sK67, sK68, sK69, sK70, sK71, sK72, sK73, sK74, sK75, sL1, sL3, sL6, sL8, sL9, sL10, sL11, sL12, sL15, sL17, sL18, sL21, sL23, sL24, sL26, sL29, sL31, sL32, sL34, sL36, sL37, sL39, sL40, sL41, sL43, sL45, sL46, sL47, sL48, sL49, sL50, sL51, sL52, sL53, sL55, sL57, sL59, sL61, sL62, sL63, sL64, sL65, sL67, sL68, sL70, sL71, sL73, sL74, sL75, sR0_0, sR0_2, sR0_5, sR0_6, sR0_11, sR2_5, sR2_6, sR2_7, sR4_1, sR4_2, sR4_4, sR7_0, sR7_1, sR13_1, sR13_2, sR13_4, sR16_0, sR16_1, sR19_1, sR19_2, sR19_4, sR22_0, sR22_1, sR25_0, sR25_2, sR25_3, sR25_4, sR25_5, sR25_6, sR25_7, sR25_8, sR25_10, sR27_1, sR27_2, sR27_4, sR30_0, sR30_1, sR33_0, sR35_0, sR35_1, sR38_0, sR38_1, sR38_2, sR42_0, sR42_5, sR42_7, sR42_11, sR42_12, sR42_13, sR53_0, sR53_1, sR53_2, sR53_3, sR54_1, sR56_1, sR58_1, sR60_1, sR65_0, sR65_1, sR65_2, sR66_0, sR66_1, sR69_0, sR69_1, sR72_0, sR72_1, ↓sB0_0, ↓sB0_2, ↓sB0_5, ↓sB0_6, ↓sB0_11, ↓sB2_5, ↓sB2_6, ↓sB2_7, ↓sB4_1, ↓sB4_2, ↓sB4_4, ↓sB7_0, ↓sB7_1, ↓sB13_1, ↓sB13_2, ↓sB13_4, ↓sB16_0, ↓sB16_1, ↓sB19_1, ↓sB19_2, ↓sB19_4, ↓sB22_0, ↓sB22_1, ↓sB25_0, ↓sB25_2, ↓sB25_3, ↓sB25_4, ↓sB25_5, ↓sB25_6, ↓sB25_7, ↓sB25_8, ↓sB25_10, ↓sB27_1, ↓sB27_2, ↓sB27_4, ↓sB30_0, ↓sB30_1, ↓sB33_0, ↓sB35_0, ↓sB35_1, ↓sB38_0, ↓sB38_1, ↓sB38_2, ↓sB42_0, ↓sB42_5, ↓sB42_7, ↓sB42_11, ↓sB42_12, ↓sB42_13, ↓sB53_0, ↓sB53_1, ↓sB53_2, ↓sB53_3, ↓sB54_1, ↓sB56_1, ↓sB58_1, ↓sB60_1, ↓sB65_0, ↓sB65_1, ↓sB65_2, ↓sB66_0, ↓sB66_1, ↓sB69_0, ↓sB69_1, ↓sB72_0, ↓sB72_1, ↓bd_of d1, d2, l1, ↓bd_of r1, ↓bd_of t2, ↓bd_of t3, t1, t6, t7, hru, ej]
theorem fX4_laidBy_eq {h : Zh} {td : Nat} {t : Tk} {rc : Nat} {ru : Nat → Nat} {CR OW se sp i : Nat} {rdy : Bool} (tok : Tok t) (lg : LG h td t rc ru CR OW se sp rdy) (hi : i < rc) (hse : se + 600 < 2147483648) (hsp : sp + 1 < 2147480000) (hsN : zN h + 2 ≤ 601024) (hsS : tH t ≤ 300 → zS h + grw (zL h CR) (tH t * pcn t) + grw (zL h OW) (tR t) ≤ 7293034) : ∃ h' CR' OW' se' sp' rdy', fX4_laidBy 25 (iI i) h = some (54 + 2 * i, h') ∧ LG h' td t rc ru CR' OW' se' sp' rdy' ∧ LFd h' t (ru i) i ∧ Fc (fun j => (33 < j ∧ j < 54) ∨ j = 54 + 2 * i ∨ j = 54 + 2 * i + 1 ∨ j = CR ∨ j = OW) h h' ∧ se' ≤ se + 600 ∧ sp' ≤ sp + 1 ∧ Cst h h' t CR OW CR' OW' := by
  obtain ⟨bn4, bn12, bu1, bu4, bnu, bk2, bk5, bkn, bp1, bp2, bpk, bH, bsp, bs1, bs4, bT1, bT16, bR1, bR2, bH1, bff, bff1⟩ := tok.b
  have lg0 := lg
  obtain ⟨s, r1, tdh, hd, pi, prd, rs, ld, lx⟩ := lg
  have hrc := tdh.2.2.2.2.1
  have hN := s.1
  obtain ⟨d1, d2, d3, d4, d5⟩ := ldS s (show i < 4 by omega)
  obtain ⟨t1, t2, t3, t4, t5, t6, t7, -⟩ := tdS s tdh.1
  obtain ⟨l0, ldi⟩ := ld i (show i < 4 by omega)
  have hcrw : (CR = 48 ∨ 101 ≤ CR) ∧ (OW = 49 ∨ 101 ≤ OW) := ⟨pi.2.2.2.2.2.2.2.1, pi.2.2.2.2.2.2.2.2.1⟩
  rcases ldi with ⟨l1, l2, l3⟩ | lf
  · -- fill
    have f7 : Fm [54 + 2 * i] h (zsI h (54 + 2 * i) 2 (iI 1)) := Fm_sI _ _ _ (by simp)
    have q25 : 25 ∉ [54 + 2 * i] := by simp; omega
    have s7 := s.fm f7
    have td7 : TD (zsI h (54 + 2 * i) 2 (iI 1)) td t rc ru := tdh.fm f7 (by intro x hx; simp at hx; omega)
    have hru := td7.2.2.2.2.2 i hi
    have hd7 : HdC (zsI h (54 + 2 * i) 2 (iI 1)) t := hd.fc f7.c hN (by simp; omega)
    have pi7 : PI (zsI h (54 + 2 * i) 2 (iI 1)) CR OW se := pi.fc f7.c hN (by simp; omega) (by simp; omega)
    have prd7 : PRd (zsI h (54 + 2 * i) 2 (iI 1)) t rdy := prd.fc f7.c hN (by simp; omega) (by simp; omega)
    have rs7 : RS0 (zsI h (54 + 2 * i) 2 (iI 1)) sp := rs.fc f7.c hN (by simp; omega) (by simp; omega)
    have r17 : zR (zsI h (54 + 2 * i) 2 (iI 1)) 25 1 = some td := r1
    have lx7 : LX (zsI h (54 + 2 * i) 2 (iI 1)) t rc ru := lx.fc f7.c hN (by simp; omega) (by simp; omega) (by simp; omega)
    have l27 : LPt (zsI h (54 + 2 * i) 2 (iI 1)) (54 + 2 * i) (lay t (ru i)) 0 := ⟨fun y hy => by omega, by rw [zI_sI, z2_k _ _ _ (by decide)]; exact l2.2.1, by rw [zI_sI, z2_k _ _ _ (by decide)]; exact l2.2.2.1, by rw [zI_sI, z2_k _ _ _ (by decide)]; exact l2.2.2.2.1, by rw [zI_sI, z2_k _ _ _ (by decide)]; exact l2.2.2.2.2⟩
    have i7 : ∀ j, j ≠ 2 → zI (zsI h (54 + 2 * i) 2 (iI 1)) (54 + 2 * i) j = zI h (54 + 2 * i) j := fun j hj => by rw [zI_sI, z2_k _ _ _ hj]
    have i72 : zI (zsI h (54 + 2 * i) 2 (iI 1)) (54 + 2 * i) 2 = iI 1 := by rw [zI_sI, z2_at]
    have ldo : ∀ k, k < 4 → k ≠ i → LD (zsI h (54 + 2 * i) 2 (iI 1)) t (ru k) k := fun k hk hne => (ld k hk).fc f7.c (by omega) (by simp; omega) (by simp; omega)
    -- the table, if it is asked for
    have key : ∃ h4 CR' OW' se' rdy', ((if ru i = 21 then fX6_solve 42 (td + 1) 26 33 (zsI h (54 + 2 * i) 2 (iI 1)) else some (zsI h (54 + 2 * i) 2 (iI 1))) = some h4) ∧ St h4 ∧ Fc (fun i => i ∈ [34, 42, 43, 46, 47, 50, 51, 52] ∨ i = CR ∨ i = OW) (zsI h (54 + 2 * i) 2 (iI 1)) h4 ∧ PI h4 CR' OW' se' ∧ se' ≤ se + 600 ∧ PRd h4 t rdy' ∧ (ru i = 21 → rdy' = true) ∧ Cst h h4 t CR OW CR' OW' := by
      by_cases c : ru i = 21
      · rw [if_pos c]
        obtain ⟨h4, CR', OW', se', e1, e2, e3, e4, e5, e6, e7⟩ := fX6_solve_eq (d := td + 1) tok s7 pi7 (by have := tdh.1; omega) td7.2.2.1 hd7 prd7 hse hsN hsS
        exact ⟨h4, CR', OW', se', true, e1, e2, e3, e4, e5, e6, fun _ => rfl, e7⟩
      · rw [if_neg c]
        exact ⟨_, CR, OW, se, rdy, rfl, s7, Fc.rf, pi7, by omega, prd7, fun e => absurd e c, by show zN h ≤ _; omega, Or.inl ⟨rfl, rfl, rfl⟩, Or.inl rfl, Or.inl rfl⟩
    obtain ⟨h4, CR', OW', se', rdy', e1, s4, f4, pi4, hse', prd4, hrd, cst⟩ := key
    have hN7 : 101 ≤ zN (zsI h (54 + 2 * i) 2 (iI 1)) := s7.1
    have hA4 : ∀ j, (j ∈ [34, 42, 43, 46, 47, 50, 51, 52] ∨ j = CR ∨ j = OW) → j = 34 ∨ (42 ≤ j ∧ j ≤ 52) ∨ 101 ≤ j := by
      intro j hj
      simp only [List.mem_cons, List.not_mem_nil, or_false] at hj
      omega
    have a4 : ∀ j, j < 34 ∨ (34 < j ∧ j < 42) ∨ (52 < j ∧ j < 101) → ¬ (j ∈ [34, 42, 43, 46, 47, 50, 51, 52] ∨ j = CR ∨ j = OW) := fun j hj m => by have := hA4 j m; omega
    have td4 := td7.fc f4 hN7 (fun j h1 h2 => a4 j (by omega))
    have hd4 := hd7.fc f4 hN7 (a4 26 (by omega))
    have rs4 := rs7.fc f4 hN7 (a4 38 (by omega)) (a4 41 (by omega))
    have lx4 := lx7.fc f4 hN7 (a4 62 (by omega)) (a4 63 (by omega)) (a4 25 (by omega))
    have l24 := l27.fc f4 (by omega) (a4 _ (by omega)) (a4 _ (by omega))
    have ld4 : ∀ k, k < 4 → k ≠ i → LD h4 t (ru k) k := fun k hk hne => (ldo k hk hne).fc f4 (by omega) (a4 _ (by omega)) (a4 _ (by omega))
    have r14 : zR h4 25 1 = some td := by rw [f4.R (by omega) (a4 25 (by omega))]; exact r17
    have i4 : ∀ j, zI h4 (54 + 2 * i) j = zI (zsI h (54 + 2 * i) 2 (iI 1)) (54 + 2 * i) j := fun j => by rw [f4.I (by omega) (a4 _ (by omega))]
    -- the set
    obtain ⟨h5, g1, g2, g3⟩ := fX8_clear_eq s4 rs4 hsp
    have s5 := s4.fm g2
    have hN4 := s4.1
    have td5 := td4.fm g2 (by intro x hx; simp at hx; omega)
    have hd5 := hd4.fc g2.c hN4 (by simp)
    have prd5 := prd4.fc g2.c hN4 (by simp) (by simp)
    have pi5 := pi4.fc g2.c hN4 (by simp) (by simp)
    have lx5 := lx4.fc g2.c hN4 (by simp) (by simp) (by simp)
    have q54 : 54 + 2 * i ∉ [38] := by simp; omega
    have q55 : 54 + 2 * i + 1 ∉ [38] := by simp; omega
    have l25 := l24.fc g2.c (by omega) q54 q55
    have ld5 : ∀ k, k < 4 → k ≠ i → LD h5 t (ru k) k := fun k hk hne => (ld4 k hk hne).fc g2.c (by omega) (by simp; omega) (by simp; omega)
    have r15 : zR h5 25 1 = some td := by rw [g2.R]; exact r14
    obtain ⟨h6, w1, w2, w3, w4, w5⟩ := laid_64 (g := h) tok s5 r15 td5 hd5 hi (fun e => by have := hrd e; subst this; exact prd5) l25 g3
    have hN5 := s5.1
    have s6 := s5.fm w2
    have hA6 : ∀ j, j ∈ [36, 37, 39, 40, 41, 54 + 2 * i, 54 + 2 * i + 1] → j = 36 ∨ j = 37 ∨ j = 39 ∨ j = 40 ∨ j = 41 ∨ j = 54 + 2 * i ∨ j = 54 + 2 * i + 1 := by
      intro j hj
      simp only [List.mem_cons, List.not_mem_nil, or_false] at hj
      omega
    have td6 := td5.fm w2 (fun j hj => by have := hA6 j hj; omega)
    have hd6 := hd5.fc w2.c hN5 (fun m => by have := hA6 _ m; omega)
    have prd6 := prd5.fc w2.c hN5 (fun m => by have := hA6 _ m; omega) (fun m => by have := hA6 _ m; omega)
    have pi6 := pi5.fc w2.c hN5 (fun m => by have := hA6 _ m; omega) (fun m => by have := hA6 _ m; omega)
    have lx6 := lx5.fc w2.c hN5 (fun m => by have := hA6 _ m; omega) (fun m => by have := hA6 _ m; omega) (fun m => by have := hA6 _ m; omega)
    have ld6 : ∀ k, k < 4 → k ≠ i → LD h6 t (ru k) k := fun k hk hne => (ld5 k hk hne).fc w2.c (by omega) (fun m => by have := hA6 _ m; omega) (fun m => by have := hA6 _ m; omega)
    have r16 : zR h6 25 1 = some td := by rw [w2.R]; exact r15
    have i6 : ∀ j, j ≠ 3 → j ≠ 4 → j ≠ 5 → j ≠ 6 → zI h6 (54 + 2 * i) j = zI (zsI h (54 + 2 * i) 2 (iI 1)) (54 + 2 * i) j := fun j j3 j4 j5 j6 => by rw [w3 j j3 j4 j5 j6, g2.I q54, i4]
    have lf6 : LFd h6 t (ru i) i := ⟨by rw [i6 2 (by decide) (by decide) (by decide) (by decide)]; exact i72, w4, Or.inl (by rw [i6 7 (by decide) (by decide) (by decide) (by decide), i7 7 (by decide)]; exact l3)⟩
    have ld6' : ∀ k, k < 4 → LD h6 t (ru k) k := fun k hk => by
      by_cases c : k = i
      · subst c
        exact ⟨by rw [i6 0 (by decide) (by decide) (by decide) (by decide), i7 0 (by decide)]; exact l0, Or.inr lf6⟩
      · exact ld6 k hk c
    refine ⟨h6, CR', OW', se', sp + 1, rdy', ?_, ⟨s6, r16, td6, hd6, pi6, prd6, w5, ld6', lx6⟩, lf6, ?_, hse', by omega, ?_⟩
    · have ej : jX4_laidBy_55 h 25 (iI i) (54 + 2 * i) h4 = some (54 + 2 * i, h6) := by
        unfold jX4_laidBy_55
        simp (maxSteps := 1000000) (disch := (first | assumption | exact ne_b rfl | omega)) only [↓reduceIte, ↓zlet_eq, ↓bdR_sI, ↓bdR_sJ, ↓bdR_aI, zc2_some, Option.bind_some, ↓si_m1, ↓si_m2, ↓si_m3, iI_lit, iI_add, iI_sub, iI_mul, leT, leF, ltT, ltF, eqT, eqF, zinT, clI, Int.toNat_natCast, Int.reduceToNat, tN1, tNa, tN0, tNm, if_pos, if_neg, zI_sI, zI_sJ, zI_sR, zJ_sI, zJ_sJ, zJ_sR, zR_sI, zR_sJ, zR_sR, zK_sI, zK_sJ, zK_sR, zL_sI, zL_sJ, zL_sR, zI_aI, zJ_aI, zR_aI, zK_aI, zL_aI, z2_at, z2_a, z2_k, z1_self, z1_ne, true_and, and_true, bIt, bIf, Bool.false_eq_true, Bool.true_eq_false, eq_self, not_true_eq_false, not_false_eq_true, sK0, sK1, sK2, sK3, sK4, sK5, sK6, sK7, sK8, sK9, sK10, sK11, sK12, sK13, sK14, sK15, sK16, sK17, sK18, sK19, sK20, sK21, sK22, sK23, sK24, sK25, sK26, sK27, sK28, sK29, sK30, sK31, sK32, sK33, sK34, sK35, sK36, sK37, sK38, sK39, sK40, sK41, sK42, sK43, sK44, sK45, sK46, sK47, sK48, sK49, sK50, sK51, sK52, sK53, sK54, sK55, sK56, sK57, sK58, sK59, sK60, sK61, sK62, sK63, sK64, sK65, sK66, sK67, sK68, sK69, sK70, sK71, sK72, sK73, sK74, sK75, sL1, sL3, sL6, sL8, sL9, sL10, sL11, sL12, sL15, sL17, sL18, sL21, sL23, sL24, sL26, sL29, sL31, sL32, sL34, sL36, sL37, sL39, sL40, sL41, sL43, sL45, sL46, sL47, sL48, sL49, sL50, sL51, sL52, sL53, sL55, sL57, sL59, sL61, sL62, sL63, sL64, sL65, sL67, sL68, sL70, sL71, sL73, sL74, sL75, sR0_0, sR0_2, sR0_5, sR0_6, sR0_11, sR2_5, sR2_6, sR2_7, sR4_1, sR4_2, sR4_4, sR7_0, sR7_1, sR13_1, sR13_2, sR13_4, sR16_0, sR16_1, sR19_1, sR19_2, sR19_4, sR22_0, sR22_1, sR25_0, sR25_2, sR25_3, sR25_4, sR25_5, sR25_6, sR25_7, sR25_8, sR25_10, sR27_1, sR27_2, sR27_4, sR30_0, sR30_1, sR33_0, sR35_0, sR35_1, sR38_0, sR38_1, sR38_2, sR42_0, sR42_5, sR42_7, sR42_11, sR42_12, sR42_13, sR53_0, sR53_1, sR53_2, sR53_3, sR54_1, sR56_1, sR58_1, sR60_1, sR65_0, sR65_1, sR65_2, sR66_0, sR66_1, sR69_0, sR69_1, sR72_0, sR72_1, ↓sB0_0, ↓sB0_2, ↓sB0_5, ↓sB0_6, ↓sB0_11, ↓sB2_5, ↓sB2_6, ↓sB2_7, ↓sB4_1, ↓sB4_2, ↓sB4_4, ↓sB7_0, ↓sB7_1, ↓sB13_1, ↓sB13_2, ↓sB13_4, ↓sB16_0, ↓sB16_1, ↓sB19_1, ↓sB19_2, ↓sB19_4, ↓sB22_0, ↓sB22_1, ↓sB25_0, ↓sB25_2, ↓sB25_3, ↓sB25_4, ↓sB25_5, ↓sB25_6, ↓sB25_7, ↓sB25_8, ↓sB25_10, ↓sB27_1, ↓sB27_2, ↓sB27_4, ↓sB30_0, ↓sB30_1, ↓sB33_0, ↓sB35_0, ↓sB35_1, ↓sB38_0, ↓sB38_1, ↓sB38_2, ↓sB42_0, ↓sB42_5, ↓sB42_7, ↓sB42_11, ↓sB42_12, ↓sB42_13, ↓sB53_0, ↓sB53_1, ↓sB53_2, ↓sB53_3, ↓sB54_1, ↓sB56_1, ↓sB58_1, ↓sB60_1, ↓sB65_0, ↓sB65_1, ↓sB65_2, ↓sB66_0, ↓sB66_1, ↓sB69_0, ↓sB69_1, ↓sB72_0, ↓sB72_1, ↓bd_of g1, ↓bd_of w1]
        rfl
      exact laidBy_end s tdh.1 (by omega) r1 (tdh.2.2.2.2.2 i hi).2 (tdh.2.2.2.2.2 i hi).1 l1 e1 ej
    · refine Fc.tr (Fc.tr (Fc.tr (f7.c.mono (fun j _ hj => ?_)) f4 (fun j _ hj => ?_)) g2.c (fun j _ hj => ?_)) w2.c (fun j _ hj => ?_)
      · simp at hj; omega
      · rcases hj with hj | hj | hj
        · simp at hj; omega
        · omega
        · omega
      · simp at hj; omega
      · have := hA6 j hj; omega
    · obtain ⟨c1, c2, c3, c4⟩ := cst
      have eN : zN h6 = zN h4 := by rw [w2.N, g2.N]
      have eS : zS h6 = zS h4 := by rw [w2.S, g2.S]
      have eL : zL h6 = zL h4 := by rw [w2.L, g2.L]
      unfold Cst
      rw [eN, eS, eL]
      exact ⟨c1, c2, c3, c4⟩
  · refine ⟨h, CR, OW, se, sp, rdy, ?_, lg0, lf, Fc.rf, by omega, by omega, by omega, Or.inl ⟨rfl, rfl, rfl⟩, Or.inl rfl, Or.inl rfl⟩
    have e2 := lf.1
    unfold fX4_laidBy
    simp (maxSteps := 1000000) (disch := (first | assumption | exact ne_b rfl | omega)) only [↓reduceIte, ↓zlet_eq, ↓bdR_sI, ↓bdR_sJ, ↓bdR_aI, zc2_some, Option.bind_some, ↓si_m1, ↓si_m2, ↓si_m3, iI_lit, iI_add, iI_sub, iI_mul, leT, leF, ltT, ltF, eqT, eqF, zinT, clI, Int.toNat_natCast, Int.reduceToNat, tN1, tNa, tN0, tNm, if_pos, if_neg, zI_sI, zI_sJ, zI_sR, zJ_sI, zJ_sJ, zJ_sR, zR_sI, zR_sJ, zR_sR, zK_sI, zK_sJ, zK_sR, zL_sI, zL_sJ, zL_sR, zI_aI, zJ_aI, zR_aI, zK_aI, zL_aI, z2_at, z2_a, z2_k, z1_self, z1_ne, true_and, and_true, bIt, bIf, Bool.false_eq_true, Bool.true_eq_false, eq_self, not_true_eq_false, not_false_eq_true, sK0, sK1, sK2, sK3, sK4, sK5, sK6, sK7, sK8, sK9, sK10, sK11, sK12, sK13, sK14, sK15, sK16, sK17, sK18, sK19, sK20, sK21, sK22, sK23, sK24, sK25, sK26, sK27, sK28, sK29, sK30, sK31, sK32, sK33, sK34, sK35, sK36, sK37, sK38, sK39, sK40, sK41, sK42, sK43, sK44, sK45, sK46, sK47, sK48, sK49, sK50, sK51, sK52, sK53, sK54, sK55, sK56, sK57, sK58, sK59, sK60, sK61, sK62, sK63, sK64, sK65, sK66, sK67, sK68, sK69, sK70, sK71, sK72, sK73, sK74, sK75, sL1, sL3, sL6, sL8, sL9, sL10, sL11, sL12, sL15, sL17, sL18, sL21, sL23, sL24, sL26, sL29, sL31, sL32, sL34, sL36, sL37, sL39, sL40, sL41, sL43, sL45, sL46, sL47, sL48, sL49, sL50, sL51, sL52, sL53, sL55, sL57, sL59, sL61, sL62, sL63, sL64, sL65, sL67, sL68, sL70, sL71, sL73, sL74, sL75, sR0_0, sR0_2, sR0_5, sR0_6, sR0_11, sR2_5, sR2_6, sR2_7, sR4_1, sR4_2, sR4_4, sR7_0, sR7_1, sR13_1, sR13_2, sR13_4, sR16_0, sR16_1, sR19_1, sR19_2, sR19_4, sR22_0, sR22_1, sR25_0, sR25_2, sR25_3, sR25_4, sR25_5, sR25_6, sR25_7, sR25_8, sR25_10, sR27_1, sR27_2, sR27_4, sR30_0, sR30_1, sR33_0, sR35_0, sR35_1, sR38_0, sR38_1, sR38_2, sR42_0, sR42_5, sR42_7, sR42_11, sR42_12, sR42_13, sR53_0, sR53_1, sR53_2, sR53_3, sR54_1, sR56_1, sR58_1, sR60_1, sR65_0, sR65_1, sR65_2, sR66_0, sR66_1, sR69_0, sR69_1, sR72_0, sR72_1, ↓sB0_0, ↓sB0_2, ↓sB0_5, ↓sB0_6, ↓sB0_11, ↓sB2_5, ↓sB2_6, ↓sB2_7, ↓sB4_1, ↓sB4_2, ↓sB4_4, ↓sB7_0, ↓sB7_1, ↓sB13_1, ↓sB13_2, ↓sB13_4, ↓sB16_0, ↓sB16_1, ↓sB19_1, ↓sB19_2, ↓sB19_4, ↓sB22_0, ↓sB22_1, ↓sB25_0, ↓sB25_2, ↓sB25_3, ↓sB25_4, ↓sB25_5, ↓sB25_6, ↓sB25_7, ↓sB25_8, ↓sB25_10, ↓sB27_1, ↓sB27_2, ↓sB27_4, ↓sB30_0, ↓sB30_1, ↓sB33_0, ↓sB35_0, ↓sB35_1, ↓sB38_0, ↓sB38_1, ↓sB38_2, ↓sB42_0, ↓sB42_5, ↓sB42_7, ↓sB42_11, ↓sB42_12, ↓sB42_13, ↓sB53_0, ↓sB53_1, ↓sB53_2, ↓sB53_3, ↓sB54_1, ↓sB56_1, ↓sB58_1, ↓sB60_1, ↓sB65_0, ↓sB65_1, ↓sB65_2, ↓sB66_0, ↓sB66_1, ↓sB69_0, ↓sB69_1, ↓sB72_0, ↓sB72_1, ↓bd_of d1, d2, e2]
