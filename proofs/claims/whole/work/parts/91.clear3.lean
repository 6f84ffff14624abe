/-! the class's pairing: clear -/
theorem zNC_v : zNC = 601024 := rfl
theorem zNS_v : zNS = 7293034 := rfl
def PP (h : Zh) (t : Tk) : Prop := zI h 42 6 = iI (pcn t) ∧ ∀ i, i < pcn t → zI h 46 i = iI (pkf (plc t i) 0 (tsh t))
theorem clear_121 {h g : Zh} {t : Tk} {d CR OW : Nat} (p : P0 h t d CR OW) (tok : Tok t) (hH : tH t ≤ 300) (pp : PP h t) (h1 : tH t * pcn t ≤ zL h CR) (h2 : tR t ≤ zL h OW) (hz : ∀ a, a < zL h CR → zI h CR a = iI 0) : ∃ h', jX6_clear_121 g 42 h = some h' ∧ Rdy h' t d CR OW ∧ Fm [42, 43, 47, CR, OW] h h' ∧ ∀ j, j ≠ 10 → zI h' 42 j = zI h 42 j := by
  obtain ⟨bn4, bn12, bu1, bu4, bnu, bk2, bk5, bkn, bp1, bp2, bpk, bH, bsp, bs1, bs4, bT1, bT16, bR1, bR2, bH1, bff, bff1⟩ := tok.b
  have hpb := pcn_b tok
  have p' := p
  obtain ⟨a1, a2, a3, a4, a5, a6, a7, a8, a9, a10, a11, a12, a13, a14, a15, a16, a17⟩ := p
  have nO42 : (42 : Nat) ≠ OW := by omega
  have nO43 : (43 : Nat) ≠ OW := by omega
  have nO46 : (46 : Nat) ≠ OW := by omega
  have nOC : CR ≠ OW := a10
  have nC42 : CR ≠ 42 := by omega
  have nC43 : CR ≠ 43 := by omega
  have nO42' : OW ≠ 42 := by omega
  have nO43' : OW ≠ 43 := by omega
  -- the two fills and the number
  have f1 := fJ7_fill_eq (v := 0) (h := h) a7 a9
  have s1 : St (zaI h OW (afill (zL h OW) (fun _ => iI 0) (zI h OW))) := a1.aI _ _
  have f2 := fJ7_fill_eq (r := 43) (v := -1) (h := zaI h OW (afill (zL h OW) (fun _ => iI 0) (zI h OW))) (sK43 s1) (by rw [sL43 s1]; decide)
  rw [sL43 s1] at f2
  have fmA : Fm [42, 43, 47, CR, OW] h (zsI (zaI (zaI h OW (afill (zL h OW) (fun _ => iI 0) (zI h OW))) 43 (afill 300 (fun _ => iI (-1)) (zI (zaI h OW (afill (zL h OW) (fun _ => iI 0) (zI h OW))) 43))) 42 10 (iI 0)) := ((Fm_aI _ _ (by simp)).tr (Fm_aI _ _ (by simp))).tr (Fm_sI _ _ _ (by simp))
  have e42 : ∀ j, j ≠ 10 → zI (zsI (zaI (zaI h OW (afill (zL h OW) (fun _ => iI 0) (zI h OW))) 43 (afill 300 (fun _ => iI (-1)) (zI (zaI h OW (afill (zL h OW) (fun _ => iI 0) (zI h OW))) 43))) 42 10 (iI 0)) 42 j = zI h 42 j := fun j hj => by
    rw [zI_sI, z2_k _ _ _ hj, zI_aI, z1_ne _ _ (by decide), zI_aI, z1_ne _ _ nO42]
  have px : PX (zsI (zaI (zaI h OW (afill (zL h OW) (fun _ => iI 0) (zI h OW))) 43 (afill 300 (fun _ => iI (-1)) (zI (zaI h OW (afill (zL h OW) (fun _ => iI 0) (zI h OW))) 43))) 42 10 (iI 0)) t d CR OW := by
    obtain ⟨b1, b2, b3, b4, b5, b6, b7, b8, b9, b10, b11, b12, b13, b14, b15, b16, b17⟩ := p'.fm fmA (by simp; omega) (by simp; omega)
    exact ⟨b1, b2, b3, b4, b5, b6, b7, h1, h2, b8, b9, b10, b11, b12, b15, b16, b17, (e42 6 (by decide)).trans pp.1, fun i hi => by rw [fmA.I (by simp; omega)]; exact pp.2 i hi⟩
  have hzA : ∀ a, a < zL h CR → zI (zsI (zaI (zaI h OW (afill (zL h OW) (fun _ => iI 0) (zI h OW))) 43 (afill 300 (fun _ => iI (-1)) (zI (zaI h OW (afill (zL h OW) (fun _ => iI 0) (zI h OW))) 43))) 42 10 (iI 0)) CR a = iI 0 := fun a ha => by
    rw [zI_sI, z2_a _ _ _ _ nC42, zI_aI, z1_ne _ _ nC43, zI_aI, z1_ne _ _ nOC]
    exact hz a ha
  have pw : PW (zsI (zaI (zaI h OW (afill (zL h OW) (fun _ => iI 0) (zI h OW))) 43 (afill 300 (fun _ => iI (-1)) (zI (zaI h OW (afill (zL h OW) (fun _ => iI 0) (zI h OW))) 43))) 42 10 (iI 0)) t OW (fun _ => none) (fun _ => none) 1000 := by
    refine ⟨fun y hy _ => ?_, fun r hr => ?_⟩
    · rw [zI_sI, z2_a _ _ _ _ (by decide), zI_aI, z1_self, afill_lt (by omega)]; rfl
    · rw [zI_sI, z2_a _ _ _ _ nO42', zI_aI, z1_ne _ _ nO43', zI_aI, z1_self, afill_lt (by omega)]; rfl
  have e10 : zI (zsI (zaI (zaI h OW (afill (zL h OW) (fun _ => iI 0) (zI h OW))) 43 (afill 300 (fun _ => iI (-1)) (zI (zaI h OW (afill (zL h OW) (fun _ => iI 0) (zI h OW))) 43))) 42 10 (iI 0)) 42 10 = iI 0 := by rw [zI_sI, z2_at]
  have hk0 : ∀ (hh : Zh) (z : Nat × Int32 × Zh) (k : Nat × Int32 × Zh → Option Zh), True := fun _ _ _ => trivial
  generalize hB : zsI (zaI (zaI h OW (afill (zL h OW) (fun _ => iI 0) (zI h OW))) 43 (afill 300 (fun _ => iI (-1)) (zI (zaI h OW (afill (zL h OW) (fun _ => iI 0) (zI h OW))) 43))) 42 10 (iI 0) = hb at fmA e42 px hzA pw e10
  have hrun : jX6_clear_121 g 42 h = (lp (fun q : Int32 × Zh => bX6_clear_144 g 42 q.1 q.2) zB (iI 0, hb)).bind fun q => kX6_clear_144 g q.1 q.2.1 q.2.2 := by
    have s2 : St (zaI (zaI h OW (afill (zL h OW) (fun _ => iI 0) (zI h OW))) 43 (afill 300 (fun _ => iI (-1)) (zI (zaI h OW (afill (zL h OW) (fun _ => iI 0) (zI h OW))) 43))) := s1.aI _ _
    unfold jX6_clear_121
    rw [if_pos (sK42 a1), bd_of a5, show (0 : Int32) = iI 0 from rfl, bd_of f1, if_pos (sK42 s1), sB42_0 s1, show (-1 : Int32) = iI (-1) from rfl, bd_of f2, if_pos (sK42 s2), zlet_eq, hB]
  have hcl : zL hb CR = zL h CR := by rw [fmA.L]
  have hpx := px
  obtain ⟨c1, c2, c3, c4, c5, c6, c7, c8, c9, c10, c11, c12, c13, c14, c15, c16, c17, c18, c19⟩ := hpx
  cases hst : tst t
  · refine ⟨hb, ?_, ⟨px, fun x hx i hi => Or.inr ⟨hzA _ ?_, crC_she hst x i⟩, pw, e10⟩, fmA, e42⟩
    · rw [hrun]
      have hex : bX6_clear_144 g 42 (iI 0) hb = some (0 + 1, (iI 0, hb)) := by
        unfold bX6_clear_144
        simp (maxSteps := 1000000) (disch := (first | assumption | exact ne_b rfl | omega)) only [↓reduceIte, ↓zlet_eq, ↓bdR_sI, ↓bdR_sJ, ↓bdR_aI, zc2_some, Option.bind_some, ↓si_m1, ↓si_m2, ↓si_m3, iI_lit, iI_add, iI_sub, iI_mul, leT, leF, ltT, ltF, eqT, eqF, zinT, clI, Int.toNat_natCast, Int.reduceToNat, tN1, tNa, tN0, tNm, if_pos, if_neg, zI_sI, zI_sJ, zI_sR, zJ_sI, zJ_sJ, zJ_sR, zR_sI, zR_sJ, zR_sR, zK_sI, zK_sJ, zK_sR, zL_sI, zL_sJ, zL_sR, zI_aI, zJ_aI, zR_aI, zK_aI, zL_aI, z2_at, z2_a, z2_k, z1_self, z1_ne, true_and, and_true, bIt, bIf, Bool.false_eq_true, Bool.true_eq_false, eq_self, not_true_eq_false, not_false_eq_true, sK0, sK1, sK2, sK3, sK4, sK5, sK6, sK7, sK8, sK9, sK10, sK11, sK12, sK13, sK14, sK15, sK16, sK17, sK18, sK19, sK20, sK21, sK22, sK23, sK24, sK25, sK26, sK27, sK28, sK29, sK30, sK31, sK32, sK33, sK34, sK35, sK36, sK37, sK38, sK39, sK40, sK41, sK42, sK43, sK44, sK45, sK46, sK47, sK48, sK49, sK50, sK51, sK52, sK53, sK54, sK55, sK56, sK57, sK58, sK59, sK60, sK61, sK62, sK63, sK64, sK65, sK66, sK67, sK68, sK69, sK70, sK71, sK72, sK73, sK74, sK75, sL1, sL3, sL6, sL8, sL9, sL10, sL11, sL12, sL15, sL17, sL18, sL21, sL23, sL24, sL26, sL29, sL31, sL32, sL34, sL36, sL37, sL39, sL40, sL41, sL43, sL45, sL46, sL47, sL48, sL49, sL50, sL51, sL52, sL53, sL55, sL57, sL59, sL61, sL62, sL63, sL64, sL65, sL67, sL68, sL70, sL71, sL73, sL74, sL75, sR0_0, sR0_2, sR0_5, sR0_6, sR0_11, sR2_5, sR2_6, sR2_7, sR4_1, sR4_2, sR4_4, sR7_0, sR7_1, sR13_1, sR13_2, sR13_4, sR16_0, sR16_1, sR19_1, sR19_2, sR19_4, sR22_0, sR22_1, sR25_0, sR25_2, sR25_3, sR25_4, sR25_5, sR25_6, sR25_7, sR25_8, sR25_10, sR27_1, sR27_2, sR27_4, sR30_0, sR30_1, sR33_0, sR35_0, sR35_1, sR38_0, sR38_1, sR38_2, sR42_0, sR42_5, sR42_7, sR42_11, sR42_12, sR42_13, sR53_0, sR53_1, sR53_2, sR53_3, sR54_1, sR56_1, sR58_1, sR60_1, sR65_0, sR65_1, sR65_2, sR66_0, sR66_1, sR69_0, sR69_1, sR72_0, sR72_1, ↓sB0_0, ↓sB0_2, ↓sB0_5, ↓sB0_6, ↓sB0_11, ↓sB2_5, ↓sB2_6, ↓sB2_7, ↓sB4_1, ↓sB4_2, ↓sB4_4, ↓sB7_0, ↓sB7_1, ↓sB13_1, ↓sB13_2, ↓sB13_4, ↓sB16_0, ↓sB16_1, ↓sB19_1, ↓sB19_2, ↓sB19_4, ↓sB22_0, ↓sB22_1, ↓sB25_0, ↓sB25_2, ↓sB25_3, ↓sB25_4, ↓sB25_5, ↓sB25_6, ↓sB25_7, ↓sB25_8, ↓sB25_10, ↓sB27_1, ↓sB27_2, ↓sB27_4, ↓sB30_0, ↓sB30_1, ↓sB33_0, ↓sB35_0, ↓sB35_1, ↓sB38_0, ↓sB38_1, ↓sB38_2, ↓sB42_0, ↓sB42_5, ↓sB42_7, ↓sB42_11, ↓sB42_12, ↓sB42_13, ↓sB53_0, ↓sB53_1, ↓sB53_2, ↓sB53_3, ↓sB54_1, ↓sB56_1, ↓sB58_1, ↓sB60_1, ↓sB65_0, ↓sB65_1, ↓sB65_2, ↓sB66_0, ↓sB66_1, ↓sB69_0, ↓sB69_1, ↓sB72_0, ↓sB72_1, ↓bd_of c2, c16.fK, c16.f0, c16.f1, c16.f2, c16.f3, c16.f4, c16.f5, c16.f6, c16.f7, c16.f8, c16.f9, c16.f10, c16.f11, c16.f12, hst]
      exact lp_bd (lp_e (body := fun q : Int32 × Zh => bX6_clear_144 g 42 q.1 q.2) (s := (iI 0, hb)) (N := 2 ^ 62 - 1) hex)
    · have := at_lt hx hi
      omega
  · have mm26 : (26 : Nat) ∉ [47, CR] := by simp; omega
    have mm46 : (46 : Nat) ∉ [47, CR] := by simp; omega
    have mmd : d ∉ [47, CR] := by simp; omega
    have mm42 : (42 : Nat) ∉ [47, CR] := by simp; omega
    have mm43 : (43 : Nat) ∉ [47, CR] := by simp; omega
    have mmO : OW ∉ [47, CR] := by simp; omega
    have := lp_cnt (body := fun q : Int32 × Zh => bX6_clear_144 g 42 q.1 q.2) (tH t) (fun x z => ∃ hh, z = ((iI (x : Int), hh) : Int32 × Zh) ∧ Fm [47, CR] hb hh ∧ (∀ y, y < x → ∀ i, i < pcn t → zI hh CR (y * pcn t + i) = iI ((crC t y i + 1 : Nat) : Int)) ∧ ∀ a, x * pcn t ≤ a → a < zL h CR → zI hh CR a = iI 0) (fun e z => e = 1 ∧ Fm [47, CR] hb z.2 ∧ ∀ y, y < tH t → ∀ i, i < pcn t → zI z.2 CR (y * pcn t + i) = iI ((crC t y i + 1 : Nat) : Int)) ?_ ?_ (by omega) (s := (iI 0, hb)) ⟨hb, rfl, Fm.rf, fun y hy => by omega, fun a _ ha => hzA a ha⟩
    · obtain ⟨e, z, l1, l2, l3, l4⟩ := this
      have e0 : e = 0 := by omega
      subst e0
      have p3 := px.fm l3 mm26 mm46 mmd (by rw [l3.I mm42])
      refine ⟨z.2, ?_, ⟨p3, fun x hx i hi => Or.inl (l4 x hx i hi), pw.fm l3 mm43 mmO, by rw [l3.I mm42]; exact e10⟩, fmA.tr (l3.mono (by simp)), fun j hj => by rw [l3.I mm42]; exact e42 j hj⟩
      rw [hrun]
      exact lp_bd l1
    · intro x z hx ⟨hh, ez, fm, k1, k2⟩
      subst ez
      have p3 := px.fm fm mm26 mm46 mmd (by rw [fm.I mm42])
      have hxl : x * pcn t + pcn t ≤ zL h CR := by
        have h3 : (x + 1) * pcn t ≤ tH t * pcn t := Nat.mul_le_mul_right _ hx
        rw [Nat.add_mul, Nat.one_mul] at h3
        omega
      obtain ⟨h2, r1, r2, r3, r4⟩ := fX6_sortRows_eq p3 tok hst hx (fun i hi => k2 _ (by omega) (by omega))
      have s3 := p3.1
      have q3 : zR hh 42 3 = some d := p3.2.1
      have d3 : Dk hh d t := p3.2.2.2.2.2.2.2.2.2.2.2.2.2.2.2.1
      refine Or.inl ⟨(iI ((x + 1 : Nat) : Int), h2), ?_, h2, rfl, fm.tr r2, fun y hy i hi => ?_, fun a h3 h4 => ?_⟩
      · show bX6_clear_144 g 42 (iI x) hh = _
        unfold bX6_clear_144
        simp (maxSteps := 1000000) (disch := (first | assumption | exact ne_b rfl | omega)) only [↓reduceIte, ↓zlet_eq, ↓bdR_sI, ↓bdR_sJ, ↓bdR_aI, zc2_some, Option.bind_some, ↓si_m1, ↓si_m2, ↓si_m3, iI_lit, iI_add, iI_sub, iI_mul, leT, leF, ltT, ltF, eqT, eqF, zinT, clI, Int.toNat_natCast, Int.reduceToNat, tN1, tNa, tN0, tNm, if_pos, if_neg, zI_sI, zI_sJ, zI_sR, zJ_sI, zJ_sJ, zJ_sR, zR_sI, zR_sJ, zR_sR, zK_sI, zK_sJ, zK_sR, zL_sI, zL_sJ, zL_sR, zI_aI, zJ_aI, zR_aI, zK_aI, zL_aI, z2_at, z2_a, z2_k, z1_self, z1_ne, true_and, and_true, bIt, bIf, Bool.false_eq_true, Bool.true_eq_false, eq_self, not_true_eq_false, not_false_eq_true, sK0, sK1, sK2, sK3, sK4, sK5, sK6, sK7, sK8, sK9, sK10, sK11, sK12, sK13, sK14, sK15, sK16, sK17, sK18, sK19, sK20, sK21, sK22, sK23, sK24, sK25, sK26, sK27, sK28, sK29, sK30, sK31, sK32, sK33, sK34, sK35, sK36, sK37, sK38, sK39, sK40, sK41, sK42, sK43, sK44, sK45, sK46, sK47, sK48, sK49, sK50, sK51, sK52, sK53, sK54, sK55, sK56, sK57, sK58, sK59, sK60, sK61, sK62, sK63, sK64, sK65, sK66, sK67, sK68, sK69, sK70, sK71, sK72, sK73, sK74, sK75, sL1, sL3, sL6, sL8, sL9, sL10, sL11, sL12, sL15, sL17, sL18, sL21, sL23, sL24, sL26, sL29, sL31, sL32, sL34, sL36, sL37, sL39, sL40, sL41, sL43, sL45, sL46, sL47, sL48, sL49, sL50, sL51, sL52, sL53, sL55, sL57, sL59, sL61, sL62, sL63, sL64, sL65, sL67, sL68, sL70, sL71, sL73, sL74, sL75, sR0_0, sR0_2, sR0_5, sR0_6, sR0_11, sR2_5, sR2_6, sR2_7, sR4_1, sR4_2, sR4_4, sR7_0, sR7_1, sR13_1, sR13_2, sR13_4, sR16_0, sR16_1, sR19_1, sR19_2, sR19_4, sR22_0, sR22_1, sR25_0, sR25_2, sR25_3, sR25_4, sR25_5, sR25_6, sR25_7, sR25_8, sR25_10, sR27_1, sR27_2, sR27_4, sR30_0, sR30_1, sR33_0, sR35_0, sR35_1, sR38_0, sR38_1, sR38_2, sR42_0, sR42_5, sR42_7, sR42_11, sR42_12, sR42_13, sR53_0, sR53_1, sR53_2, sR53_3, sR54_1, sR56_1, sR58_1, sR60_1, sR65_0, sR65_1, sR65_2, sR66_0, sR66_1, sR69_0, sR69_1, sR72_0, sR72_1, ↓sB0_0, ↓sB0_2, ↓sB0_5, ↓sB0_6, ↓sB0_11, ↓sB2_5, ↓sB2_6, ↓sB2_7, ↓sB4_1, ↓sB4_2, ↓sB4_4, ↓sB7_0, ↓sB7_1, ↓sB13_1, ↓sB13_2, ↓sB13_4, ↓sB16_0, ↓sB16_1, ↓sB19_1, ↓sB19_2, ↓sB19_4, ↓sB22_0, ↓sB22_1, ↓sB25_0, ↓sB25_2, ↓sB25_3, ↓sB25_4, ↓sB25_5, ↓sB25_6, ↓sB25_7, ↓sB25_8, ↓sB25_10, ↓sB27_1, ↓sB27_2, ↓sB27_4, ↓sB30_0, ↓sB30_1, ↓sB33_0, ↓sB35_0, ↓sB35_1, ↓sB38_0, ↓sB38_1, ↓sB38_2, ↓sB42_0, ↓sB42_5, ↓sB42_7, ↓sB42_11, ↓sB42_12, ↓sB42_13, ↓sB53_0, ↓sB53_1, ↓sB53_2, ↓sB53_3, ↓sB54_1, ↓sB56_1, ↓sB58_1, ↓sB60_1, ↓sB65_0, ↓sB65_1, ↓sB65_2, ↓sB66_0, ↓sB66_1, ↓sB69_0, ↓sB69_1, ↓sB72_0, ↓sB72_1, ↓bd_of q3, d3.fK, d3.f0, d3.f1, d3.f2, d3.f3, d3.f4, d3.f5, d3.f6, d3.f7, d3.f8, d3.f9, d3.f10, d3.f11, d3.f12, hst, ↓bd_of r1]
        rfl
      · by_cases c : y = x
        · rw [c]; exact r4 i hi
        · have h5 : (y + 1) * pcn t ≤ x * pcn t := Nat.mul_le_mul_right _ (by omega)
          rw [Nat.add_mul, Nat.one_mul] at h5
          rw [r3 _ (by generalize x * pcn t = f at *; generalize y * pcn t = f2 at *; omega)]
          exact k1 y (by omega) i hi
      · rw [Nat.add_mul, Nat.one_mul] at h3
        rw [r3 a (by omega)]
        exact k2 a (by omega) h4
    · intro z ⟨hh, ez, fm, k1, k2⟩
      subst ez
      have p3 := px.fm fm mm26 mm46 mmd (by rw [fm.I mm42])
      have s3 := p3.1
      have q3 : zR hh 42 3 = some d := p3.2.1
      have d3 : Dk hh d t := p3.2.2.2.2.2.2.2.2.2.2.2.2.2.2.2.1
      refine ⟨0, (iI (tH t), hh), ?_, rfl, fm, k1⟩
      show bX6_clear_144 g 42 (iI (tH t)) hh = _
      unfold bX6_clear_144
      simp (maxSteps := 1000000) (disch := (first | assumption | exact ne_b rfl | omega)) only [↓reduceIte, ↓zlet_eq, ↓bdR_sI, ↓bdR_sJ, ↓bdR_aI, zc2_some, Option.bind_some, ↓si_m1, ↓si_m2, ↓si_m3, iI_lit, iI_add, iI_sub, iI_mul, leT, leF, ltT, ltF, eqT, eqF, zinT, clI, Int.toNat_natCast, Int.reduceToNat, tN1, tNa, tN0, tNm, if_pos, if_neg, zI_sI, zI_sJ, zI_sR, zJ_sI, zJ_sJ, zJ_sR, zR_sI, zR_sJ, zR_sR, zK_sI, zK_sJ, zK_sR, zL_sI, zL_sJ, zL_sR, zI_aI, zJ_aI, zR_aI, zK_aI, zL_aI, z2_at, z2_a, z2_k, z1_self, z1_ne, true_and, and_true, bIt, bIf, Bool.false_eq_true, Bool.true_eq_false, eq_self, not_true_eq_false, not_false_eq_true, sK0, sK1, sK2, sK3, sK4, sK5, sK6, sK7, sK8, sK9, sK10, sK11, sK12, sK13, sK14, sK15, sK16, sK17, sK18, sK19, sK20, sK21, sK22, sK23, sK24, sK25, sK26, sK27, sK28, sK29, sK30, sK31, sK32, sK33, sK34, sK35, sK36, sK37, sK38, sK39, sK40, sK41, sK42, sK43, sK44, sK45, sK46, sK47, sK48, sK49, sK50, sK51, sK52, sK53, sK54, sK55, sK56, sK57, sK58, sK59, sK60, sK61, sK62, sK63, sK64, sK65, sK66, sK67, sK68, sK69, sK70, sK71, sK72, sK73, sK74, sK75, sL1, sL3, sL6, sL8, sL9, sL10, sL11, sL12, sL15, sL17, sL18, sL21, sL23, sL24, sL26, sL29, sL31, sL32, sL34, sL36, sL37, sL39, sL40, sL41, sL43, sL45, sL46, sL47, sL48, sL49, sL50, sL51, sL52, sL53, sL55, sL57, sL59, sL61, sL62, sL63, sL64, sL65, sL67, sL68, sL70, sL71, sL73, sL74, sL75, sR0_0, sR0_2, sR0_5, sR0_6, sR0_11, sR2_5, sR2_6, sR2_7, sR4_1, sR4_2, sR4_4, sR7_0, sR7_1, sR13_1, sR13_2, sR13_4, sR16_0, sR16_1, sR19_1, sR19_2, sR19_4, sR22_0, sR22_1, sR25_0, sR25_2, sR25_3, sR25_4, sR25_5, sR25_6, sR25_7, sR25_8, sR25_10, sR27_1, sR27_2, sR27_4, sR30_0, sR30_1, sR33_0, sR35_0, sR35_1, sR38_0, sR38_1, sR38_2, sR42_0, sR42_5, sR42_7, sR42_11, sR42_12, sR42_13, sR53_0, sR53_1, sR53_2, sR53_3, sR54_1, sR56_1, sR58_1, sR60_1, sR65_0, sR65_1, sR65_2, sR66_0, sR66_1, sR69_0, sR69_1, sR72_0, sR72_1, ↓sB0_0, ↓sB0_2, ↓sB0_5, ↓sB0_6, ↓sB0_11, ↓sB2_5, ↓sB2_6, ↓sB2_7, ↓sB4_1, ↓sB4_2, ↓sB4_4, ↓sB7_0, ↓sB7_1, ↓sB13_1, ↓sB13_2, ↓sB13_4, ↓sB16_0, ↓sB16_1, ↓sB19_1, ↓sB19_2, ↓sB19_4, ↓sB22_0, ↓sB22_1, ↓sB25_0, ↓sB25_2, ↓sB25_3, ↓sB25_4, ↓sB25_5, ↓sB25_6, ↓sB25_7, ↓sB25_8, ↓sB25_10, ↓sB27_1, ↓sB27_2, ↓sB27_4, ↓sB30_0, ↓sB30_1, ↓sB33_0, ↓sB35_0, ↓sB35_1, ↓sB38_0, ↓sB38_1, ↓sB38_2, ↓sB42_0, ↓sB42_5, ↓sB42_7, ↓sB42_11, ↓sB42_12, ↓sB42_13, ↓sB53_0, ↓sB53_1, ↓sB53_2, ↓sB53_3, ↓sB54_1, ↓sB56_1, ↓sB58_1, ↓sB60_1, ↓sB65_0, ↓sB65_1, ↓sB65_2, ↓sB66_0, ↓sB66_1, ↓sB69_0, ↓sB69_1, ↓sB72_0, ↓sB72_1, ↓bd_of q3, d3.fK, d3.f0, d3.f1, d3.f2, d3.f3, d3.f4, d3.f5, d3.f6, d3.f7, d3.f8, d3.f9, d3.f10, d3.f11, d3.f12]
