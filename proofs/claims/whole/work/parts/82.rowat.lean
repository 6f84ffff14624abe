/-! the class's pairing: what it stands on, a hand's rows -/
/-- how many places there are for a hand's rows, without tilts -/
def pcn (t : Tk) : Nat := hnd (tk t) (tsh t) (!anyO t)
theorem pcn_kt : ∀ k : Nat, k < 6 → ∀ s : Nat, s < 5 → s ≤ k → 1 ≤ hnd k s true ∧ hnd k s true ≤ 120 ∧ pch k s = (hnd k s true : Nat) := by decide +kernel
theorem pcn_kf : ∀ k : Nat, k < 6 → ∀ s : Nat, s < 5 → s ≤ k → 1 ≤ hnd k s false ∧ hnd k s false ≤ 120 ∧ pfall k s = (hnd k s false : Nat) := by decide +kernel
theorem pcn_b {t : Tk} (tok : Tok t) : 1 ≤ pcn t ∧ pcn t ≤ 120 := by
  obtain ⟨bn4, bn12, bu1, bu4, bnu, bk2, bk5, bkn, bp1, bp2, bpk, bH, bsp, bs1, bs4, bT1, bT16, bR1, bR2, bH1, bff, bff1⟩ := tok.b
  have h1 := pcn_kt (tk t) (by omega) (tsh t) (by omega) (by omega)
  have h2 := pcn_kf (tk t) (by omega) (tsh t) (by omega) (by omega)
  unfold pcn
  cases anyO t
  · exact ⟨h1.1, h1.2.1⟩
  · exact ⟨h2.1, h2.2.1⟩
noncomputable def plc (t : Tk) (i j : Nat) : Nat := hcd (tk t) (tsh t) (!anyO t) i j
theorem plc_vld {t : Tk} (tok : Tok t) {i : Nat} (hi : i < pcn t) : vld (tk t) (tsh t) (!anyO t) (plc t i) := by
  obtain ⟨bn4, bn12, bu1, bu4, bnu, bk2, bk5, bkn, bp1, bp2, bpk, bH, bsp, bs1, bs4, bT1, bT16, bR1, bR2, bH1, bff, bff1⟩ := tok.b
  have := (pcn_b tok).2
  unfold pcn at this hi
  exact hcd_vld (by omega) (by omega) (by omega) (by omega) (by omega) hi
theorem plc_ex {t : Tk} (tok : Tok t) {p : Nat → Nat} (hp : vld (tk t) (tsh t) (!anyO t) p) : ∃ i, i < pcn t ∧ ∀ j, j < tsh t → plc t i j = p j := by
  obtain ⟨bn4, bn12, bu1, bu4, bnu, bk2, bk5, bkn, bp1, bp2, bpk, bH, bsp, bs1, bs4, bT1, bT16, bR1, bR2, bH1, bff, bff1⟩ := tok.b
  have := (pcn_b tok).2
  unfold pcn at this
  exact hcd_ex (by omega) (by omega) (by omega) (by omega) (by omega) hp
noncomputable def crS (t : Tk) (x i : Nat) : Nat := rowN (tn t) (fun j => hc t x (plc t i j)) (tsh t)
theorem crS_lt {t : Tk} (tok : Tok t) {x i : Nat} (hx : x < tH t) (hi : i < pcn t) : crS t x i < ff (tn t) (tsh t) := by
  obtain ⟨d1, d2⟩ := pos_ok tok hx (plc_vld tok hi)
  exact rowN_lt (tsh t) d1 d2
def PX (h : Zh) (t : Tk) (d CR OW : Nat) : Prop := St h ∧ zR h 42 3 = some d ∧ zR h 42 4 = some 26 ∧ zR h 42 8 = some CR ∧ zR h 42 9 = some OW ∧ zK h CR = 100 ∧ zK h OW = 100 ∧ tH t * pcn t ≤ zL h CR ∧ tR t ≤ zL h OW ∧ zL h CR < 2147483648 ∧ zL h OW < 2147483648 ∧ CR ≠ OW ∧ (CR = 48 ∨ 101 ≤ CR) ∧ (OW = 49 ∨ 101 ≤ OW) ∧ (d = 14 ∨ d = 20) ∧ Dk h d t ∧ HdC h t ∧ zI h 42 6 = iI (pcn t) ∧ (∀ i, i < pcn t → zI h 46 i = iI (pkf (plc t i) 0 (tsh t)))
theorem PX.fm {S : List Nat} {h h' : Zh} {t : Tk} {d CR OW : Nat} (p : PX h t d CR OW) (f : Fm S h h') (h1 : 26 ∉ S) (h2 : 46 ∉ S) (h3 : d ∉ S) (h4 : zI h' 42 6 = zI h 42 6) : PX h' t d CR OW := by
  obtain ⟨a1, a2, a3, a4, a5, a6, a7, a8, a9, a10, a11, a12, a13, a14, a15, a16, a17, a18, a19⟩ := p
  refine ⟨a1.fm f, ?_, ?_, ?_, ?_, ?_, ?_, ?_, ?_, ?_, ?_, a12, a13, a14, a15, a16.fm f h3, ?_, by rw [h4]; exact a18, ?_⟩
  · rw [f.R]; exact a2
  · rw [f.R]; exact a3
  · rw [f.R]; exact a4
  · rw [f.R]; exact a5
  · rw [f.K]; exact a6
  · rw [f.K]; exact a7
  · rw [f.L]; exact a8
  · rw [f.L]; exact a9
  · rw [f.L]; exact a10
  · rw [f.L]; exact a11
  · unfold HdC; rw [f.I h1]; exact a17
  · rw [f.I h2]; exact a19
theorem at_lt {x i H m : Nat} (hx : x < H) (hi : i < m) : x * m + i < H * m := by
  have h1 : (x + 1) * m ≤ H * m := Nat.mul_le_mul_right _ hx
  rw [Nat.add_mul, Nat.one_mul] at h1
  omega
theorem rowAt_e {h h0 : Zh} {t : Tk} {d CR OW a v : Nat} (p : PX h t d CR OW) (hg : zK h0 = zK h ∧ zL h0 = zL h) (tok : Tok t) (ha : a < zL h CR) (hv : v < 11880) (e : zI h CR a = iI ((v + 1 : Nat) : Int)) : jX6_rowAt_92 h0 42 (iI a) h = some (iI ((v * tT t : Nat) : Int), h) := by
  obtain ⟨bn4, bn12, bu1, bu4, bnu, bk2, bk5, bkn, bp1, bp2, bpk, bH, bsp, bs1, bs4, bT1, bT16, bR1, bR2, bH1, bff, bff1⟩ := tok.b
  obtain ⟨a1, a2, a3, a4, a5, a6, a7, a8, a9, a10, a11, a12, a13, a14, a15, a16, a17, a18, a19⟩ := p
  have hk : zK h0 CR = 100 := by rw [hg.1]; exact a6
  have hd : zK h0 d = 0 := by rw [hg.1]; exact a16.fK
  have hl : zL h0 CR = zL h CR := by rw [hg.2]
  unfold jX6_rowAt_92
  have e1 : ((v + 1 : Nat) : Int) - 1 = (v : Int) := by omega
  simp (maxSteps := 1000000) (disch := (first | assumption | exact ne_b rfl | omega)) only [↓reduceIte, ↓zlet_eq, ↓bdR_sI, ↓bdR_sJ, ↓bdR_aI, zc2_some, Option.bind_some, ↓si_m1, ↓si_m2, ↓si_m3, iI_lit, iI_add, iI_sub, iI_mul, leT, leF, ltT, ltF, eqT, eqF, zinT, clI, Int.toNat_natCast, Int.reduceToNat, tN1, tNa, tN0, tNm, if_pos, if_neg, zI_sI, zI_sJ, zI_sR, zJ_sI, zJ_sJ, zJ_sR, zR_sI, zR_sJ, zR_sR, zK_sI, zK_sJ, zK_sR, zL_sI, zL_sJ, zL_sR, zI_aI, zJ_aI, zR_aI, zK_aI, zL_aI, z2_at, z2_a, z2_k, z1_self, z1_ne, true_and, and_true, bIt, bIf, Bool.false_eq_true, Bool.true_eq_false, eq_self, not_true_eq_false, not_false_eq_true, ↓bd_of a4, ↓bd_of a2, hk, hd, hl, e, a16.f12, e1]
  rw [← Int.natCast_mul]
theorem rowAt_n {h : Zh} {t : Tk} {d CR OW x i v : Nat} (p : PX h t d CR OW) (tok : Tok t) (hx : x < tH t) (hi : i < pcn t) (hv : v < 11880) (e : zI h CR (x * pcn t + i) = iI ((v + 1 : Nat) : Int)) : fX6_rowAt 42 (iI x) (iI i) h = some (iI ((v * tT t : Nat) : Int), h) := by
  have p0 := p
  obtain ⟨a1, a2, a3, a4, a5, a6, a7, a8, a9, a10, a11, a12, a13, a14, a15, a16, a17, a18, a19⟩ := p
  have hat := at_lt hx hi
  have e2 : (x : Int) * (pcn t : Int) + (i : Int) = ((x * pcn t + i : Nat) : Int) := by rw [Int.natCast_add, Int.natCast_mul]
  have he := rowAt_e (a := x * pcn t + i) p0 ⟨rfl, rfl⟩ tok (by omega) hv e
  unfold fX6_rowAt
  generalize x * pcn t + i = a at *
  simp (maxSteps := 1000000) (disch := (first | assumption | exact ne_b rfl | omega)) only [↓reduceIte, ↓zlet_eq, ↓bdR_sI, ↓bdR_sJ, ↓bdR_aI, zc2_some, Option.bind_some, ↓si_m1, ↓si_m2, ↓si_m3, iI_lit, iI_add, iI_sub, iI_mul, leT, leF, ltT, ltF, eqT, eqF, zinT, clI, Int.toNat_natCast, Int.reduceToNat, tN1, tNa, tN0, tNm, if_pos, if_neg, zI_sI, zI_sJ, zI_sR, zJ_sI, zJ_sJ, zJ_sR, zR_sI, zR_sJ, zR_sR, zK_sI, zK_sJ, zK_sR, zL_sI, zL_sJ, zL_sR, zI_aI, zJ_aI, zR_aI, zK_aI, zL_aI, z2_at, z2_a, z2_k, z1_self, z1_ne, true_and, and_true, bIt, bIf, Bool.false_eq_true, Bool.true_eq_false, eq_self, not_true_eq_false, not_false_eq_true, sK0, sK1, sK2, sK3, sK4, sK5, sK6, sK7, sK8, sK9, sK10, sK11, sK12, sK13, sK14, sK15, sK16, sK17, sK18, sK19, sK20, sK21, sK22, sK23, sK24, sK25, sK26, sK27, sK28, sK29, sK30, sK31, sK32, sK33, sK34, sK35, sK36, sK37, sK38, sK39, sK40, sK41, sK42, sK43, sK44, sK45, sK46, sK47, sK48, sK49, sK50, sK51, sK52, sK53, sK54, sK55, sK56, sK57, sK58, sK59, sK60, sK61, sK62, sK63, sK64, sK65, sK66, sK67, sK68, sK69, sK70, sK71, sK72, sK73, sK74, sK75, sL1, sL3, sL6, sL8, sL9, sL10, sL11, sL12, sL15, sL17, sL18, sL21, sL23, sL24, sL26, sL29, sL31, sL32, sL34, sL36, sL37, sL39, sL40, sL41, sL43, sL45, sL46, sL47, sL48, sL49, sL50, sL51, sL52, sL53, sL55, sL57, sL59, sL61, sL62, sL63, sL64, sL65, sL67, sL68, sL70, sL71, sL73, sL74, sL75, sR0_0, sR0_2, sR0_5, sR0_6, sR0_11, sR2_5, sR2_6, sR2_7, sR4_1, sR4_2, sR4_4, sR7_0, sR7_1, sR13_1, sR13_2, sR13_4, sR16_0, sR16_1, sR19_1, sR19_2, sR19_4, sR22_0, sR22_1, sR25_0, sR25_2, sR25_3, sR25_4, sR25_5, sR25_6, sR25_7, sR25_8, sR25_10, sR27_1, sR27_2, sR27_4, sR30_0, sR30_1, sR33_0, sR35_0, sR35_1, sR38_0, sR38_1, sR38_2, sR42_0, sR42_5, sR42_7, sR42_11, sR42_12, sR42_13, sR53_0, sR53_1, sR53_2, sR53_3, sR54_1, sR56_1, sR58_1, sR60_1, sR65_0, sR65_1, sR65_2, sR66_0, sR66_1, sR69_0, sR69_1, sR72_0, sR72_1, ↓sB0_0, ↓sB0_2, ↓sB0_5, ↓sB0_6, ↓sB0_11, ↓sB2_5, ↓sB2_6, ↓sB2_7, ↓sB4_1, ↓sB4_2, ↓sB4_4, ↓sB7_0, ↓sB7_1, ↓sB13_1, ↓sB13_2, ↓sB13_4, ↓sB16_0, ↓sB16_1, ↓sB19_1, ↓sB19_2, ↓sB19_4, ↓sB22_0, ↓sB22_1, ↓sB25_0, ↓sB25_2, ↓sB25_3, ↓sB25_4, ↓sB25_5, ↓sB25_6, ↓sB25_7, ↓sB25_8, ↓sB25_10, ↓sB27_1, ↓sB27_2, ↓sB27_4, ↓sB30_0, ↓sB30_1, ↓sB33_0, ↓sB35_0, ↓sB35_1, ↓sB38_0, ↓sB38_1, ↓sB38_2, ↓sB42_0, ↓sB42_5, ↓sB42_7, ↓sB42_11, ↓sB42_12, ↓sB42_13, ↓sB53_0, ↓sB53_1, ↓sB53_2, ↓sB53_3, ↓sB54_1, ↓sB56_1, ↓sB58_1, ↓sB60_1, ↓sB65_0, ↓sB65_1, ↓sB65_2, ↓sB66_0, ↓sB66_1, ↓sB69_0, ↓sB69_1, ↓sB72_0, ↓sB72_1, a18, e2, ↓bd_of a4, a6, e, he]
theorem rowAt_z {h : Zh} {t : Tk} {d CR OW x i : Nat} (p : PX h t d CR OW) (tok : Tok t) (hx : x < tH t) (hi : i < pcn t) (e : zI h CR (x * pcn t + i) = iI 0) : ∃ h', fX6_rowAt 42 (iI x) (iI i) h = some (iI ((crS t x i * tT t : Nat) : Int), h') ∧ Fm [47, CR] h h' ∧ zI h' CR = z1 (zI h CR) (x * pcn t + i) (iI ((crS t x i + 1 : Nat) : Int)) := by
  obtain ⟨bn4, bn12, bu1, bu4, bnu, bk2, bk5, bkn, bp1, bp2, bpk, bH, bsp, bs1, bs4, bT1, bT16, bR1, bR2, bH1, bff, bff1⟩ := tok.b
  have p0 := p
  obtain ⟨a1, a2, a3, a4, a5, a6, a7, a8, a9, a10, a11, a12, a13, a14, a15, a16, a17, a18, a19⟩ := p
  have hat := at_lt hx hi
  have hpl := plc_vld tok hi
  obtain ⟨pp1, pp2⟩ := pk_ok tok hx
  obtain ⟨d1, d2⟩ := pos_ok tok hx hpl
  have hcl := crS_lt tok hx hi
  have p16 : ∀ a, a < tsh t → plc t i a < 16 := fun a ha => by have := hpl.1 a ha; omega
  have pl1 : pkf (plc t i) 0 (tsh t) < 2147483648 := by
    have h1 := pkf_lt (w := plc t i) (tsh t) 0 (fun j _ hj => p16 j (by omega))
    have h2 : 16 ^ tsh t ≤ 16 ^ 4 := Nat.pow_le_pow_right (by decide) bs4
    omega
  have pl2 : ∀ j, j < tsh t → pc (pkf (plc t i) 0 (tsh t)) j = plc t i j := fun j hj => pc_pkf p16 hj
  have nc47 : CR ≠ 47 := by omega
  have n47c : (47 : Nat) ≠ CR := by omega
  have nd47 : d ≠ 47 := by omega
  have hpcb := (pcn_b tok).2
  have e2 : (x : Int) * (pcn t : Int) + (i : Int) = ((x * pcn t + i : Nat) : Int) := by rw [Int.natCast_add, Int.natCast_mul]
  have fm1 : Fm [47] h (zaI h 47 (afill (tsh t) (fun j => iI (hc t x (plc t i j))) (zI h 47))) := Fm_aI _ _ (by simp)
  have p1 : PX (zaI h 47 (afill (tsh t) (fun j => iI (hc t x (plc t i j))) (zI h 47))) t d CR OW := p0.fm fm1 (by simp) (by simp) (by simp; omega) (by rw [fm1.I (by simp)])
  obtain ⟨b1, b2, b3, b4, b5, b6, b7, b8, b9, b10, b11, b12, b13, b14, b15, b16, b17, b18, b19⟩ := p1
  have er := fX0_rowNumber_eq (d := d) (r := 47) (n := tn t) (a := tsh t) (L := 5) (w := fun j => hc t x (plc t i j)) (h := zaI h 47 (afill (tsh t) (fun j => iI (hc t x (plc t i j))) (zI h 47))) b16.fK (sK47 b1) (sL47 b1) (by decide) b16.f0 bn12 (by omega) (by omega) (fun j hj => ⟨by rw [zI_aI, z1_self, afill_lt hj], d2 j hj⟩) d1
  have fm2 : Fm [47, CR] h (zsI (zaI h 47 (afill (tsh t) (fun j => iI (hc t x (plc t i j))) (zI h 47))) CR (x * pcn t + i) (iI ((crS t x i + 1 : Nat) : Int))) := (Fm_aI _ _ (by simp)).tr (Fm_sI _ _ _ (by simp))
  have p2 : PX (zsI (zaI h 47 (afill (tsh t) (fun j => iI (hc t x (plc t i j))) (zI h 47))) CR (x * pcn t + i) (iI ((crS t x i + 1 : Nat) : Int))) t d CR OW := p0.fm fm2 (by simp; omega) (by simp; omega) (by simp; omega) (by rw [fm2.I (by simp; omega)])
  have he := rowAt_e (h0 := h) (a := x * pcn t + i) (v := crS t x i) p2 ⟨rfl, rfl⟩ tok (by show _ < zL h CR; omega) (by omega) (by rw [zI_sI, z2_at])
  refine ⟨_, ?_, fm2, ?_⟩
  · have hl : lp (fun q : Int32 × Zh => bX6_rowAt_21 h 42 (iI x) (iI i) q.1 q.2) zB (iI 0, h) = some (1, (iI (tsh t), zaI h 47 (afill (tsh t) (fun j => iI (hc t x (plc t i j))) (zI h 47)))) := by
      refine lp_for0 (st := fun j => ((iI (j : Int), zaI h 47 (afill j (fun j => iI (hc t x (plc t i j))) (zI h 47))) : Int32 × Zh)) (e := 0) (tsh t) (by rw [zaI_f0]; rfl) (by omega) ?_ ?_
      · intro j hj
        show bX6_rowAt_21 h 42 (iI x) (iI i) (iI j) (zaI h 47 _) = _
        unfold bX6_rowAt_21
        have hpj := hpl.1 j hj
        have c1 := fX0_cardAt_eq pl1 (show j < 8 by omega) (zaI h 47 (afill j (fun j => iI (hc t x (plc t i j))) (zI h 47)))
        rw [pl2 j hj] at c1
        have c2 := fX0_cardAt_eq pp1 (show plc t i j < 8 by omega) (zaI h 47 (afill j (fun j => iI (hc t x (plc t i j))) (zI h 47)))
        rw [pp2 _ hpj] at c2
        simp (maxSteps := 1000000) (disch := (first | assumption | exact ne_b rfl | omega)) only [↓reduceIte, ↓zlet_eq, ↓bdR_sI, ↓bdR_sJ, ↓bdR_aI, zc2_some, Option.bind_some, ↓si_m1, ↓si_m2, ↓si_m3, iI_lit, iI_add, iI_sub, iI_mul, leT, leF, ltT, ltF, eqT, eqF, zinT, clI, Int.toNat_natCast, Int.reduceToNat, tN1, tNa, tN0, tNm, if_pos, if_neg, zI_sI, zI_sJ, zI_sR, zJ_sI, zJ_sJ, zJ_sR, zR_sI, zR_sJ, zR_sR, zK_sI, zK_sJ, zK_sR, zL_sI, zL_sJ, zL_sR, zI_aI, zJ_aI, zR_aI, zK_aI, zL_aI, z2_at, z2_a, z2_k, z1_self, z1_ne, true_and, and_true, bIt, bIf, Bool.false_eq_true, Bool.true_eq_false, eq_self, not_true_eq_false, not_false_eq_true, sK0, sK1, sK2, sK3, sK4, sK5, sK6, sK7, sK8, sK9, sK10, sK11, sK12, sK13, sK14, sK15, sK16, sK17, sK18, sK19, sK20, sK21, sK22, sK23, sK24, sK25, sK26, sK27, sK28, sK29, sK30, sK31, sK32, sK33, sK34, sK35, sK36, sK37, sK38, sK39, sK40, sK41, sK42, sK43, sK44, sK45, sK46, sK47, sK48, sK49, sK50, sK51, sK52, sK53, sK54, sK55, sK56, sK57, sK58, sK59, sK60, sK61, sK62, sK63, sK64, sK65, sK66, sK67, sK68, sK69, sK70, sK71, sK72, sK73, sK74, sK75, sL1, sL3, sL6, sL8, sL9, sL10, sL11, sL12, sL15, sL17, sL18, sL21, sL23, sL24, sL26, sL29, sL31, sL32, sL34, sL36, sL37, sL39, sL40, sL41, sL43, sL45, sL46, sL47, sL48, sL49, sL50, sL51, sL52, sL53, sL55, sL57, sL59, sL61, sL62, sL63, sL64, sL65, sL67, sL68, sL70, sL71, sL73, sL74, sL75, sR0_0, sR0_2, sR0_5, sR0_6, sR0_11, sR2_5, sR2_6, sR2_7, sR4_1, sR4_2, sR4_4, sR7_0, sR7_1, sR13_1, sR13_2, sR13_4, sR16_0, sR16_1, sR19_1, sR19_2, sR19_4, sR22_0, sR22_1, sR25_0, sR25_2, sR25_3, sR25_4, sR25_5, sR25_6, sR25_7, sR25_8, sR25_10, sR27_1, sR27_2, sR27_4, sR30_0, sR30_1, sR33_0, sR35_0, sR35_1, sR38_0, sR38_1, sR38_2, sR42_0, sR42_5, sR42_7, sR42_11, sR42_12, sR42_13, sR53_0, sR53_1, sR53_2, sR53_3, sR54_1, sR56_1, sR58_1, sR60_1, sR65_0, sR65_1, sR65_2, sR66_0, sR66_1, sR69_0, sR69_1, sR72_0, sR72_1, ↓sB0_0, ↓sB0_2, ↓sB0_5, ↓sB0_6, ↓sB0_11, ↓sB2_5, ↓sB2_6, ↓sB2_7, ↓sB4_1, ↓sB4_2, ↓sB4_4, ↓sB7_0, ↓sB7_1, ↓sB13_1, ↓sB13_2, ↓sB13_4, ↓sB16_0, ↓sB16_1, ↓sB19_1, ↓sB19_2, ↓sB19_4, ↓sB22_0, ↓sB22_1, ↓sB25_0, ↓sB25_2, ↓sB25_3, ↓sB25_4, ↓sB25_5, ↓sB25_6, ↓sB25_7, ↓sB25_8, ↓sB25_10, ↓sB27_1, ↓sB27_2, ↓sB27_4, ↓sB30_0, ↓sB30_1, ↓sB33_0, ↓sB35_0, ↓sB35_1, ↓sB38_0, ↓sB38_1, ↓sB38_2, ↓sB42_0, ↓sB42_5, ↓sB42_7, ↓sB42_11, ↓sB42_12, ↓sB42_13, ↓sB53_0, ↓sB53_1, ↓sB53_2, ↓sB53_3, ↓sB54_1, ↓sB56_1, ↓sB58_1, ↓sB60_1, ↓sB65_0, ↓sB65_1, ↓sB65_2, ↓sB66_0, ↓sB66_1, ↓sB69_0, ↓sB69_1, ↓sB72_0, ↓sB72_1, ↓bd_of a2, ↓bd_of a3, a16.fK, a16.f5, a17 x hx, a19 i hi, c1, c2, zsI_aI]
        rw [afill_s (i := j) (A := fun j => iI (hc t x (plc t i j))) rfl]
        rfl
      · show bX6_rowAt_21 h 42 (iI x) (iI i) (iI (tsh t)) (zaI h 47 _) = _
        unfold bX6_rowAt_21
        simp (maxSteps := 1000000) (disch := (first | assumption | exact ne_b rfl | omega)) only [↓reduceIte, ↓zlet_eq, ↓bdR_sI, ↓bdR_sJ, ↓bdR_aI, zc2_some, Option.bind_some, ↓si_m1, ↓si_m2, ↓si_m3, iI_lit, iI_add, iI_sub, iI_mul, leT, leF, ltT, ltF, eqT, eqF, zinT, clI, Int.toNat_natCast, Int.reduceToNat, tN1, tNa, tN0, tNm, if_pos, if_neg, zI_sI, zI_sJ, zI_sR, zJ_sI, zJ_sJ, zJ_sR, zR_sI, zR_sJ, zR_sR, zK_sI, zK_sJ, zK_sR, zL_sI, zL_sJ, zL_sR, zI_aI, zJ_aI, zR_aI, zK_aI, zL_aI, z2_at, z2_a, z2_k, z1_self, z1_ne, true_and, and_true, bIt, bIf, Bool.false_eq_true, Bool.true_eq_false, eq_self, not_true_eq_false, not_false_eq_true, ↓bd_of a2, a16.fK, a16.f5]
    have hk : kX6_rowAt_21 h 42 (iI ((x * pcn t + i : Nat) : Int)) 1 (iI (tsh t)) (zaI h 47 (afill (tsh t) (fun j => iI (hc t x (plc t i j))) (zI h 47))) = some (iI ((crS t x i * tT t : Nat) : Int), zsI (zaI h 47 (afill (tsh t) (fun j => iI (hc t x (plc t i j))) (zI h 47))) CR (x * pcn t + i) (iI ((crS t x i + 1 : Nat) : Int))) := by
      unfold kX6_rowAt_21
      have e5 : (1 : Int) + (rowN (tn t) (fun j => hc t x (plc t i j)) (tsh t) : Int) = ((crS t x i + 1 : Nat) : Int) := by unfold crS; omega
      generalize x * pcn t + i = a at *
      simp (maxSteps := 1000000) (disch := (first | assumption | exact ne_b rfl | omega)) only [↓reduceIte, ↓zlet_eq, ↓bdR_sI, ↓bdR_sJ, ↓bdR_aI, zc2_some, Option.bind_some, ↓si_m1, ↓si_m2, ↓si_m3, iI_lit, iI_add, iI_sub, iI_mul, leT, leF, ltT, ltF, eqT, eqF, zinT, clI, Int.toNat_natCast, Int.reduceToNat, tN1, tNa, tN0, tNm, if_pos, if_neg, zI_sI, zI_sJ, zI_sR, zJ_sI, zJ_sJ, zJ_sR, zR_sI, zR_sJ, zR_sR, zK_sI, zK_sJ, zK_sR, zL_sI, zL_sJ, zL_sR, zI_aI, zJ_aI, zR_aI, zK_aI, zL_aI, z2_at, z2_a, z2_k, z1_self, z1_ne, true_and, and_true, bIt, bIf, Bool.false_eq_true, Bool.true_eq_false, eq_self, not_true_eq_false, not_false_eq_true, sK0, sK1, sK2, sK3, sK4, sK5, sK6, sK7, sK8, sK9, sK10, sK11, sK12, sK13, sK14, sK15, sK16, sK17, sK18, sK19, sK20, sK21, sK22, sK23, sK24, sK25, sK26, sK27, sK28, sK29, sK30, sK31, sK32, sK33, sK34, sK35, sK36, sK37, sK38, sK39, sK40, sK41, sK42, sK43, sK44, sK45, sK46, sK47, sK48, sK49, sK50, sK51, sK52, sK53, sK54, sK55, sK56, sK57, sK58, sK59, sK60, sK61, sK62, sK63, sK64, sK65, sK66, sK67, sK68, sK69, sK70, sK71, sK72, sK73, sK74, sK75, sL1, sL3, sL6, sL8, sL9, sL10, sL11, sL12, sL15, sL17, sL18, sL21, sL23, sL24, sL26, sL29, sL31, sL32, sL34, sL36, sL37, sL39, sL40, sL41, sL43, sL45, sL46, sL47, sL48, sL49, sL50, sL51, sL52, sL53, sL55, sL57, sL59, sL61, sL62, sL63, sL64, sL65, sL67, sL68, sL70, sL71, sL73, sL74, sL75, sR0_0, sR0_2, sR0_5, sR0_6, sR0_11, sR2_5, sR2_6, sR2_7, sR4_1, sR4_2, sR4_4, sR7_0, sR7_1, sR13_1, sR13_2, sR13_4, sR16_0, sR16_1, sR19_1, sR19_2, sR19_4, sR22_0, sR22_1, sR25_0, sR25_2, sR25_3, sR25_4, sR25_5, sR25_6, sR25_7, sR25_8, sR25_10, sR27_1, sR27_2, sR27_4, sR30_0, sR30_1, sR33_0, sR35_0, sR35_1, sR38_0, sR38_1, sR38_2, sR42_0, sR42_5, sR42_7, sR42_11, sR42_12, sR42_13, sR53_0, sR53_1, sR53_2, sR53_3, sR54_1, sR56_1, sR58_1, sR60_1, sR65_0, sR65_1, sR65_2, sR66_0, sR66_1, sR69_0, sR69_1, sR72_0, sR72_1, ↓sB0_0, ↓sB0_2, ↓sB0_5, ↓sB0_6, ↓sB0_11, ↓sB2_5, ↓sB2_6, ↓sB2_7, ↓sB4_1, ↓sB4_2, ↓sB4_4, ↓sB7_0, ↓sB7_1, ↓sB13_1, ↓sB13_2, ↓sB13_4, ↓sB16_0, ↓sB16_1, ↓sB19_1, ↓sB19_2, ↓sB19_4, ↓sB22_0, ↓sB22_1, ↓sB25_0, ↓sB25_2, ↓sB25_3, ↓sB25_4, ↓sB25_5, ↓sB25_6, ↓sB25_7, ↓sB25_8, ↓sB25_10, ↓sB27_1, ↓sB27_2, ↓sB27_4, ↓sB30_0, ↓sB30_1, ↓sB33_0, ↓sB35_0, ↓sB35_1, ↓sB38_0, ↓sB38_1, ↓sB38_2, ↓sB42_0, ↓sB42_5, ↓sB42_7, ↓sB42_11, ↓sB42_12, ↓sB42_13, ↓sB53_0, ↓sB53_1, ↓sB53_2, ↓sB53_3, ↓sB54_1, ↓sB56_1, ↓sB58_1, ↓sB60_1, ↓sB65_0, ↓sB65_1, ↓sB65_2, ↓sB66_0, ↓sB66_1, ↓sB69_0, ↓sB69_1, ↓sB72_0, ↓sB72_1, ↓bd_of a4, ↓bd_of a2, a16.fK, a16.f5, er, e5, a6, he]
    unfold fX6_rowAt
    generalize x * pcn t + i = a at *
    simp (maxSteps := 1000000) (disch := (first | assumption | exact ne_b rfl | omega)) only [↓reduceIte, ↓zlet_eq, ↓bdR_sI, ↓bdR_sJ, ↓bdR_aI, zc2_some, Option.bind_some, ↓si_m1, ↓si_m2, ↓si_m3, iI_lit, iI_add, iI_sub, iI_mul, leT, leF, ltT, ltF, eqT, eqF, zinT, clI, Int.toNat_natCast, Int.reduceToNat, tN1, tNa, tN0, tNm, if_pos, if_neg, zI_sI, zI_sJ, zI_sR, zJ_sI, zJ_sJ, zJ_sR, zR_sI, zR_sJ, zR_sR, zK_sI, zK_sJ, zK_sR, zL_sI, zL_sJ, zL_sR, zI_aI, zJ_aI, zR_aI, zK_aI, zL_aI, z2_at, z2_a, z2_k, z1_self, z1_ne, true_and, and_true, bIt, bIf, Bool.false_eq_true, Bool.true_eq_false, eq_self, not_true_eq_false, not_false_eq_true, sK0, sK1, sK2, sK3, sK4, sK5, sK6, sK7, sK8, sK9, sK10, sK11, sK12, sK13, sK14, sK15, sK16, sK17, sK18, sK19, sK20, sK21, sK22, sK23, sK24, sK25, sK26, sK27, sK28, sK29, sK30, sK31, sK32, sK33, sK34, sK35, sK36, sK37, sK38, sK39, sK40, sK41, sK42, sK43, sK44, sK45, sK46, sK47, sK48, sK49, sK50, sK51, sK52, sK53, sK54, sK55, sK56, sK57, sK58, sK59, sK60, sK61, sK62, sK63, sK64, sK65, sK66, sK67, sK68, sK69, sK70, sK71, sK72, sK73, sK74, sK75, sL1, sL3, sL6, sL8, sL9, sL10, sL11, sL12, sL15, sL17, sL18, sL21, sL23, sL24, sL26, sL29, sL31, sL32, sL34, sL36, sL37, sL39, sL40, sL41, sL43, sL45, sL46, sL47, sL48, sL49, sL50, sL51, sL52, sL53, sL55, sL57, sL59, sL61, sL62, sL63, sL64, sL65, sL67, sL68, sL70, sL71, sL73, sL74, sL75, sR0_0, sR0_2, sR0_5, sR0_6, sR0_11, sR2_5, sR2_6, sR2_7, sR4_1, sR4_2, sR4_4, sR7_0, sR7_1, sR13_1, sR13_2, sR13_4, sR16_0, sR16_1, sR19_1, sR19_2, sR19_4, sR22_0, sR22_1, sR25_0, sR25_2, sR25_3, sR25_4, sR25_5, sR25_6, sR25_7, sR25_8, sR25_10, sR27_1, sR27_2, sR27_4, sR30_0, sR30_1, sR33_0, sR35_0, sR35_1, sR38_0, sR38_1, sR38_2, sR42_0, sR42_5, sR42_7, sR42_11, sR42_12, sR42_13, sR53_0, sR53_1, sR53_2, sR53_3, sR54_1, sR56_1, sR58_1, sR60_1, sR65_0, sR65_1, sR65_2, sR66_0, sR66_1, sR69_0, sR69_1, sR72_0, sR72_1, ↓sB0_0, ↓sB0_2, ↓sB0_5, ↓sB0_6, ↓sB0_11, ↓sB2_5, ↓sB2_6, ↓sB2_7, ↓sB4_1, ↓sB4_2, ↓sB4_4, ↓sB7_0, ↓sB7_1, ↓sB13_1, ↓sB13_2, ↓sB13_4, ↓sB16_0, ↓sB16_1, ↓sB19_1, ↓sB19_2, ↓sB19_4, ↓sB22_0, ↓sB22_1, ↓sB25_0, ↓sB25_2, ↓sB25_3, ↓sB25_4, ↓sB25_5, ↓sB25_6, ↓sB25_7, ↓sB25_8, ↓sB25_10, ↓sB27_1, ↓sB27_2, ↓sB27_4, ↓sB30_0, ↓sB30_1, ↓sB33_0, ↓sB35_0, ↓sB35_1, ↓sB38_0, ↓sB38_1, ↓sB38_2, ↓sB42_0, ↓sB42_5, ↓sB42_7, ↓sB42_11, ↓sB42_12, ↓sB42_13, ↓sB53_0, ↓sB53_1, ↓sB53_2, ↓sB53_3, ↓sB54_1, ↓sB56_1, ↓sB58_1, ↓sB60_1, ↓sB65_0, ↓sB65_1, ↓sB65_2, ↓sB66_0, ↓sB66_1, ↓sB69_0, ↓sB69_1, ↓sB72_0, ↓sB72_1, a18, e2, ↓bd_of a4, a6, e]
    exact (lp_bd hl).trans hk
  · rw [zI_sI]
    funext j
    rw [show zI (zaI h 47 (afill (tsh t) (fun j => iI (hc t x (plc t i j))) (zI h 47))) = z1 (zI h) 47 (afill (tsh t) (fun j => iI (hc t x (plc t i j))) (zI h 47)) from rfl]
    by_cases c : j = x * pcn t + i
    · rw [c, z2_at, z1_self]
    · rw [z2_k _ _ _ c, z1_ne _ _ c, z1_ne _ _ nc47]
