/-! the class's pairing: its rows made ready -/
theorem fJ7_fill_eq {r : Nat} {v : Int} {h : Zh} (k1 : zK h r = 100) (hL : zL h r < 2147483648) : fJ7_fill_53178 r (iI v) h = some (zaI h r (afill (zL h r) (fun _ => iI v) (zI h r))) := by
  unfold fJ7_fill_53178
  simp (maxSteps := 1000000) (disch := (first | assumption | exact ne_b rfl | omega)) only [↓reduceIte, ↓zlet_eq, ↓bdR_sI, ↓bdR_sJ, ↓bdR_aI, zc2_some, Option.bind_some, ↓si_m1, ↓si_m2, ↓si_m3, iI_lit, iI_add, iI_sub, iI_mul, leT, leF, ltT, ltF, eqT, eqF, zinT, clI, Int.toNat_natCast, Int.reduceToNat, tN1, tNa, tN0, tNm, if_pos, if_neg, zI_sI, zI_sJ, zI_sR, zJ_sI, zJ_sJ, zJ_sR, zR_sI, zR_sJ, zR_sR, zK_sI, zK_sJ, zK_sR, zL_sI, zL_sJ, zL_sR, zI_aI, zJ_aI, zR_aI, zK_aI, zL_aI, z2_at, z2_a, z2_k, z1_self, z1_ne, true_and, and_true, bIt, bIf, Bool.false_eq_true, Bool.true_eq_false, eq_self, not_true_eq_false, not_false_eq_true, k1, si_ofN]
  refine (lp_fb (st := fun i => ((iI (i : Int), zaI h r (afill i (fun _ => iI v) (zI h r))) : Int32 × Zh)) (e := 0) (s' := (iI (zL h r), zaI h r (afill (zL h r) (fun _ => iI v) (zI h r)))) (zL h r) (by rw [zaI_f0]; rfl) (by omega) ?_ ?_).trans rfl
  · intro i hi
    show bJ7_fill_53178_5 h r (iI v) (iI (zL h r)) (iI i) (zaI h r _) = _
    unfold bJ7_fill_53178_5
    simp (maxSteps := 1000000) (disch := (first | assumption | exact ne_b rfl | omega)) only [↓reduceIte, ↓zlet_eq, ↓bdR_sI, ↓bdR_sJ, ↓bdR_aI, zc2_some, Option.bind_some, ↓si_m1, ↓si_m2, ↓si_m3, iI_lit, iI_add, iI_sub, iI_mul, leT, leF, ltT, ltF, eqT, eqF, zinT, clI, Int.toNat_natCast, Int.reduceToNat, tN1, tNa, tN0, tNm, if_pos, if_neg, zI_sI, zI_sJ, zI_sR, zJ_sI, zJ_sJ, zJ_sR, zR_sI, zR_sJ, zR_sR, zK_sI, zK_sJ, zK_sR, zL_sI, zL_sJ, zL_sR, zI_aI, zJ_aI, zR_aI, zK_aI, zL_aI, z2_at, z2_a, z2_k, z1_self, z1_ne, true_and, and_true, bIt, bIf, Bool.false_eq_true, Bool.true_eq_false, eq_self, not_true_eq_false, not_false_eq_true, zsI_aI]
    rw [afill_s (i := i) (A := fun _ => iI v) rfl]
    rfl
  · show bJ7_fill_53178_5 h r (iI v) (iI (zL h r)) (iI (zL h r)) (zaI h r _) = _
    unfold bJ7_fill_53178_5
    simp (maxSteps := 1000000) (disch := (first | assumption | exact ne_b rfl | omega)) only [↓reduceIte, ↓zlet_eq, ↓bdR_sI, ↓bdR_sJ, ↓bdR_aI, zc2_some, Option.bind_some, ↓si_m1, ↓si_m2, ↓si_m3, iI_lit, iI_add, iI_sub, iI_mul, leT, leF, ltT, ltF, eqT, eqF, zinT, clI, Int.toNat_natCast, Int.reduceToNat, tN1, tNa, tN0, tNm, if_pos, if_neg, zI_sI, zI_sJ, zI_sR, zJ_sI, zJ_sJ, zJ_sR, zR_sI, zR_sJ, zR_sR, zK_sI, zK_sJ, zK_sR, zL_sI, zL_sJ, zL_sR, zI_aI, zJ_aI, zR_aI, zK_aI, zL_aI, z2_at, z2_a, z2_k, z1_self, z1_ne, true_and, and_true, bIt, bIf, Bool.false_eq_true, Bool.true_eq_false, eq_self, not_true_eq_false, not_false_eq_true]
theorem sortRows_in {t : Tk} {d CR OW f i c : Nat} {s : Nat → Nat} {B : Nat → Int32} {g h : Zh} (pg : PX g t d CR OW) (hR : zR h 42 8 = some CR) (hfi : f + i < zL g CR) (hL : zL g CR < 2147483648) (hc : c < 2147483648) (hs : ∀ j, j < i → B (f + j) = iI (s j) ∧ s j < 2147483648) : lp (fun q : Int32 × Zh => bX6_sortRows_39 g 42 (iI f) (iI c) q.1 q.2) zB (iI ((f + i : Nat) : Int), zaI h CR B) = some (1, (iI ((f + insP s c i : Nat) : Int), zaI h CR (fun a => if f + insP s c i < a ∧ a ≤ f + i then B (a - 1) else B a))) := by
  have hk : zK g CR = 100 := pg.2.2.2.2.2.1
  obtain ⟨p1, p2, p3⟩ := insP_ok (s := s) (c := c) i
  generalize insP s c i = p at p1 p2 p3
  refine lp_for0 (st := fun e => ((iI ((f + i - e : Nat) : Int), zaI h CR (fun a => if f + i - e < a ∧ a ≤ f + i then B (a - 1) else B a)) : Int32 × Zh)) (e := 0) (i - p) ?_ (by omega) ?_ ?_
  · congr 2
    funext a
    rw [if_neg (by omega)]
  · intro e he
    show bX6_sortRows_39 g 42 (iI f) (iI c) (iI ((f + i - e : Nat) : Int)) (zaI h CR _) = _
    unfold bX6_sortRows_39
    have e1 : ((f + i - e : Nat) : Int) - 1 = ((f + (i - e - 1) : Nat) : Int) := by omega
    have q1 := p2 (i - e - 1) (by omega) (by omega)
    obtain ⟨q2, q3⟩ := hs (i - e - 1) (by omega)
    have e3 : ¬ (f + i - e < f + (i - e - 1) ∧ f + (i - e - 1) ≤ f + i) := by omega
    simp (maxSteps := 1000000) (disch := (first | assumption | exact ne_b rfl | omega)) only [↓reduceIte, ↓zlet_eq, ↓bdR_sI, ↓bdR_sJ, ↓bdR_aI, zc2_some, Option.bind_some, ↓si_m1, ↓si_m2, ↓si_m3, iI_lit, iI_add, iI_sub, iI_mul, leT, leF, ltT, ltF, eqT, eqF, zinT, clI, Int.toNat_natCast, Int.reduceToNat, tN1, tNa, tN0, tNm, if_pos, if_neg, zI_sI, zI_sJ, zI_sR, zJ_sI, zJ_sJ, zJ_sR, zR_sI, zR_sJ, zR_sR, zK_sI, zK_sJ, zK_sR, zL_sI, zL_sJ, zL_sR, zI_aI, zJ_aI, zR_aI, zK_aI, zL_aI, z2_at, z2_a, z2_k, z1_self, z1_ne, true_and, and_true, bIt, bIf, Bool.false_eq_true, Bool.true_eq_false, eq_self, not_true_eq_false, not_false_eq_true, ↓bd_of hR, hk, e1, e3, q2, zsI_aI]
    rw [show ((f + i - e : Nat) : Int) + -1 = ((f + i - (e + 1) : Nat) : Int) by omega]
    congr 4
    funext a
    unfold z1
    dsimp only
    by_cases c1 : a = f + i - e
    · rw [if_pos c1, if_pos (by omega), c1, show f + i - e - 1 = f + (i - e - 1) by omega, q2]
    · rw [if_neg c1]
      by_cases c2 : f + i - e < a ∧ a ≤ f + i
      · rw [if_pos c2, if_pos (by omega)]
      · rw [if_neg c2, if_neg (by omega)]
  · show bX6_sortRows_39 g 42 (iI f) (iI c) (iI ((f + i - (i - p) : Nat) : Int)) (zaI h CR _) = _
    unfold bX6_sortRows_39
    rw [show f + i - (i - p) = f + p by omega]
    by_cases c0 : p = 0
    · rw [c0]
      simp (maxSteps := 1000000) (disch := (first | assumption | exact ne_b rfl | omega)) only [↓reduceIte, ↓zlet_eq, ↓bdR_sI, ↓bdR_sJ, ↓bdR_aI, zc2_some, Option.bind_some, ↓si_m1, ↓si_m2, ↓si_m3, iI_lit, iI_add, iI_sub, iI_mul, leT, leF, ltT, ltF, eqT, eqF, zinT, clI, Int.toNat_natCast, Int.reduceToNat, tN1, tNa, tN0, tNm, if_pos, if_neg, zI_sI, zI_sJ, zI_sR, zJ_sI, zJ_sJ, zJ_sR, zR_sI, zR_sJ, zR_sR, zK_sI, zK_sJ, zK_sR, zL_sI, zL_sJ, zL_sR, zI_aI, zJ_aI, zR_aI, zK_aI, zL_aI, z2_at, z2_a, z2_k, z1_self, z1_ne, true_and, and_true, bIt, bIf, Bool.false_eq_true, Bool.true_eq_false, eq_self, not_true_eq_false, not_false_eq_true]
    · have e1 : ((f + p : Nat) : Int) - 1 = ((f + (p - 1) : Nat) : Int) := by omega
      have q1 := p3 (by omega)
      obtain ⟨q2, q3⟩ := hs (p - 1) (by omega)
      have e3 : ¬ (f + p < f + (p - 1) ∧ f + (p - 1) ≤ f + i) := by omega
      simp (maxSteps := 1000000) (disch := (first | assumption | exact ne_b rfl | omega)) only [↓reduceIte, ↓zlet_eq, ↓bdR_sI, ↓bdR_sJ, ↓bdR_aI, zc2_some, Option.bind_some, ↓si_m1, ↓si_m2, ↓si_m3, iI_lit, iI_add, iI_sub, iI_mul, leT, leF, ltT, ltF, eqT, eqF, zinT, clI, Int.toNat_natCast, Int.reduceToNat, tN1, tNa, tN0, tNm, if_pos, if_neg, zI_sI, zI_sJ, zI_sR, zJ_sI, zJ_sJ, zJ_sR, zR_sI, zR_sJ, zR_sR, zK_sI, zK_sJ, zK_sR, zL_sI, zL_sJ, zL_sR, zI_aI, zJ_aI, zR_aI, zK_aI, zL_aI, z2_at, z2_a, z2_k, z1_self, z1_ne, true_and, and_true, bIt, bIf, Bool.false_eq_true, Bool.true_eq_false, eq_self, not_true_eq_false, not_false_eq_true, ↓bd_of hR, hk, e1, e3, q2]
theorem fX6_sortRows_eq {h : Zh} {t : Tk} {d CR OW x : Nat} (p : PX h t d CR OW) (tok : Tok t) (hst : tst t = true) (hx : x < tH t) (hz : ∀ i, i < pcn t → zI h CR (x * pcn t + i) = iI 0) : ∃ h', fX6_sortRows 42 (iI x) h = some h' ∧ Fm [47, CR] h h' ∧ (∀ a, ¬ (x * pcn t ≤ a ∧ a < x * pcn t + pcn t) → zI h' CR a = zI h CR a) ∧ ∀ i, i < pcn t → zI h' CR (x * pcn t + i) = iI ((crC t x i + 1 : Nat) : Int) := by
  obtain ⟨bn4, bn12, bu1, bu4, bnu, bk2, bk5, bkn, bp1, bp2, bpk, bH, bsp, bs1, bs4, bT1, bT16, bR1, bR2, bH1, bff, bff1⟩ := tok.b
  have hpb := pcn_b tok
  have a13 := p.2.2.2.2.2.2.2.2.2.2.2.2.1
  have a14 := p.2.2.2.2.2.2.2.2.2.2.2.2.2.1
  have a15 := p.2.2.2.2.2.2.2.2.2.2.2.2.2.2.1
  have m26 : (26 : Nat) ∉ [47, CR] := by simp; omega
  have m46 : (46 : Nat) ∉ [47, CR] := by simp; omega
  have md : d ∉ [47, CR] := by simp; omega
  have m42 : (42 : Nat) ∉ [47, CR] := by simp; omega
  have hd : dst (fun i => crS t x i + 1) (pcn t) := fun a b h1 h2 e => crS_ne tok hx h1 h2 (by simpa using e)
  have hall : x * pcn t + pcn t ≤ zL h CR := by
    have h1 : (x + 1) * pcn t ≤ tH t * pcn t := Nat.mul_le_mul_right _ hx
    rw [Nat.add_mul, Nat.one_mul] at h1
    exact Nat.le_trans h1 p.2.2.2.2.2.2.2.1
  have hL := p.2.2.2.2.2.2.2.2.2.1
  have hsl : ∀ i, i ≤ pcn t → ∀ j, j < i → srt (fun i => crS t x i + 1) i j < 20000 := fun i hi => srt_lt (hd.le hi) (fun j hj => by have := crS_lt tok hx (show j < pcn t by omega); omega)
  clear a13 a14 a15
  have := lp_cnt (body := fun q : Int32 × Zh => bX6_sortRows_9 h 42 (iI x) (iI ((x * pcn t : Nat) : Int)) q.1 q.2) (pcn t) (fun i z => ∃ h1, z = ((iI (i : Int), h1) : Int32 × Zh) ∧ Fm [47, CR] h h1 ∧ (∀ a, ¬ (x * pcn t ≤ a ∧ a < x * pcn t + pcn t) → zI h1 CR a = zI h CR a) ∧ (∀ j, j < i → zI h1 CR (x * pcn t + j) = iI (srt (fun i => crS t x i + 1) i j)) ∧ ∀ j, i ≤ j → j < pcn t → zI h1 CR (x * pcn t + j) = iI 0) (fun e z => e = 1 ∧ ∃ h1, z.2 = h1 ∧ Fm [47, CR] h h1 ∧ (∀ a, ¬ (x * pcn t ≤ a ∧ a < x * pcn t + pcn t) → zI h1 CR a = zI h CR a) ∧ (∀ j, j < pcn t → zI h1 CR (x * pcn t + j) = iI (srt (fun i => crS t x i + 1) (pcn t) j))) ?_ ?_ (by omega) (s := (iI 0, h)) ⟨h, rfl, Fm.rf, fun _ _ => rfl, fun j hj => by omega, fun j _ hj => hz j hj⟩
  · obtain ⟨e, z, l1, l2, h1, l3, l4, l5, l6⟩ := this
    have e0 : e = 0 := by omega
    subst e0
    refine ⟨h1, ?_, l4, l5, fun i hi => ?_⟩
    · have p18 : zI h 42 6 = iI (pcn t) := p.2.2.2.2.2.2.2.2.2.2.2.2.2.2.2.2.2.1
      have s0 := p.1
      have em : (x : Int) * (pcn t : Int) = ((x * pcn t : Nat) : Int) := by rw [Int.natCast_mul]
      unfold fX6_sortRows
      simp (maxSteps := 1000000) (disch := (first | assumption | exact ne_b rfl | omega)) only [↓reduceIte, ↓zlet_eq, ↓bdR_sI, ↓bdR_sJ, ↓bdR_aI, zc2_some, Option.bind_some, ↓si_m1, ↓si_m2, ↓si_m3, iI_lit, iI_add, iI_sub, iI_mul, leT, leF, ltT, ltF, eqT, eqF, zinT, clI, Int.toNat_natCast, Int.reduceToNat, tN1, tNa, tN0, tNm, if_pos, if_neg, zI_sI, zI_sJ, zI_sR, zJ_sI, zJ_sJ, zJ_sR, zR_sI, zR_sJ, zR_sR, zK_sI, zK_sJ, zK_sR, zL_sI, zL_sJ, zL_sR, zI_aI, zJ_aI, zR_aI, zK_aI, zL_aI, z2_at, z2_a, z2_k, z1_self, z1_ne, true_and, and_true, bIt, bIf, Bool.false_eq_true, Bool.true_eq_false, eq_self, not_true_eq_false, not_false_eq_true, sK0, sK1, sK2, sK3, sK4, sK5, sK6, sK7, sK8, sK9, sK10, sK11, sK12, sK13, sK14, sK15, sK16, sK17, sK18, sK19, sK20, sK21, sK22, sK23, sK24, sK25, sK26, sK27, sK28, sK29, sK30, sK31, sK32, sK33, sK34, sK35, sK36, sK37, sK38, sK39, sK40, sK41, sK42, sK43, sK44, sK45, sK46, sK47, sK48, sK49, sK50, sK51, sK52, sK53, sK54, sK55, sK56, sK57, sK58, sK59, sK60, sK61, sK62, sK63, sK64, sK65, sK66, sK67, sK68, sK69, sK70, sK71, sK72, sK73, sK74, sK75, sL1, sL3, sL6, sL8, sL9, sL10, sL11, sL12, sL15, sL17, sL18, sL21, sL23, sL24, sL26, sL29, sL31, sL32, sL34, sL36, sL37, sL39, sL40, sL41, sL43, sL45, sL46, sL47, sL48, sL49, sL50, sL51, sL52, sL53, sL55, sL57, sL59, sL61, sL62, sL63, sL64, sL65, sL67, sL68, sL70, sL71, sL73, sL74, sL75, sR0_0, sR0_2, sR0_5, sR0_6, sR0_11, sR2_5, sR2_6, sR2_7, sR4_1, sR4_2, sR4_4, sR7_0, sR7_1, sR13_1, sR13_2, sR13_4, sR16_0, sR16_1, sR19_1, sR19_2, sR19_4, sR22_0, sR22_1, sR25_0, sR25_2, sR25_3, sR25_4, sR25_5, sR25_6, sR25_7, sR25_8, sR25_10, sR27_1, sR27_2, sR27_4, sR30_0, sR30_1, sR33_0, sR35_0, sR35_1, sR38_0, sR38_1, sR38_2, sR42_0, sR42_5, sR42_7, sR42_11, sR42_12, sR42_13, sR53_0, sR53_1, sR53_2, sR53_3, sR54_1, sR56_1, sR58_1, sR60_1, sR65_0, sR65_1, sR65_2, sR66_0, sR66_1, sR69_0, sR69_1, sR72_0, sR72_1, ↓sB0_0, ↓sB0_2, ↓sB0_5, ↓sB0_6, ↓sB0_11, ↓sB2_5, ↓sB2_6, ↓sB2_7, ↓sB4_1, ↓sB4_2, ↓sB4_4, ↓sB7_0, ↓sB7_1, ↓sB13_1, ↓sB13_2, ↓sB13_4, ↓sB16_0, ↓sB16_1, ↓sB19_1, ↓sB19_2, ↓sB19_4, ↓sB22_0, ↓sB22_1, ↓sB25_0, ↓sB25_2, ↓sB25_3, ↓sB25_4, ↓sB25_5, ↓sB25_6, ↓sB25_7, ↓sB25_8, ↓sB25_10, ↓sB27_1, ↓sB27_2, ↓sB27_4, ↓sB30_0, ↓sB30_1, ↓sB33_0, ↓sB35_0, ↓sB35_1, ↓sB38_0, ↓sB38_1, ↓sB38_2, ↓sB42_0, ↓sB42_5, ↓sB42_7, ↓sB42_11, ↓sB42_12, ↓sB42_13, ↓sB53_0, ↓sB53_1, ↓sB53_2, ↓sB53_3, ↓sB54_1, ↓sB56_1, ↓sB58_1, ↓sB60_1, ↓sB65_0, ↓sB65_1, ↓sB65_2, ↓sB66_0, ↓sB66_1, ↓sB69_0, ↓sB69_1, ↓sB72_0, ↓sB72_1, p18, em]
      refine (lp_bd l1).trans ?_
      show some z.2 = _
      rw [l3]
    · rw [l6 i hi, (crC_st tok hst hx).2.1 i hi]
  · intro i z hi ⟨h1, ez, fm, k1, k2, k3⟩
    subst ez
    refine Or.inl ?_
    show ∃ s', bX6_sortRows_9 h 42 (iI x) (iI ((x * pcn t : Nat) : Int)) (iI i) h1 = some (0, s') ∧ _
    have q1 := p.fm fm m26 m46 md (by rw [fm.I m42])
    obtain ⟨h2, r1, r2, r3⟩ := rowAt_z q1 tok hx hi (k3 i (Nat.le_refl _) hi)
    have q2 := q1.fm r2 m26 m46 md (by rw [r2.I m42])
    have q2R : zR h2 42 8 = some CR := q2.2.2.2.1
    have q18 : zI h1 42 6 = iI (pcn t) := q1.2.2.2.2.2.2.2.2.2.2.2.2.2.2.2.2.2.1
    have hk : zK h CR = 100 := p.2.2.2.2.2.1
    have hcl := crS_lt tok hx hi
    have hself : zaI h2 CR (zI h2 CR) = h2 := zaI_self _ _
    have hin := sortRows_in (g := h) (h := h2) (f := x * pcn t) (i := i) (c := crS t x i + 1) (s := srt (fun i => crS t x i + 1) i) (B := zI h2 CR) p q2R (by omega) hL (by omega) (fun j hj => ⟨by rw [r3, z1_ne _ _ (by omega)]; exact k2 j hj, by have := hsl i (by omega) j hj; omega⟩)
    rw [hself] at hin
    have pp := (insP_ok (s := srt (fun i => crS t x i + 1) i) (c := crS t x i + 1) i).1
    have hv : zI h2 CR (x * pcn t + i) = iI ((crS t x i + 1 : Nat) : Int) := by rw [r3, z1_self]
    refine ⟨(iI ((i + 1 : Nat) : Int), zsI (zaI h2 CR (fun a => if x * pcn t + insP (srt (fun i => crS t x i + 1) i) (crS t x i + 1) i < a ∧ a ≤ x * pcn t + i then zI h2 CR (a - 1) else zI h2 CR a)) CR (x * pcn t + insP (srt (fun i => crS t x i + 1) i) (crS t x i + 1) i) (iI ((crS t x i + 1 : Nat) : Int))), ?_, _, rfl, (fm.tr r2).tr ((Fm_aI _ _ (by simp)).tr (Fm_sI _ _ _ (by simp))), fun a ha => ?_, fun j hj => ?_, fun j h3 h4 => ?_⟩
    · have hin2 : lp (fun q : Int32 × Zh => bX6_sortRows_39 h 42 (iI ((x * pcn t : Nat) : Int)) (iI ((crS t x i + 1 : Nat) : Int)) q.1 q.2) zB (iI ((x * pcn t + i : Nat) : Int), h2) = _ := hin
      have em : ((x * pcn t : Nat) : Int) + (i : Int) = ((x * pcn t + i : Nat) : Int) := by omega
      unfold bX6_sortRows_9
      generalize x * pcn t = f at *
      simp (maxSteps := 1000000) (disch := (first | assumption | exact ne_b rfl | omega)) only [↓reduceIte, ↓zlet_eq, ↓bdR_sI, ↓bdR_sJ, ↓bdR_aI, zc2_some, Option.bind_some, ↓si_m1, ↓si_m2, ↓si_m3, iI_lit, iI_add, iI_sub, iI_mul, leT, leF, ltT, ltF, eqT, eqF, zinT, clI, Int.toNat_natCast, Int.reduceToNat, tN1, tNa, tN0, tNm, if_pos, if_neg, zI_sI, zI_sJ, zI_sR, zJ_sI, zJ_sJ, zJ_sR, zR_sI, zR_sJ, zR_sR, zK_sI, zK_sJ, zK_sR, zL_sI, zL_sJ, zL_sR, zI_aI, zJ_aI, zR_aI, zK_aI, zL_aI, z2_at, z2_a, z2_k, z1_self, z1_ne, true_and, and_true, bIt, bIf, Bool.false_eq_true, Bool.true_eq_false, eq_self, not_true_eq_false, not_false_eq_true, q18, ↓zc_of r1, ↓bd_of q2R, hk, em, hv]
      refine (lp_bd hin2).trans ?_
      show kX6_sortRows_39 h 42 (iI x) (iI f) (iI i) (iI ((crS t x i + 1 : Nat) : Int)) 1 (iI ((f + insP (srt (fun i => crS t x i + 1) i) (crS t x i + 1) i : Nat) : Int)) (zaI h2 CR _) = _
      unfold kX6_sortRows_39
      simp (maxSteps := 1000000) (disch := (first | assumption | exact ne_b rfl | omega)) only [↓reduceIte, ↓zlet_eq, ↓bdR_sI, ↓bdR_sJ, ↓bdR_aI, zc2_some, Option.bind_some, ↓si_m1, ↓si_m2, ↓si_m3, iI_lit, iI_add, iI_sub, iI_mul, leT, leF, ltT, ltF, eqT, eqF, zinT, clI, Int.toNat_natCast, Int.reduceToNat, tN1, tNa, tN0, tNm, if_pos, if_neg, zI_sI, zI_sJ, zI_sR, zJ_sI, zJ_sJ, zJ_sR, zR_sI, zR_sJ, zR_sR, zK_sI, zK_sJ, zK_sR, zL_sI, zL_sJ, zL_sR, zI_aI, zJ_aI, zR_aI, zK_aI, zL_aI, z2_at, z2_a, z2_k, z1_self, z1_ne, true_and, and_true, bIt, bIf, Bool.false_eq_true, Bool.true_eq_false, eq_self, not_true_eq_false, not_false_eq_true, ↓bd_of q2R, hk]
      rfl
    · rw [zI_sI, z2_k _ _ _ (by omega), zI_aI, z1_self]
      rw [if_neg (by omega), r3, z1_ne _ _ (by omega)]
      exact k1 a ha
    · rw [srt, zI_sI]
      generalize insP (srt (fun i => crS t x i + 1) i) (crS t x i + 1) i = q at *
      unfold insA
      by_cases c1 : j = q
      · rw [c1, z2_at, if_neg (by omega), if_pos rfl]
      · rw [z2_k _ _ _ (by omega), zI_aI, z1_self]
        by_cases c2 : j < q
        · rw [if_neg (by omega), if_pos c2, r3, z1_ne _ _ (by omega)]
          exact k2 j (by omega)
        · rw [if_pos (by omega), if_neg c2, if_neg c1, r3, z1_ne _ _ (by omega), show x * pcn t + j - 1 = x * pcn t + (j - 1) by omega]
          exact k2 (j - 1) (by omega)
    · rw [zI_sI, z2_k _ _ _ (by omega), zI_aI, z1_self]
      rw [if_neg (by omega), r3, z1_ne _ _ (by omega)]
      exact k3 j (by omega) h4
  · intro z ⟨h1, ez, fm, k1, k2, k3⟩
    subst ez
    have q1 := p.fm fm m26 m46 md (by rw [fm.I m42])
    have q18 : zI h1 42 6 = iI (pcn t) := q1.2.2.2.2.2.2.2.2.2.2.2.2.2.2.2.2.2.1
    refine ⟨0, (iI (pcn t), h1), ?_, rfl, h1, rfl, fm, k1, k2⟩
    show bX6_sortRows_9 h 42 (iI x) _ (iI (pcn t)) h1 = _
    unfold bX6_sortRows_9
    rw [q18, if_pos (by rw [iI_le ⟨by omega, by omega⟩ ⟨by omega, by omega⟩]; omega)]
