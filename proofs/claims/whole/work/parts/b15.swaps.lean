/-! the ledger: rows by which a change is seen, or borne -/
/-- the set holds no more than there are rows to hold -/
theorem ocn_cnS {p : Nat → Bool} : ∀ n, ocn p n = cnS p n
  | 0 => rfl
  | n + 1 => by
    show ocn p n + _ = cnS p n + _
    rw [ocn_cnS n]
theorem RS.cnt {h : Zh} {f : Nat → Option Int} {c sp R : Nat} (q : RS h f c sp) (hf : ∀ r, (f r).isSome = true → r < R) : c ≤ R := by
  obtain ⟨-, -, M, hs, stp, key, val, -, -, -, v, l⟩ := q
  have e : ocn (fun p => decide (stp p = sp)) M = c := v.2.2.1
  rw [← e, ocn_cnS]
  refine Nat.le_trans (cnS_inj (f := key) (q := fun _ => true) (m := R) (fun p hp ho => ⟨hf _ ?_, rfl⟩) (fun p p' hpp hp' h1 h2 q => ?_)) (cnS_le _)
  · rw [l]
    unfold lk
    rw [v.2.2.2 p hp ho, if_pos ho]
    rfl
  · have h3 := v.2.2.2 p (by omega) h1
    rw [q, v.2.2.2 p' hp' h2] at h3
    omega
theorem BI.lt {t : Tk} {ρ : Nat → Int} {f : Nat → Option Int} {x i : Nat} (tok : Tok t) (b : BI t ρ f x i) (hR : ∀ y, y < tH t → ρ y < tR t) (r : Nat) (hr : (f r).isSome = true) : r < tR t := by
  rcases (b.1 r).mp hr with ⟨y, hy, e⟩ | ⟨y, j, hp, e⟩
  · have := hR y hy
    omega
  · rw [← e]
    exact swR_lt tok hp.1
theorem xroom_she : ∀ n : Nat, n < 13 → ∀ k : Nat, k < 6 → ∀ s : Nat, s < 5 → s < k → (pch n k).toNat * s ≤ 4000 := by decide +kernel
def xroom (n k s : Nat) : Bool := !(decide (s < k) && decide (ff n k ≤ 2000) && decide (k ≤ s + 2)) || decide (ff n k * s ≤ 4000) || decide (ff n s * 2 ^ s ≤ 4000)
theorem xroom_b : ∀ n : Nat, n < 13 → ∀ k : Nat, k < 6 → ∀ s : Nat, s < 5 → xroom n k s = true := by decide +kernel
theorem xroom_str {n k s : Nat} (h1 : n < 13) (h2 : k < 6) (h3 : s < 5) (h4 : s < k) (h5 : ff n k ≤ 2000) (h6 : k ≤ s + 2) : ff n k * s ≤ 4000 ∨ ff n s * 2 ^ s ≤ 4000 := by
  have q := xroom_b n h1 k h2 s h3
  unfold xroom at q
  rw [decide_eq_true h4, decide_eq_true h5, decide_eq_true h6] at q
  by_cases c : ff n k * s ≤ 4000
  · exact Or.inl c
  · rw [decide_eq_false c] at q
    exact Or.inr (of_decide_eq_true q)
theorem Tok.room {t : Tk} (tok : Tok t) : tH t * tsh t ≤ 4000 ∨ tR t ≤ 4000 := by
  obtain ⟨bn4, bn12, bu1, bu4, bnu, bk2, bk5, bkn, bp1, bp2, bpk, bH, bsp, bs1, bs4, bT1, bT16, bR1, bR2, bH1, bff, bff1⟩ := tok.b
  have hH : tH t = if (!tst t) = true then (pch (tn t) (tk t)).toNat else ff (tn t) (tk t) := rfl
  by_cases c : (!tst t) = true
  · rw [if_pos c] at hH
    rw [hH]
    exact Or.inl (xroom_she (tn t) (by omega) (tk t) (by omega) (tsh t) (by omega) (by omega))
  · rw [if_neg c] at hH
    rw [hH] at bH ⊢
    rcases xroom_str (n := tn t) (k := tk t) (s := tsh t) (by omega) (by omega) (by omega) (by omega) bH (by omega) with q | q
    · exact Or.inl q
    · refine Or.inr (Nat.le_trans ?_ q)
      show ff (tn t) (tsh t) * tT t ≤ ff (tn t) (tsh t) * 2 ^ tsh t
      refine Nat.mul_le_mul (Nat.le_refl _) ?_
      unfold tT
      split
      · exact Nat.le_refl _
      · exact Nat.one_le_two_pow
theorem nsT_64 {g h0 : Zh} {td : Nat} {t : Tk} {rc : Nat} {ru : Nat → Nat} {x sp c0 : Nat} {ρ : Nat → Int} {f0 : Nat → Option Int} (tok : Tok t) (sg : St g) (s0 : St h0) (r1 : zR h0 25 1 = some td) (tdh : TD h0 td t rc ru) (hx : x < tH t) (hp : 0 ≤ ρ x) (hp2 : ρ x < 2147483648) (hfst : ∀ y, y < x → ρ y ≠ ρ x) (rs : RS h0 f0 c0 sp) (bi : BI t ρ f0 x 0) (hpR : ∀ y, y < tH t → ρ y < tR t) (hc0 : c0 + 4 < 4096 ∨ tR t ≤ 4000) (hw : ∀ j, j < tsh t → zI h0 64 j = iI (unp (tn t) (tsh t) ((ρ x).toNat / tT t) j)) : ∃ e x' h', lp (fun q : Int32 × Zh => bX4_noSwap_64 g 25 (iI 1) (iI x) (iI (ρ x)) q.1 q.2) zB (iI 0, h0) = some (e, (x', h')) ∧ Fm [39, 40, 41, 64] h0 h' ∧ RS0 h' sp ∧ ((e = 1 ∧ ¬ (snP t ρ ∧ boP t ρ)) ∨ (e = 2 ∧ ∃ f c, BI t ρ f x (tsh t - 1) ∧ RS h' f c sp ∧ c ≤ c0 + (tsh t - 1))) := by
  obtain ⟨bn4, bn12, bu1, bu4, bnu, bk2, bk5, bkn, bp1, bp2, bpk, bH, bsp, bs1, bs4, bT1, bT16, bR1, bR2, bH1, bff, bff1⟩ := tok.b
  have a1 := tdh.1
  obtain ⟨g1, -, -, -, g5, -⟩ := tdS sg a1
  have ht : ((ρ x).toNat : Int) = ρ x := Int.toNat_of_nonneg hp
  have hz := zrem_T tok (r := (ρ x).toNat) (by omega)
  rw [ht] at hz
  have := lp_cnt (body := fun q : Int32 × Zh => bX4_noSwap_64 g 25 (iI 1) (iI x) (iI (ρ x)) q.1 q.2) (tsh t - 1) (fun i z => ∃ h f c, z = ((iI (i : Int), h) : Int32 × Zh) ∧ Fm [39, 40, 41, 64] h0 h ∧ (∀ j, j < tsh t → zI h 64 j = iI (unp (tn t) (tsh t) ((ρ x).toNat / tT t) j)) ∧ BI t ρ f x i ∧ RS h f c sp ∧ c ≤ c0 + i) (fun e z => Fm [39, 40, 41, 64] h0 z.2 ∧ RS0 z.2 sp ∧ ((e = 1 ∧ ¬ (snP t ρ ∧ boP t ρ)) ∨ (e = 2 ∧ ∃ f c, BI t ρ f x (tsh t - 1) ∧ RS z.2 f c sp ∧ c ≤ c0 + (tsh t - 1)))) ?_ ?_ (by omega) (s := (iI 0, h0)) ⟨h0, f0, c0, rfl, Fm.rf, hw, bi, rs, Nat.le_refl _⟩
  · obtain ⟨e, z, l1, l2, l3, l4⟩ := this
    exact ⟨e + 1, z.1, z.2, l1, l2, l3, l4⟩
  · intro i z hi ⟨h, f, c, ez, fm, k1, k2, k3, k4⟩
    subst ez
    have s1 := s0.fm fm
    have td1 := tdh.fm fm (by simp)
    have r11 : zR h 25 1 = some td := by rw [fm.R]; exact r1
    obtain ⟨t1, t2, -⟩ := tdS s1 a1
    have dk := td1.2.2.1
    have hf5 := dk.f5
    have hf12 := dk.f12
    obtain ⟨h2, p1, p2, p3⟩ := fX4_swapped_eq tok s1 r11 td1 (show i + 1 < tsh t by omega) k1
    have s2 := s1.fm p2
    have rs2 := k3.fm p2 (by simp) (by simp) (by simp) (by simp)
    have hlt := swR_lt tok (r := (ρ x).toNat) (show i + 1 < tsh t by omega)
    obtain ⟨h3, c', e1, e2, e3, e4⟩ := fX8_put_eq (r := swR t (ρ x).toNat i) (w := x) s2 rs2 (by omega) (by have := k3.cnt (k2.lt tok hpR); omega)
    have fm3 : Fm [39, 40, 41, 64] h0 h3 := (fm.tr (p2.mono (by simp))).tr (e2.mono (by simp))
    have w3 : ∀ j, j < tsh t → zI h3 64 j = iI (unp (tn t) (tsh t) ((ρ x).toNat / tT t) j) := fun j hj => by rw [e2.I (by simp)]; exact p3 j hj
    have hneT : ¬ (tT t : Int) = 0 := by omega
    show (∃ s', bX4_noSwap_64 g 25 (iI 1) (iI x) (iI (ρ x)) (iI i) h = some (0, s') ∧ _) ∨ (∃ e s', bX4_noSwap_64 g 25 (iI 1) (iI x) (iI (ρ x)) (iI i) h = some (e + 1, s') ∧ _)
    cases q : f (swR t (ρ x).toNat i) with
    | none =>
      rw [q] at e1 e4
      have e1' : fX8_put 38 (iI (swR t (ρ x).toNat i : Nat)) (iI (x : Nat)) h2 = some (iI (-1), h3) := e1
      have e4' : RS h3 (updO f (swR t (ρ x).toNat i) x) c' sp := e4
      refine Or.inl ⟨(iI ((i + 1 : Nat) : Int), h3), ?_, h3, _, c', rfl, fm3, w3, k2.step (by omega) hp (by omega) q, e4', by omega⟩
      unfold bX4_noSwap_64 jX4_noSwap_128
      simp (maxSteps := 1000000) (disch := (first | assumption | exact ne_b rfl | omega)) only [↓reduceIte, ↓zlet_eq, ↓bdR_sI, ↓bdR_sJ, ↓bdR_aI, zc2_some, Option.bind_some, ↓si_m1, ↓si_m2, ↓si_m3, iI_lit, iI_add, iI_sub, iI_mul, leT, leF, ltT, ltF, eqT, eqF, zinT, clI, Int.toNat_natCast, Int.reduceToNat, tN1, tNa, tN0, tNm, if_pos, if_neg, zI_sI, zI_sJ, zI_sR, zJ_sI, zJ_sJ, zJ_sR, zR_sI, zR_sJ, zR_sR, zK_sI, zK_sJ, zK_sR, zL_sI, zL_sJ, zL_sR, zI_aI, zJ_aI, zR_aI, zK_aI, zL_aI, z2_at, z2_a, z2_k, z1_self, z1_ne, true_and, and_true, bIt, bIf, Bool.false_eq_true, Bool.true_eq_false, eq_self, not_true_eq_false, not_false_eq_true, sK0, sK1, sK2, sK3, sK4, sK5, sK6, sK7, sK8, sK9, sK10, sK11, sK12, sK13, sK14, sK15, sK16, sK17, sK18, sK19, sK20, sK21, sK22, sK23, sK24, sK25, sK26, sK27, sK28, sK29, sK30, sK31, sK32, sK33, sK34, sK35, sK36, sK37, sK38, sK39, sK40, sK41, sK42, sK43, sK44, sK45, sK46, sK47, sK48, sK49, sK50, sK51, sK52, sK53, sK54, sK55, sK56, sK57, sK58, sK59, sK60, sK61, sK62, sK63, sK64, sK65, sK66, sK67, sK68, sK69, sK70, sK71, sK72, sK73, sK74, sK75, sL1, sL3, sL6, sL8, sL9, sL10, sL11, sL12, sL15, sL17, sL18, sL21, sL23, sL24, sL26, sL29, sL31, sL32, sL34, sL36, sL37, sL39, sL40, sL41, sL43, sL45, sL46, sL47, sL48, sL49, sL50, sL51, sL52, sL53, sL55, sL57, sL59, sL61, sL62, sL63, sL64, sL65, sL67, sL68, sL70, sL71, sL73, sL74, sL75, sR0_0, sR0_2, sR0_5, sR0_6, sR0_11, sR2_5, sR2_6, sR2_7, sR4_1, sR4_2, sR4_4, sR7_0, sR7_1, sR13_1, sR13_2, sR13_4, sR16_0, sR16_1, sR19_1, sR19_2, sR19_4, sR22_0, sR22_1, sR25_0, sR25_2, sR25_3, sR25_4, sR25_5, sR25_6, sR25_7, sR25_8, sR25_10, sR27_1, sR27_2, sR27_4, sR30_0, sR30_1, sR33_0, sR35_0, sR35_1, sR38_0, sR38_1, sR38_2, sR42_0, sR42_5, sR42_7, sR42_11, sR42_12, sR42_13, sR53_0, sR53_1, sR53_2, sR53_3, sR54_1, sR56_1, sR58_1, sR60_1, sR65_0, sR65_1, sR65_2, sR66_0, sR66_1, sR69_0, sR69_1, sR72_0, sR72_1, ↓sB0_0, ↓sB0_2, ↓sB0_5, ↓sB0_6, ↓sB0_11, ↓sB2_5, ↓sB2_6, ↓sB2_7, ↓sB4_1, ↓sB4_2, ↓sB4_4, ↓sB7_0, ↓sB7_1, ↓sB13_1, ↓sB13_2, ↓sB13_4, ↓sB16_0, ↓sB16_1, ↓sB19_1, ↓sB19_2, ↓sB19_4, ↓sB22_0, ↓sB22_1, ↓sB25_0, ↓sB25_2, ↓sB25_3, ↓sB25_4, ↓sB25_5, ↓sB25_6, ↓sB25_7, ↓sB25_8, ↓sB25_10, ↓sB27_1, ↓sB27_2, ↓sB27_4, ↓sB30_0, ↓sB30_1, ↓sB33_0, ↓sB35_0, ↓sB35_1, ↓sB38_0, ↓sB38_1, ↓sB38_2, ↓sB42_0, ↓sB42_5, ↓sB42_7, ↓sB42_11, ↓sB42_12, ↓sB42_13, ↓sB53_0, ↓sB53_1, ↓sB53_2, ↓sB53_3, ↓sB54_1, ↓sB56_1, ↓sB58_1, ↓sB60_1, ↓sB65_0, ↓sB65_1, ↓sB65_2, ↓sB66_0, ↓sB66_1, ↓sB69_0, ↓sB69_1, ↓sB72_0, ↓sB72_1, ↓bd_of r11, ↓bd_of t2, g1, g5, hf5, hf12, hz, ↓zc_of p1, ↓zc_of e1']
      all_goals rfl
    | some v =>
      have hv := k2.2.2.1 _ _ q
      have hbad := k2.bad tok (by omega) hp hx hfst (by rw [q]; rfl)
      rw [q] at e1 e4
      have e1' : fX8_put 38 (iI (swR t (ρ x).toNat i : Nat)) (iI (x : Nat)) h2 = some (iI v, h3) := e1
      refine Or.inr ⟨0, (iI i, h3), ?_, fm3, e4.z, Or.inl ⟨rfl, hbad⟩⟩
      unfold bX4_noSwap_64 jX4_noSwap_128
      simp (maxSteps := 1000000) (disch := (first | assumption | exact ne_b rfl | omega)) only [↓reduceIte, ↓zlet_eq, ↓bdR_sI, ↓bdR_sJ, ↓bdR_aI, zc2_some, Option.bind_some, ↓si_m1, ↓si_m2, ↓si_m3, iI_lit, iI_add, iI_sub, iI_mul, leT, leF, ltT, ltF, eqT, eqF, zinT, clI, Int.toNat_natCast, Int.reduceToNat, tN1, tNa, tN0, tNm, if_pos, if_neg, zI_sI, zI_sJ, zI_sR, zJ_sI, zJ_sJ, zJ_sR, zR_sI, zR_sJ, zR_sR, zK_sI, zK_sJ, zK_sR, zL_sI, zL_sJ, zL_sR, zI_aI, zJ_aI, zR_aI, zK_aI, zL_aI, z2_at, z2_a, z2_k, z1_self, z1_ne, true_and, and_true, bIt, bIf, Bool.false_eq_true, Bool.true_eq_false, eq_self, not_true_eq_false, not_false_eq_true, sK0, sK1, sK2, sK3, sK4, sK5, sK6, sK7, sK8, sK9, sK10, sK11, sK12, sK13, sK14, sK15, sK16, sK17, sK18, sK19, sK20, sK21, sK22, sK23, sK24, sK25, sK26, sK27, sK28, sK29, sK30, sK31, sK32, sK33, sK34, sK35, sK36, sK37, sK38, sK39, sK40, sK41, sK42, sK43, sK44, sK45, sK46, sK47, sK48, sK49, sK50, sK51, sK52, sK53, sK54, sK55, sK56, sK57, sK58, sK59, sK60, sK61, sK62, sK63, sK64, sK65, sK66, sK67, sK68, sK69, sK70, sK71, sK72, sK73, sK74, sK75, sL1, sL3, sL6, sL8, sL9, sL10, sL11, sL12, sL15, sL17, sL18, sL21, sL23, sL24, sL26, sL29, sL31, sL32, sL34, sL36, sL37, sL39, sL40, sL41, sL43, sL45, sL46, sL47, sL48, sL49, sL50, sL51, sL52, sL53, sL55, sL57, sL59, sL61, sL62, sL63, sL64, sL65, sL67, sL68, sL70, sL71, sL73, sL74, sL75, sR0_0, sR0_2, sR0_5, sR0_6, sR0_11, sR2_5, sR2_6, sR2_7, sR4_1, sR4_2, sR4_4, sR7_0, sR7_1, sR13_1, sR13_2, sR13_4, sR16_0, sR16_1, sR19_1, sR19_2, sR19_4, sR22_0, sR22_1, sR25_0, sR25_2, sR25_3, sR25_4, sR25_5, sR25_6, sR25_7, sR25_8, sR25_10, sR27_1, sR27_2, sR27_4, sR30_0, sR30_1, sR33_0, sR35_0, sR35_1, sR38_0, sR38_1, sR38_2, sR42_0, sR42_5, sR42_7, sR42_11, sR42_12, sR42_13, sR53_0, sR53_1, sR53_2, sR53_3, sR54_1, sR56_1, sR58_1, sR60_1, sR65_0, sR65_1, sR65_2, sR66_0, sR66_1, sR69_0, sR69_1, sR72_0, sR72_1, ↓sB0_0, ↓sB0_2, ↓sB0_5, ↓sB0_6, ↓sB0_11, ↓sB2_5, ↓sB2_6, ↓sB2_7, ↓sB4_1, ↓sB4_2, ↓sB4_4, ↓sB7_0, ↓sB7_1, ↓sB13_1, ↓sB13_2, ↓sB13_4, ↓sB16_0, ↓sB16_1, ↓sB19_1, ↓sB19_2, ↓sB19_4, ↓sB22_0, ↓sB22_1, ↓sB25_0, ↓sB25_2, ↓sB25_3, ↓sB25_4, ↓sB25_5, ↓sB25_6, ↓sB25_7, ↓sB25_8, ↓sB25_10, ↓sB27_1, ↓sB27_2, ↓sB27_4, ↓sB30_0, ↓sB30_1, ↓sB33_0, ↓sB35_0, ↓sB35_1, ↓sB38_0, ↓sB38_1, ↓sB38_2, ↓sB42_0, ↓sB42_5, ↓sB42_7, ↓sB42_11, ↓sB42_12, ↓sB42_13, ↓sB53_0, ↓sB53_1, ↓sB53_2, ↓sB53_3, ↓sB54_1, ↓sB56_1, ↓sB58_1, ↓sB60_1, ↓sB65_0, ↓sB65_1, ↓sB65_2, ↓sB66_0, ↓sB66_1, ↓sB69_0, ↓sB69_1, ↓sB72_0, ↓sB72_1, ↓bd_of r11, ↓bd_of t2, g1, g5, hf5, hf12, hz, ↓zc_of p1, ↓zc_of e1']
  · intro z ⟨h, f, c, ez, fm, k1, k2, k3, k4⟩
    subst ez
    have s1 := s0.fm fm
    have td1 := tdh.fm fm (by simp)
    have r11 : zR h 25 1 = some td := by rw [fm.R]; exact r1
    obtain ⟨t1, t2, -⟩ := tdS s1 a1
    have hf5 := td1.2.2.1.f5
    have ee : ((tsh t - 1 : Nat) : Int) + 1 = tsh t := by omega
    refine ⟨1, (iI ((tsh t - 1 : Nat) : Int), h), ?_, fm, k3.z, Or.inr ⟨rfl, f, c, k2, k3, by omega⟩⟩
    show bX4_noSwap_64 g 25 (iI 1) (iI x) (iI (ρ x)) (iI ((tsh t - 1 : Nat) : Int)) h = _
    unfold bX4_noSwap_64
    simp (maxSteps := 1000000) (disch := (first | assumption | exact ne_b rfl | omega)) only [↓reduceIte, ↓zlet_eq, ↓bdR_sI, ↓bdR_sJ, ↓bdR_aI, zc2_some, Option.bind_some, ↓si_m1, ↓si_m2, ↓si_m3, iI_lit, iI_add, iI_sub, iI_mul, leT, leF, ltT, ltF, eqT, eqF, zinT, clI, Int.toNat_natCast, Int.reduceToNat, tN1, tNa, tN0, tNm, if_pos, if_neg, zI_sI, zI_sJ, zI_sR, zJ_sI, zJ_sJ, zJ_sR, zR_sI, zR_sJ, zR_sR, zK_sI, zK_sJ, zK_sR, zL_sI, zL_sJ, zL_sR, zI_aI, zJ_aI, zR_aI, zK_aI, zL_aI, z2_at, z2_a, z2_k, z1_self, z1_ne, true_and, and_true, bIt, bIf, Bool.false_eq_true, Bool.true_eq_false, eq_self, not_true_eq_false, not_false_eq_true, sK0, sK1, sK2, sK3, sK4, sK5, sK6, sK7, sK8, sK9, sK10, sK11, sK12, sK13, sK14, sK15, sK16, sK17, sK18, sK19, sK20, sK21, sK22, sK23, sK24, sK25, sK26, sK27, sK28, sK29, sK30, sK31, sK32, sK33, sK34, sK35, sK36, sK37, sK38, sK39, sK40, sK41, sK42, sK43, sK44, sK45, sK46, sK47, sK48, sK49, sK50, sK51, sK52, sK53, sK54, sK55, sK56, sK57, sK58, sK59, sK60, sK61, sK62, sK63, sK64, sK65, sK66, sK67, sK68, sK69, sK70, sK71, sK72, sK73, sK74, sK75, sL1, sL3, sL6, sL8, sL9, sL10, sL11, sL12, sL15, sL17, sL18, sL21, sL23, sL24, sL26, sL29, sL31, sL32, sL34, sL36, sL37, sL39, sL40, sL41, sL43, sL45, sL46, sL47, sL48, sL49, sL50, sL51, sL52, sL53, sL55, sL57, sL59, sL61, sL62, sL63, sL64, sL65, sL67, sL68, sL70, sL71, sL73, sL74, sL75, sR0_0, sR0_2, sR0_5, sR0_6, sR0_11, sR2_5, sR2_6, sR2_7, sR4_1, sR4_2, sR4_4, sR7_0, sR7_1, sR13_1, sR13_2, sR13_4, sR16_0, sR16_1, sR19_1, sR19_2, sR19_4, sR22_0, sR22_1, sR25_0, sR25_2, sR25_3, sR25_4, sR25_5, sR25_6, sR25_7, sR25_8, sR25_10, sR27_1, sR27_2, sR27_4, sR30_0, sR30_1, sR33_0, sR35_0, sR35_1, sR38_0, sR38_1, sR38_2, sR42_0, sR42_5, sR42_7, sR42_11, sR42_12, sR42_13, sR53_0, sR53_1, sR53_2, sR53_3, sR54_1, sR56_1, sR58_1, sR60_1, sR65_0, sR65_1, sR65_2, sR66_0, sR66_1, sR69_0, sR69_1, sR72_0, sR72_1, ↓sB0_0, ↓sB0_2, ↓sB0_5, ↓sB0_6, ↓sB0_11, ↓sB2_5, ↓sB2_6, ↓sB2_7, ↓sB4_1, ↓sB4_2, ↓sB4_4, ↓sB7_0, ↓sB7_1, ↓sB13_1, ↓sB13_2, ↓sB13_4, ↓sB16_0, ↓sB16_1, ↓sB19_1, ↓sB19_2, ↓sB19_4, ↓sB22_0, ↓sB22_1, ↓sB25_0, ↓sB25_2, ↓sB25_3, ↓sB25_4, ↓sB25_5, ↓sB25_6, ↓sB25_7, ↓sB25_8, ↓sB25_10, ↓sB27_1, ↓sB27_2, ↓sB27_4, ↓sB30_0, ↓sB30_1, ↓sB33_0, ↓sB35_0, ↓sB35_1, ↓sB38_0, ↓sB38_1, ↓sB38_2, ↓sB42_0, ↓sB42_5, ↓sB42_7, ↓sB42_11, ↓sB42_12, ↓sB42_13, ↓sB53_0, ↓sB53_1, ↓sB53_2, ↓sB53_3, ↓sB54_1, ↓sB56_1, ↓sB58_1, ↓sB60_1, ↓sB65_0, ↓sB65_1, ↓sB65_2, ↓sB66_0, ↓sB66_1, ↓sB69_0, ↓sB69_1, ↓sB72_0, ↓sB72_1, ↓bd_of r11, ↓bd_of t2, g1, g5, hf5, ee]
theorem nsT_2 {g h0 : Zh} {td : Nat} {t : Tk} {rc : Nat} {ru : Nat → Nat} {i sp c0 : Nat} {ρ : Nat → Int} (tok : Tok t) (sg : St g) (s0 : St h0) (r1 : zR h0 25 1 = some td) (tdh : TD h0 td t rc ru) (hi : i < rc) (hb : ∀ x, x < tH t → ρ x = -2 ∨ (0 ≤ ρ x ∧ ρ x < 2147483648)) (hρ : ∀ x, x < tH t → zI h0 (54 + 2 * i + 1) x = iI (ρ x)) (hpR : ∀ y, y < tH t → ρ y < tR t) (rs : RS h0 (fsw ρ (tH t)) c0 sp) (hc0 : c0 ≤ tH t) : ∃ e x' h', lp (fun q : Int32 × Zh => bX4_noSwap_2 g 25 (54 + 2 * i) (iI 1) q.1 q.2) zB (iI 0, h0) = some (e, (x', h')) ∧ Fm [39, 40, 41, 64] h0 h' ∧ RS0 h' sp ∧ ((e = 1 ∧ ¬ (snP t ρ ∧ boP t ρ)) ∨ (e = 2 ∧ boP t ρ)) := by
  obtain ⟨bn4, bn12, bu1, bu4, bnu, bk2, bk5, bkn, bp1, bp2, bpk, bH, bsp, bs1, bs4, bT1, bT16, bR1, bR2, bH1, bff, bff1⟩ := tok.b
  have a1 := tdh.1
  have hrc := tdh.2.2.2.2.1
  obtain ⟨g1, -, -, -, g5, -⟩ := tdS sg a1
  obtain ⟨-, gd2, -, gd4, gd5⟩ := ldS sg (show i < 4 by omega)
  have q55 : 54 + 2 * i + 1 ∉ [39, 40, 41, 64] := by simp; omega
  have := lp_cnt (body := fun q : Int32 × Zh => bX4_noSwap_2 g 25 (54 + 2 * i) (iI 1) q.1 q.2) (tH t) (fun x z => ∃ h f c, z = ((iI (x : Int), h) : Int32 × Zh) ∧ Fm [39, 40, 41, 64] h0 h ∧ BI t ρ f x 0 ∧ RS h f c sp ∧ c ≤ tH t + (tsh t - 1) * x) (fun e z => Fm [39, 40, 41, 64] h0 z.2 ∧ RS0 z.2 sp ∧ ((e = 1 ∧ ¬ (snP t ρ ∧ boP t ρ)) ∨ (e = 2 ∧ boP t ρ))) ?_ ?_ (by omega) (s := (iI 0, h0)) ⟨h0, _, c0, rfl, Fm.rf, BI.init bH, rs, by rw [Nat.mul_zero]; omega⟩
  · obtain ⟨e, z, l1, l2, l3, l4⟩ := this
    exact ⟨e + 1, z.1, z.2, l1, l2, l3, l4⟩
  · intro x z hx ⟨h, f, c, ez, fm, k2, k3, k4⟩
    subst ez
    have hw1 : (tsh t - 1) * (x + 1) = (tsh t - 1) * x + (tsh t - 1) := Nat.mul_succ _ _
    have s1 := s0.fm fm
    have td1 := tdh.fm fm (by simp)
    have r11 : zR h 25 1 = some td := by rw [fm.R]; exact r1
    obtain ⟨t1, t2, -⟩ := tdS s1 a1
    obtain ⟨-, -, d3, -, -⟩ := ldS s1 (show i < 4 by omega)
    have dk := td1.2.2.1
    have hk9 := dk.f9
    have hv : zI h (54 + 2 * i + 1) x = iI (ρ x) := by rw [fm.I q55]; exact hρ x hx
    show (∃ s', bX4_noSwap_2 g 25 (54 + 2 * i) (iI 1) (iI x) h = some (0, s') ∧ _) ∨ (∃ e s', bX4_noSwap_2 g 25 (54 + 2 * i) (iI 1) (iI x) h = some (e + 1, s') ∧ _)
    rcases hb x hx with hm | ⟨hp, hp2⟩
    · rw [hm] at hv
      refine Or.inl ⟨(iI ((x + 1 : Nat) : Int), h), ?_, h, f, c, rfl, fm, k2.skip (Or.inl (by omega)), k3, by omega⟩
      unfold bX4_noSwap_2
      simp (maxSteps := 1000000) (disch := (first | assumption | exact ne_b rfl | omega)) only [↓reduceIte, ↓zlet_eq, ↓bdR_sI, ↓bdR_sJ, ↓bdR_aI, zc2_some, Option.bind_some, ↓si_m1, ↓si_m2, ↓si_m3, iI_lit, iI_add, iI_sub, iI_mul, leT, leF, ltT, ltF, eqT, eqF, zinT, clI, Int.toNat_natCast, Int.reduceToNat, tN1, tNa, tN0, tNm, if_pos, if_neg, zI_sI, zI_sJ, zI_sR, zJ_sI, zJ_sJ, zJ_sR, zR_sI, zR_sJ, zR_sR, zK_sI, zK_sJ, zK_sR, zL_sI, zL_sJ, zL_sR, zI_aI, zJ_aI, zR_aI, zK_aI, zL_aI, z2_at, z2_a, z2_k, z1_self, z1_ne, true_and, and_true, bIt, bIf, Bool.false_eq_true, Bool.true_eq_false, eq_self, not_true_eq_false, not_false_eq_true, sK0, sK1, sK2, sK3, sK4, sK5, sK6, sK7, sK8, sK9, sK10, sK11, sK12, sK13, sK14, sK15, sK16, sK17, sK18, sK19, sK20, sK21, sK22, sK23, sK24, sK25, sK26, sK27, sK28, sK29, sK30, sK31, sK32, sK33, sK34, sK35, sK36, sK37, sK38, sK39, sK40, sK41, sK42, sK43, sK44, sK45, sK46, sK47, sK48, sK49, sK50, sK51, sK52, sK53, sK54, sK55, sK56, sK57, sK58, sK59, sK60, sK61, sK62, sK63, sK64, sK65, sK66, sK67, sK68, sK69, sK70, sK71, sK72, sK73, sK74, sK75, sL1, sL3, sL6, sL8, sL9, sL10, sL11, sL12, sL15, sL17, sL18, sL21, sL23, sL24, sL26, sL29, sL31, sL32, sL34, sL36, sL37, sL39, sL40, sL41, sL43, sL45, sL46, sL47, sL48, sL49, sL50, sL51, sL52, sL53, sL55, sL57, sL59, sL61, sL62, sL63, sL64, sL65, sL67, sL68, sL70, sL71, sL73, sL74, sL75, sR0_0, sR0_2, sR0_5, sR0_6, sR0_11, sR2_5, sR2_6, sR2_7, sR4_1, sR4_2, sR4_4, sR7_0, sR7_1, sR13_1, sR13_2, sR13_4, sR16_0, sR16_1, sR19_1, sR19_2, sR19_4, sR22_0, sR22_1, sR25_0, sR25_2, sR25_3, sR25_4, sR25_5, sR25_6, sR25_7, sR25_8, sR25_10, sR27_1, sR27_2, sR27_4, sR30_0, sR30_1, sR33_0, sR35_0, sR35_1, sR38_0, sR38_1, sR38_2, sR42_0, sR42_5, sR42_7, sR42_11, sR42_12, sR42_13, sR53_0, sR53_1, sR53_2, sR53_3, sR54_1, sR56_1, sR58_1, sR60_1, sR65_0, sR65_1, sR65_2, sR66_0, sR66_1, sR69_0, sR69_1, sR72_0, sR72_1, ↓sB0_0, ↓sB0_2, ↓sB0_5, ↓sB0_6, ↓sB0_11, ↓sB2_5, ↓sB2_6, ↓sB2_7, ↓sB4_1, ↓sB4_2, ↓sB4_4, ↓sB7_0, ↓sB7_1, ↓sB13_1, ↓sB13_2, ↓sB13_4, ↓sB16_0, ↓sB16_1, ↓sB19_1, ↓sB19_2, ↓sB19_4, ↓sB22_0, ↓sB22_1, ↓sB25_0, ↓sB25_2, ↓sB25_3, ↓sB25_4, ↓sB25_5, ↓sB25_6, ↓sB25_7, ↓sB25_8, ↓sB25_10, ↓sB27_1, ↓sB27_2, ↓sB27_4, ↓sB30_0, ↓sB30_1, ↓sB33_0, ↓sB35_0, ↓sB35_1, ↓sB38_0, ↓sB38_1, ↓sB38_2, ↓sB42_0, ↓sB42_5, ↓sB42_7, ↓sB42_11, ↓sB42_12, ↓sB42_13, ↓sB53_0, ↓sB53_1, ↓sB53_2, ↓sB53_3, ↓sB54_1, ↓sB56_1, ↓sB58_1, ↓sB60_1, ↓sB65_0, ↓sB65_1, ↓sB65_2, ↓sB66_0, ↓sB66_1, ↓sB69_0, ↓sB69_1, ↓sB72_0, ↓sB72_1, ↓bd_of r11, ↓bd_of t2, ↓bd_of d3, g1, g5, hk9, gd2, gd4, gd5, hv]
      all_goals rfl
    · obtain ⟨v1, v2, v3, v4⟩ := fsw_self (ρ := ρ) hx hp
      have e1 := fX8_holderOf_eq (r := (ρ x).toNat) s1 k3 (by omega)
      have ht : ((ρ x).toNat : Int) = ρ x := Int.toNat_of_nonneg hp
      rw [k2.2.1 (ρ x).toNat ⟨x, hx, ht.symm⟩, v1, ht] at e1
      have e1' : fX8_holderOf 38 (iI (ρ x)) h = some (iI ((fwi ρ (tH t) (ρ x) : Nat) : Int), h) := e1
      by_cases cw : fwi ρ (tH t) (ρ x) = x
      · clear v4
        rw [cw] at e1'
        have eu := fX0_unpackRow_eq (d := td + 1) (r := 64) (n := tn t) (sh := tsh t) (T := tT t) (L := 5) (q := (ρ x).toNat) (h := h) dk.fK (sK64 s1) (sL64 s1) (by decide) (by omega) dk.f0 dk.f5 dk.f12 bn12 (by omega) (by omega) (by omega) (by omega) (by omega) (by omega)
        rw [ht] at eu
        have fu : Fm [64] h (zaI h 64 (fun j => if j < tsh t then iI (unp (tn t) (tsh t) ((ρ x).toNat / tT t) j) else zI h 64 j)) := Fm_aI _ _ (by simp)
        have wu : ∀ j, j < tsh t → zI (zaI h 64 (fun j => if j < tsh t then iI (unp (tn t) (tsh t) ((ρ x).toNat / tT t) j) else zI h 64 j)) 64 j = iI (unp (tn t) (tsh t) ((ρ x).toNat / tT t) j) := fun j hj => by rw [zI_aI, z1_self]; exact if_pos hj
        generalize zaI h 64 (fun j => if j < tsh t then iI (unp (tn t) (tsh t) ((ρ x).toNat / tT t) j) else zI h 64 j) = hu at *
        have su := s1.fm fu
        have hrm : c + 4 < 4096 ∨ tR t ≤ 4000 := by
          rcases tok.room with q | q
          · have h1 : (tsh t - 1) * (x + 1) ≤ (tsh t - 1) * tH t := Nat.mul_le_mul (Nat.le_refl _) hx
            have h2 : (tsh t - 1) * tH t + tH t = tH t * tsh t := by
              rw [Nat.mul_comm (tH t)]
              conv => rhs; rw [show tsh t = (tsh t - 1) + 1 by omega, Nat.add_mul, Nat.one_mul]
            omega
          · exact Or.inr q
        obtain ⟨e, x', h', l1, l2, l3, l4⟩ := nsT_64 (g := g) tok sg su (by rw [fu.R]; exact r11) (td1.fm fu (by simp)) hx hp hp2 (v3 cw) (k3.fm fu (by simp) (by simp) (by simp) (by simp)) k2 hpR hrm wu
        have fm' : Fm [39, 40, 41, 64] h0 h' := (fm.tr (fu.mono (by simp))).tr l2
        rcases l4 with ⟨l4, l5⟩ | ⟨l4, f', c', l5, l6, l7⟩
        · subst l4
          refine Or.inr ⟨0, (0, h'), ?_, fm', l3, Or.inl ⟨rfl, l5⟩⟩
          unfold bX4_noSwap_2 kX4_noSwap_64
          simp (maxSteps := 1000000) (disch := (first | assumption | exact ne_b rfl | omega)) only [↓reduceIte, ↓zlet_eq, ↓bdR_sI, ↓bdR_sJ, ↓bdR_aI, zc2_some, Option.bind_some, ↓si_m1, ↓si_m2, ↓si_m3, iI_lit, iI_add, iI_sub, iI_mul, leT, leF, ltT, ltF, eqT, eqF, zinT, clI, Int.toNat_natCast, Int.reduceToNat, tN1, tNa, tN0, tNm, if_pos, if_neg, zI_sI, zI_sJ, zI_sR, zJ_sI, zJ_sJ, zJ_sR, zR_sI, zR_sJ, zR_sR, zK_sI, zK_sJ, zK_sR, zL_sI, zL_sJ, zL_sR, zI_aI, zJ_aI, zR_aI, zK_aI, zL_aI, z2_at, z2_a, z2_k, z1_self, z1_ne, true_and, and_true, bIt, bIf, Bool.false_eq_true, Bool.true_eq_false, eq_self, not_true_eq_false, not_false_eq_true, sK0, sK1, sK2, sK3, sK4, sK5, sK6, sK7, sK8, sK9, sK10, sK11, sK12, sK13, sK14, sK15, sK16, sK17, sK18, sK19, sK20, sK21, sK22, sK23, sK24, sK25, sK26, sK27, sK28, sK29, sK30, sK31, sK32, sK33, sK34, sK35, sK36, sK37, sK38, sK39, sK40, sK41, sK42, sK43, sK44, sK45, sK46, sK47, sK48, sK49, sK50, sK51, sK52, sK53, sK54, sK55, sK56, sK57, sK58, sK59, sK60, sK61, sK62, sK63, sK64, sK65, sK66, sK67, sK68, sK69, sK70, sK71, sK72, sK73, sK74, sK75, sL1, sL3, sL6, sL8, sL9, sL10, sL11, sL12, sL15, sL17, sL18, sL21, sL23, sL24, sL26, sL29, sL31, sL32, sL34, sL36, sL37, sL39, sL40, sL41, sL43, sL45, sL46, sL47, sL48, sL49, sL50, sL51, sL52, sL53, sL55, sL57, sL59, sL61, sL62, sL63, sL64, sL65, sL67, sL68, sL70, sL71, sL73, sL74, sL75, sR0_0, sR0_2, sR0_5, sR0_6, sR0_11, sR2_5, sR2_6, sR2_7, sR4_1, sR4_2, sR4_4, sR7_0, sR7_1, sR13_1, sR13_2, sR13_4, sR16_0, sR16_1, sR19_1, sR19_2, sR19_4, sR22_0, sR22_1, sR25_0, sR25_2, sR25_3, sR25_4, sR25_5, sR25_6, sR25_7, sR25_8, sR25_10, sR27_1, sR27_2, sR27_4, sR30_0, sR30_1, sR33_0, sR35_0, sR35_1, sR38_0, sR38_1, sR38_2, sR42_0, sR42_5, sR42_7, sR42_11, sR42_12, sR42_13, sR53_0, sR53_1, sR53_2, sR53_3, sR54_1, sR56_1, sR58_1, sR60_1, sR65_0, sR65_1, sR65_2, sR66_0, sR66_1, sR69_0, sR69_1, sR72_0, sR72_1, ↓sB0_0, ↓sB0_2, ↓sB0_5, ↓sB0_6, ↓sB0_11, ↓sB2_5, ↓sB2_6, ↓sB2_7, ↓sB4_1, ↓sB4_2, ↓sB4_4, ↓sB7_0, ↓sB7_1, ↓sB13_1, ↓sB13_2, ↓sB13_4, ↓sB16_0, ↓sB16_1, ↓sB19_1, ↓sB19_2, ↓sB19_4, ↓sB22_0, ↓sB22_1, ↓sB25_0, ↓sB25_2, ↓sB25_3, ↓sB25_4, ↓sB25_5, ↓sB25_6, ↓sB25_7, ↓sB25_8, ↓sB25_10, ↓sB27_1, ↓sB27_2, ↓sB27_4, ↓sB30_0, ↓sB30_1, ↓sB33_0, ↓sB35_0, ↓sB35_1, ↓sB38_0, ↓sB38_1, ↓sB38_2, ↓sB42_0, ↓sB42_5, ↓sB42_7, ↓sB42_11, ↓sB42_12, ↓sB42_13, ↓sB53_0, ↓sB53_1, ↓sB53_2, ↓sB53_3, ↓sB54_1, ↓sB56_1, ↓sB58_1, ↓sB60_1, ↓sB65_0, ↓sB65_1, ↓sB65_2, ↓sB66_0, ↓sB66_1, ↓sB69_0, ↓sB69_1, ↓sB72_0, ↓sB72_1, ↓bd_of r11, ↓bd_of t2, ↓bd_of d3, g1, g5, hk9, gd2, gd4, gd5, hv, ↓zc_of e1', ↓bd_of eu, ↓bd_of l1]
        · subst l4
          refine Or.inl ⟨(iI ((x + 1 : Nat) : Int), h'), ?_, h', f', c', rfl, fm', l5.next, l6, by omega⟩
          unfold bX4_noSwap_2 kX4_noSwap_64
          simp (maxSteps := 1000000) (disch := (first | assumption | exact ne_b rfl | omega)) only [↓reduceIte, ↓zlet_eq, ↓bdR_sI, ↓bdR_sJ, ↓bdR_aI, zc2_some, Option.bind_some, ↓si_m1, ↓si_m2, ↓si_m3, iI_lit, iI_add, iI_sub, iI_mul, leT, leF, ltT, ltF, eqT, eqF, zinT, clI, Int.toNat_natCast, Int.reduceToNat, tN1, tNa, tN0, tNm, if_pos, if_neg, zI_sI, zI_sJ, zI_sR, zJ_sI, zJ_sJ, zJ_sR, zR_sI, zR_sJ, zR_sR, zK_sI, zK_sJ, zK_sR, zL_sI, zL_sJ, zL_sR, zI_aI, zJ_aI, zR_aI, zK_aI, zL_aI, z2_at, z2_a, z2_k, z1_self, z1_ne, true_and, and_true, bIt, bIf, Bool.false_eq_true, Bool.true_eq_false, eq_self, not_true_eq_false, not_false_eq_true, sK0, sK1, sK2, sK3, sK4, sK5, sK6, sK7, sK8, sK9, sK10, sK11, sK12, sK13, sK14, sK15, sK16, sK17, sK18, sK19, sK20, sK21, sK22, sK23, sK24, sK25, sK26, sK27, sK28, sK29, sK30, sK31, sK32, sK33, sK34, sK35, sK36, sK37, sK38, sK39, sK40, sK41, sK42, sK43, sK44, sK45, sK46, sK47, sK48, sK49, sK50, sK51, sK52, sK53, sK54, sK55, sK56, sK57, sK58, sK59, sK60, sK61, sK62, sK63, sK64, sK65, sK66, sK67, sK68, sK69, sK70, sK71, sK72, sK73, sK74, sK75, sL1, sL3, sL6, sL8, sL9, sL10, sL11, sL12, sL15, sL17, sL18, sL21, sL23, sL24, sL26, sL29, sL31, sL32, sL34, sL36, sL37, sL39, sL40, sL41, sL43, sL45, sL46, sL47, sL48, sL49, sL50, sL51, sL52, sL53, sL55, sL57, sL59, sL61, sL62, sL63, sL64, sL65, sL67, sL68, sL70, sL71, sL73, sL74, sL75, sR0_0, sR0_2, sR0_5, sR0_6, sR0_11, sR2_5, sR2_6, sR2_7, sR4_1, sR4_2, sR4_4, sR7_0, sR7_1, sR13_1, sR13_2, sR13_4, sR16_0, sR16_1, sR19_1, sR19_2, sR19_4, sR22_0, sR22_1, sR25_0, sR25_2, sR25_3, sR25_4, sR25_5, sR25_6, sR25_7, sR25_8, sR25_10, sR27_1, sR27_2, sR27_4, sR30_0, sR30_1, sR33_0, sR35_0, sR35_1, sR38_0, sR38_1, sR38_2, sR42_0, sR42_5, sR42_7, sR42_11, sR42_12, sR42_13, sR53_0, sR53_1, sR53_2, sR53_3, sR54_1, sR56_1, sR58_1, sR60_1, sR65_0, sR65_1, sR65_2, sR66_0, sR66_1, sR69_0, sR69_1, sR72_0, sR72_1, ↓sB0_0, ↓sB0_2, ↓sB0_5, ↓sB0_6, ↓sB0_11, ↓sB2_5, ↓sB2_6, ↓sB2_7, ↓sB4_1, ↓sB4_2, ↓sB4_4, ↓sB7_0, ↓sB7_1, ↓sB13_1, ↓sB13_2, ↓sB13_4, ↓sB16_0, ↓sB16_1, ↓sB19_1, ↓sB19_2, ↓sB19_4, ↓sB22_0, ↓sB22_1, ↓sB25_0, ↓sB25_2, ↓sB25_3, ↓sB25_4, ↓sB25_5, ↓sB25_6, ↓sB25_7, ↓sB25_8, ↓sB25_10, ↓sB27_1, ↓sB27_2, ↓sB27_4, ↓sB30_0, ↓sB30_1, ↓sB33_0, ↓sB35_0, ↓sB35_1, ↓sB38_0, ↓sB38_1, ↓sB38_2, ↓sB42_0, ↓sB42_5, ↓sB42_7, ↓sB42_11, ↓sB42_12, ↓sB42_13, ↓sB53_0, ↓sB53_1, ↓sB53_2, ↓sB53_3, ↓sB54_1, ↓sB56_1, ↓sB58_1, ↓sB60_1, ↓sB65_0, ↓sB65_1, ↓sB65_2, ↓sB66_0, ↓sB66_1, ↓sB69_0, ↓sB69_1, ↓sB72_0, ↓sB72_1, ↓bd_of r11, ↓bd_of t2, ↓bd_of d3, g1, g5, hk9, gd2, gd4, gd5, hv, ↓zc_of e1', ↓bd_of eu, ↓bd_of l1]
          all_goals rfl
      · have hne : ¬ ((fwi ρ (tH t) (ρ x) : Nat) : Int) = (x : Nat) := by omega
        refine Or.inl ⟨(iI ((x + 1 : Nat) : Int), h), ?_, h, f, c, rfl, fm, k2.skip (Or.inr (v4 cw)), k3, by omega⟩
        generalize fwi ρ (tH t) (ρ x) = v at *
        unfold bX4_noSwap_2
        simp (maxSteps := 1000000) (disch := (first | assumption | exact ne_b rfl | omega)) only [↓reduceIte, ↓zlet_eq, ↓bdR_sI, ↓bdR_sJ, ↓bdR_aI, zc2_some, Option.bind_some, ↓si_m1, ↓si_m2, ↓si_m3, iI_lit, iI_add, iI_sub, iI_mul, leT, leF, ltT, ltF, eqT, eqF, zinT, clI, Int.toNat_natCast, Int.reduceToNat, tN1, tNa, tN0, tNm, if_pos, if_neg, zI_sI, zI_sJ, zI_sR, zJ_sI, zJ_sJ, zJ_sR, zR_sI, zR_sJ, zR_sR, zK_sI, zK_sJ, zK_sR, zL_sI, zL_sJ, zL_sR, zI_aI, zJ_aI, zR_aI, zK_aI, zL_aI, z2_at, z2_a, z2_k, z1_self, z1_ne, true_and, and_true, bIt, bIf, Bool.false_eq_true, Bool.true_eq_false, eq_self, not_true_eq_false, not_false_eq_true, sK0, sK1, sK2, sK3, sK4, sK5, sK6, sK7, sK8, sK9, sK10, sK11, sK12, sK13, sK14, sK15, sK16, sK17, sK18, sK19, sK20, sK21, sK22, sK23, sK24, sK25, sK26, sK27, sK28, sK29, sK30, sK31, sK32, sK33, sK34, sK35, sK36, sK37, sK38, sK39, sK40, sK41, sK42, sK43, sK44, sK45, sK46, sK47, sK48, sK49, sK50, sK51, sK52, sK53, sK54, sK55, sK56, sK57, sK58, sK59, sK60, sK61, sK62, sK63, sK64, sK65, sK66, sK67, sK68, sK69, sK70, sK71, sK72, sK73, sK74, sK75, sL1, sL3, sL6, sL8, sL9, sL10, sL11, sL12, sL15, sL17, sL18, sL21, sL23, sL24, sL26, sL29, sL31, sL32, sL34, sL36, sL37, sL39, sL40, sL41, sL43, sL45, sL46, sL47, sL48, sL49, sL50, sL51, sL52, sL53, sL55, sL57, sL59, sL61, sL62, sL63, sL64, sL65, sL67, sL68, sL70, sL71, sL73, sL74, sL75, sR0_0, sR0_2, sR0_5, sR0_6, sR0_11, sR2_5, sR2_6, sR2_7, sR4_1, sR4_2, sR4_4, sR7_0, sR7_1, sR13_1, sR13_2, sR13_4, sR16_0, sR16_1, sR19_1, sR19_2, sR19_4, sR22_0, sR22_1, sR25_0, sR25_2, sR25_3, sR25_4, sR25_5, sR25_6, sR25_7, sR25_8, sR25_10, sR27_1, sR27_2, sR27_4, sR30_0, sR30_1, sR33_0, sR35_0, sR35_1, sR38_0, sR38_1, sR38_2, sR42_0, sR42_5, sR42_7, sR42_11, sR42_12, sR42_13, sR53_0, sR53_1, sR53_2, sR53_3, sR54_1, sR56_1, sR58_1, sR60_1, sR65_0, sR65_1, sR65_2, sR66_0, sR66_1, sR69_0, sR69_1, sR72_0, sR72_1, ↓sB0_0, ↓sB0_2, ↓sB0_5, ↓sB0_6, ↓sB0_11, ↓sB2_5, ↓sB2_6, ↓sB2_7, ↓sB4_1, ↓sB4_2, ↓sB4_4, ↓sB7_0, ↓sB7_1, ↓sB13_1, ↓sB13_2, ↓sB13_4, ↓sB16_0, ↓sB16_1, ↓sB19_1, ↓sB19_2, ↓sB19_4, ↓sB22_0, ↓sB22_1, ↓sB25_0, ↓sB25_2, ↓sB25_3, ↓sB25_4, ↓sB25_5, ↓sB25_6, ↓sB25_7, ↓sB25_8, ↓sB25_10, ↓sB27_1, ↓sB27_2, ↓sB27_4, ↓sB30_0, ↓sB30_1, ↓sB33_0, ↓sB35_0, ↓sB35_1, ↓sB38_0, ↓sB38_1, ↓sB38_2, ↓sB42_0, ↓sB42_5, ↓sB42_7, ↓sB42_11, ↓sB42_12, ↓sB42_13, ↓sB53_0, ↓sB53_1, ↓sB53_2, ↓sB53_3, ↓sB54_1, ↓sB56_1, ↓sB58_1, ↓sB60_1, ↓sB65_0, ↓sB65_1, ↓sB65_2, ↓sB66_0, ↓sB66_1, ↓sB69_0, ↓sB69_1, ↓sB72_0, ↓sB72_1, ↓bd_of r11, ↓bd_of t2, ↓bd_of d3, g1, g5, hk9, gd2, gd4, gd5, hv, ↓zc_of e1']
        all_goals rfl
  · intro z ⟨h, f, c, ez, fm, k2, k3, k4⟩
    subst ez
    have s1 := s0.fm fm
    have td1 := tdh.fm fm (by simp)
    have r11 : zR h 25 1 = some td := by rw [fm.R]; exact r1
    obtain ⟨t1, t2, -⟩ := tdS s1 a1
    have hk9 := td1.2.2.1.f9
    refine ⟨1, (iI (tH t), h), ?_, fm, k3.z, Or.inr ⟨rfl, k2.done⟩⟩
    show bX4_noSwap_2 g 25 (54 + 2 * i) (iI 1) (iI (tH t)) h = _
    unfold bX4_noSwap_2
    simp (maxSteps := 1000000) (disch := (first | assumption | exact ne_b rfl | omega)) only [↓reduceIte, ↓zlet_eq, ↓bdR_sI, ↓bdR_sJ, ↓bdR_aI, zc2_some, Option.bind_some, ↓si_m1, ↓si_m2, ↓si_m3, iI_lit, iI_add, iI_sub, iI_mul, leT, leF, ltT, ltF, eqT, eqF, zinT, clI, Int.toNat_natCast, Int.reduceToNat, tN1, tNa, tN0, tNm, if_pos, if_neg, zI_sI, zI_sJ, zI_sR, zJ_sI, zJ_sJ, zJ_sR, zR_sI, zR_sJ, zR_sR, zK_sI, zK_sJ, zK_sR, zL_sI, zL_sJ, zL_sR, zI_aI, zJ_aI, zR_aI, zK_aI, zL_aI, z2_at, z2_a, z2_k, z1_self, z1_ne, true_and, and_true, bIt, bIf, Bool.false_eq_true, Bool.true_eq_false, eq_self, not_true_eq_false, not_false_eq_true, sK0, sK1, sK2, sK3, sK4, sK5, sK6, sK7, sK8, sK9, sK10, sK11, sK12, sK13, sK14, sK15, sK16, sK17, sK18, sK19, sK20, sK21, sK22, sK23, sK24, sK25, sK26, sK27, sK28, sK29, sK30, sK31, sK32, sK33, sK34, sK35, sK36, sK37, sK38, sK39, sK40, sK41, sK42, sK43, sK44, sK45, sK46, sK47, sK48, sK49, sK50, sK51, sK52, sK53, sK54, sK55, sK56, sK57, sK58, sK59, sK60, sK61, sK62, sK63, sK64, sK65, sK66, sK67, sK68, sK69, sK70, sK71, sK72, sK73, sK74, sK75, sL1, sL3, sL6, sL8, sL9, sL10, sL11, sL12, sL15, sL17, sL18, sL21, sL23, sL24, sL26, sL29, sL31, sL32, sL34, sL36, sL37, sL39, sL40, sL41, sL43, sL45, sL46, sL47, sL48, sL49, sL50, sL51, sL52, sL53, sL55, sL57, sL59, sL61, sL62, sL63, sL64, sL65, sL67, sL68, sL70, sL71, sL73, sL74, sL75, sR0_0, sR0_2, sR0_5, sR0_6, sR0_11, sR2_5, sR2_6, sR2_7, sR4_1, sR4_2, sR4_4, sR7_0, sR7_1, sR13_1, sR13_2, sR13_4, sR16_0, sR16_1, sR19_1, sR19_2, sR19_4, sR22_0, sR22_1, sR25_0, sR25_2, sR25_3, sR25_4, sR25_5, sR25_6, sR25_7, sR25_8, sR25_10, sR27_1, sR27_2, sR27_4, sR30_0, sR30_1, sR33_0, sR35_0, sR35_1, sR38_0, sR38_1, sR38_2, sR42_0, sR42_5, sR42_7, sR42_11, sR42_12, sR42_13, sR53_0, sR53_1, sR53_2, sR53_3, sR54_1, sR56_1, sR58_1, sR60_1, sR65_0, sR65_1, sR65_2, sR66_0, sR66_1, sR69_0, sR69_1, sR72_0, sR72_1, ↓sB0_0, ↓sB0_2, ↓sB0_5, ↓sB0_6, ↓sB0_11, ↓sB2_5, ↓sB2_6, ↓sB2_7, ↓sB4_1, ↓sB4_2, ↓sB4_4, ↓sB7_0, ↓sB7_1, ↓sB13_1, ↓sB13_2, ↓sB13_4, ↓sB16_0, ↓sB16_1, ↓sB19_1, ↓sB19_2, ↓sB19_4, ↓sB22_0, ↓sB22_1, ↓sB25_0, ↓sB25_2, ↓sB25_3, ↓sB25_4, ↓sB25_5, ↓sB25_6, ↓sB25_7, ↓sB25_8, ↓sB25_10, ↓sB27_1, ↓sB27_2, ↓sB27_4, ↓sB30_0, ↓sB30_1, ↓sB33_0, ↓sB35_0, ↓sB35_1, ↓sB38_0, ↓sB38_1, ↓sB38_2, ↓sB42_0, ↓sB42_5, ↓sB42_7, ↓sB42_11, ↓sB42_12, ↓sB42_13, ↓sB53_0, ↓sB53_1, ↓sB53_2, ↓sB53_3, ↓sB54_1, ↓sB56_1, ↓sB58_1, ↓sB60_1, ↓sB65_0, ↓sB65_1, ↓sB65_2, ↓sB66_0, ↓sB66_1, ↓sB69_0, ↓sB69_1, ↓sB72_0, ↓sB72_1, ↓bd_of r11, ↓bd_of t2, g1, g5, hk9]
/-- the rows laid, into the set -/
theorem swj_21 {g h0 : Zh} {td : Nat} {t : Tk} {rc : Nat} {ru : Nat → Nat} {i sp : Nat} {ρ : Nat → Int} (tok : Tok t) (sg : St g) (s0 : St h0) (r1 : zR h0 25 1 = some td) (tdh : TD h0 td t rc ru) (hi : i < rc) (hb : ∀ x, x < tH t → ρ x = -2 ∨ (0 ≤ ρ x ∧ ρ x < 2147483648)) (hρ : ∀ x, x < tH t → zI h0 (54 + 2 * i + 1) x = iI (ρ x)) (rs : RS h0 (fun _ => none) 0 sp) : ∃ e x' h' c, lp (fun q : Int32 × Zh => bX4_swapsJudged_21 g 25 (54 + 2 * i) q.1 q.2) zB (iI 0, h0) = some (e, (x', h')) ∧ Fm [39, 40, 41] h0 h' ∧ c ≤ tH t ∧ RS h' (fsw ρ (tH t)) c sp := by
  obtain ⟨bn4, bn12, bu1, bu4, bnu, bk2, bk5, bkn, bp1, bp2, bpk, bH, bsp, bs1, bs4, bT1, bT16, bR1, bR2, bH1, bff, bff1⟩ := tok.b
  have a1 := tdh.1
  have hrc := tdh.2.2.2.2.1
  obtain ⟨g1, -, -, -, g5, -⟩ := tdS sg a1
  obtain ⟨-, gd2, -, gd4, gd5⟩ := ldS sg (show i < 4 by omega)
  have q55 : 54 + 2 * i + 1 ∉ [39, 40, 41] := by simp; omega
  have := lp_cnt (body := fun q : Int32 × Zh => bX4_swapsJudged_21 g 25 (54 + 2 * i) q.1 q.2) (tH t) (fun x z => ∃ h c, z = ((iI (x : Int), h) : Int32 × Zh) ∧ Fm [39, 40, 41] h0 h ∧ c ≤ x ∧ RS h (fsw ρ x) c sp) (fun e z => Fm [39, 40, 41] h0 z.2 ∧ ∃ c, c ≤ tH t ∧ RS z.2 (fsw ρ (tH t)) c sp) ?_ ?_ (by omega) (s := (iI 0, h0)) ⟨h0, 0, rfl, Fm.rf, Nat.le_refl _, by rw [fsw_0]; exact rs⟩
  · obtain ⟨e, z, l1, l2, c, l3, l4⟩ := this
    exact ⟨e + 1, z.1, z.2, c, l1, l2, l3, l4⟩
  · intro x z hx ⟨h, c, ez, fm, k2, k3⟩
    subst ez
    have s1 := s0.fm fm
    have td1 := tdh.fm fm (by simp)
    have r11 : zR h 25 1 = some td := by rw [fm.R]; exact r1
    obtain ⟨t1, t2, -⟩ := tdS s1 a1
    obtain ⟨-, -, d3, -, -⟩ := ldS s1 (show i < 4 by omega)
    have hk9 := td1.2.2.1.f9
    have hv : zI h (54 + 2 * i + 1) x = iI (ρ x) := by rw [fm.I q55]; exact hρ x hx
    show (∃ s', bX4_swapsJudged_21 g 25 (54 + 2 * i) (iI x) h = some (0, s') ∧ _) ∨ (∃ e s', bX4_swapsJudged_21 g 25 (54 + 2 * i) (iI x) h = some (e + 1, s') ∧ _)
    rcases hb x hx with hm | ⟨hp, hp2⟩
    · rw [hm] at hv
      refine Or.inl ⟨(iI ((x + 1 : Nat) : Int), h), ?_, h, c, rfl, fm, by omega, by rw [fsw_neg (by omega)]; exact k3⟩
      unfold bX4_swapsJudged_21
      simp (maxSteps := 1000000) (disch := (first | assumption | exact ne_b rfl | omega)) only [↓reduceIte, ↓zlet_eq, ↓bdR_sI, ↓bdR_sJ, ↓bdR_aI, zc2_some, Option.bind_some, ↓si_m1, ↓si_m2, ↓si_m3, iI_lit, iI_add, iI_sub, iI_mul, leT, leF, ltT, ltF, eqT, eqF, zinT, clI, Int.toNat_natCast, Int.reduceToNat, tN1, tNa, tN0, tNm, if_pos, if_neg, zI_sI, zI_sJ, zI_sR, zJ_sI, zJ_sJ, zJ_sR, zR_sI, zR_sJ, zR_sR, zK_sI, zK_sJ, zK_sR, zL_sI, zL_sJ, zL_sR, zI_aI, zJ_aI, zR_aI, zK_aI, zL_aI, z2_at, z2_a, z2_k, z1_self, z1_ne, true_and, and_true, bIt, bIf, Bool.false_eq_true, Bool.true_eq_false, eq_self, not_true_eq_false, not_false_eq_true, sK0, sK1, sK2, sK3, sK4, sK5, sK6, sK7, sK8, sK9, sK10, sK11, sK12, sK13, sK14, sK15, sK16, sK17, sK18, sK19, sK20, sK21, sK22, sK23, sK24, sK25, sK26, sK27, sK28, sK29, sK30, sK31, sK32, sK33, sK34, sK35, sK36, sK37, sK38, sK39, sK40, sK41, sK42, sK43, sK44, sK45, sK46, sK47, sK48, sK49, sK50, sK51, sK52, sK53, sK54, sK55, sK56, sK57, sK58, sK59, sK60, sK61, sK62, sK63, sK64, sK65, sK66, sK67, sK68, sK69, sK70, sK71, sK72, sK73, sK74, sK75, sL1, sL3, sL6, sL8, sL9, sL10, sL11, sL12, sL15, sL17, sL18, sL21, sL23, sL24, sL26, sL29, sL31, sL32, sL34, sL36, sL37, sL39, sL40, sL41, sL43, sL45, sL46, sL47, sL48, sL49, sL50, sL51, sL52, sL53, sL55, sL57, sL59, sL61, sL62, sL63, sL64, sL65, sL67, sL68, sL70, sL71, sL73, sL74, sL75, sR0_0, sR0_2, sR0_5, sR0_6, sR0_11, sR2_5, sR2_6, sR2_7, sR4_1, sR4_2, sR4_4, sR7_0, sR7_1, sR13_1, sR13_2, sR13_4, sR16_0, sR16_1, sR19_1, sR19_2, sR19_4, sR22_0, sR22_1, sR25_0, sR25_2, sR25_3, sR25_4, sR25_5, sR25_6, sR25_7, sR25_8, sR25_10, sR27_1, sR27_2, sR27_4, sR30_0, sR30_1, sR33_0, sR35_0, sR35_1, sR38_0, sR38_1, sR38_2, sR42_0, sR42_5, sR42_7, sR42_11, sR42_12, sR42_13, sR53_0, sR53_1, sR53_2, sR53_3, sR54_1, sR56_1, sR58_1, sR60_1, sR65_0, sR65_1, sR65_2, sR66_0, sR66_1, sR69_0, sR69_1, sR72_0, sR72_1, ↓sB0_0, ↓sB0_2, ↓sB0_5, ↓sB0_6, ↓sB0_11, ↓sB2_5, ↓sB2_6, ↓sB2_7, ↓sB4_1, ↓sB4_2, ↓sB4_4, ↓sB7_0, ↓sB7_1, ↓sB13_1, ↓sB13_2, ↓sB13_4, ↓sB16_0, ↓sB16_1, ↓sB19_1, ↓sB19_2, ↓sB19_4, ↓sB22_0, ↓sB22_1, ↓sB25_0, ↓sB25_2, ↓sB25_3, ↓sB25_4, ↓sB25_5, ↓sB25_6, ↓sB25_7, ↓sB25_8, ↓sB25_10, ↓sB27_1, ↓sB27_2, ↓sB27_4, ↓sB30_0, ↓sB30_1, ↓sB33_0, ↓sB35_0, ↓sB35_1, ↓sB38_0, ↓sB38_1, ↓sB38_2, ↓sB42_0, ↓sB42_5, ↓sB42_7, ↓sB42_11, ↓sB42_12, ↓sB42_13, ↓sB53_0, ↓sB53_1, ↓sB53_2, ↓sB53_3, ↓sB54_1, ↓sB56_1, ↓sB58_1, ↓sB60_1, ↓sB65_0, ↓sB65_1, ↓sB65_2, ↓sB66_0, ↓sB66_1, ↓sB69_0, ↓sB69_1, ↓sB72_0, ↓sB72_1, ↓bd_of r11, ↓bd_of t2, ↓bd_of d3, g1, g5, hk9, gd2, gd4, gd5, hv]
      all_goals rfl
    · have ht : ((ρ x).toNat : Int) = ρ x := Int.toNat_of_nonneg hp
      obtain ⟨h3, c', e1, e2, e3, e4⟩ := fX8_put_eq (r := (ρ x).toNat) (w := x) s1 k3 (by omega) (by omega)
      rw [fsw_s hp] at e4
      rw [ht] at e1
      refine Or.inl ⟨(iI ((x + 1 : Nat) : Int), h3), ?_, h3, c', rfl, fm.tr e2, by omega, e4⟩
      unfold bX4_swapsJudged_21
      simp (maxSteps := 1000000) (disch := (first | assumption | exact ne_b rfl | omega)) only [↓reduceIte, ↓zlet_eq, ↓bdR_sI, ↓bdR_sJ, ↓bdR_aI, zc2_some, Option.bind_some, ↓si_m1, ↓si_m2, ↓si_m3, iI_lit, iI_add, iI_sub, iI_mul, leT, leF, ltT, ltF, eqT, eqF, zinT, clI, Int.toNat_natCast, Int.reduceToNat, tN1, tNa, tN0, tNm, if_pos, if_neg, zI_sI, zI_sJ, zI_sR, zJ_sI, zJ_sJ, zJ_sR, zR_sI, zR_sJ, zR_sR, zK_sI, zK_sJ, zK_sR, zL_sI, zL_sJ, zL_sR, zI_aI, zJ_aI, zR_aI, zK_aI, zL_aI, z2_at, z2_a, z2_k, z1_self, z1_ne, true_and, and_true, bIt, bIf, Bool.false_eq_true, Bool.true_eq_false, eq_self, not_true_eq_false, not_false_eq_true, sK0, sK1, sK2, sK3, sK4, sK5, sK6, sK7, sK8, sK9, sK10, sK11, sK12, sK13, sK14, sK15, sK16, sK17, sK18, sK19, sK20, sK21, sK22, sK23, sK24, sK25, sK26, sK27, sK28, sK29, sK30, sK31, sK32, sK33, sK34, sK35, sK36, sK37, sK38, sK39, sK40, sK41, sK42, sK43, sK44, sK45, sK46, sK47, sK48, sK49, sK50, sK51, sK52, sK53, sK54, sK55, sK56, sK57, sK58, sK59, sK60, sK61, sK62, sK63, sK64, sK65, sK66, sK67, sK68, sK69, sK70, sK71, sK72, sK73, sK74, sK75, sL1, sL3, sL6, sL8, sL9, sL10, sL11, sL12, sL15, sL17, sL18, sL21, sL23, sL24, sL26, sL29, sL31, sL32, sL34, sL36, sL37, sL39, sL40, sL41, sL43, sL45, sL46, sL47, sL48, sL49, sL50, sL51, sL52, sL53, sL55, sL57, sL59, sL61, sL62, sL63, sL64, sL65, sL67, sL68, sL70, sL71, sL73, sL74, sL75, sR0_0, sR0_2, sR0_5, sR0_6, sR0_11, sR2_5, sR2_6, sR2_7, sR4_1, sR4_2, sR4_4, sR7_0, sR7_1, sR13_1, sR13_2, sR13_4, sR16_0, sR16_1, sR19_1, sR19_2, sR19_4, sR22_0, sR22_1, sR25_0, sR25_2, sR25_3, sR25_4, sR25_5, sR25_6, sR25_7, sR25_8, sR25_10, sR27_1, sR27_2, sR27_4, sR30_0, sR30_1, sR33_0, sR35_0, sR35_1, sR38_0, sR38_1, sR38_2, sR42_0, sR42_5, sR42_7, sR42_11, sR42_12, sR42_13, sR53_0, sR53_1, sR53_2, sR53_3, sR54_1, sR56_1, sR58_1, sR60_1, sR65_0, sR65_1, sR65_2, sR66_0, sR66_1, sR69_0, sR69_1, sR72_0, sR72_1, ↓sB0_0, ↓sB0_2, ↓sB0_5, ↓sB0_6, ↓sB0_11, ↓sB2_5, ↓sB2_6, ↓sB2_7, ↓sB4_1, ↓sB4_2, ↓sB4_4, ↓sB7_0, ↓sB7_1, ↓sB13_1, ↓sB13_2, ↓sB13_4, ↓sB16_0, ↓sB16_1, ↓sB19_1, ↓sB19_2, ↓sB19_4, ↓sB22_0, ↓sB22_1, ↓sB25_0, ↓sB25_2, ↓sB25_3, ↓sB25_4, ↓sB25_5, ↓sB25_6, ↓sB25_7, ↓sB25_8, ↓sB25_10, ↓sB27_1, ↓sB27_2, ↓sB27_4, ↓sB30_0, ↓sB30_1, ↓sB33_0, ↓sB35_0, ↓sB35_1, ↓sB38_0, ↓sB38_1, ↓sB38_2, ↓sB42_0, ↓sB42_5, ↓sB42_7, ↓sB42_11, ↓sB42_12, ↓sB42_13, ↓sB53_0, ↓sB53_1, ↓sB53_2, ↓sB53_3, ↓sB54_1, ↓sB56_1, ↓sB58_1, ↓sB60_1, ↓sB65_0, ↓sB65_1, ↓sB65_2, ↓sB66_0, ↓sB66_1, ↓sB69_0, ↓sB69_1, ↓sB72_0, ↓sB72_1, ↓bd_of r11, ↓bd_of t2, ↓bd_of d3, g1, g5, hk9, gd2, gd4, gd5, hv, ↓zc_of e1]
      all_goals rfl
  · intro z ⟨h, c, ez, fm, k2, k3⟩
    subst ez
    have s1 := s0.fm fm
    have td1 := tdh.fm fm (by simp)
    have r11 : zR h 25 1 = some td := by rw [fm.R]; exact r1
    obtain ⟨t1, t2, -⟩ := tdS s1 a1
    have hk9 := td1.2.2.1.f9
    refine ⟨0, (iI (tH t), h), ?_, fm, c, k2, k3⟩
    show bX4_swapsJudged_21 g 25 (54 + 2 * i) (iI (tH t)) h = _
    unfold bX4_swapsJudged_21
    simp (maxSteps := 1000000) (disch := (first | assumption | exact ne_b rfl | omega)) only [↓reduceIte, ↓zlet_eq, ↓bdR_sI, ↓bdR_sJ, ↓bdR_aI, zc2_some, Option.bind_some, ↓si_m1, ↓si_m2, ↓si_m3, iI_lit, iI_add, iI_sub, iI_mul, leT, leF, ltT, ltF, eqT, eqF, zinT, clI, Int.toNat_natCast, Int.reduceToNat, tN1, tNa, tN0, tNm, if_pos, if_neg, zI_sI, zI_sJ, zI_sR, zJ_sI, zJ_sJ, zJ_sR, zR_sI, zR_sJ, zR_sR, zK_sI, zK_sJ, zK_sR, zL_sI, zL_sJ, zL_sR, zI_aI, zJ_aI, zR_aI, zK_aI, zL_aI, z2_at, z2_a, z2_k, z1_self, z1_ne, true_and, and_true, bIt, bIf, Bool.false_eq_true, Bool.true_eq_false, eq_self, not_true_eq_false, not_false_eq_true, sK0, sK1, sK2, sK3, sK4, sK5, sK6, sK7, sK8, sK9, sK10, sK11, sK12, sK13, sK14, sK15, sK16, sK17, sK18, sK19, sK20, sK21, sK22, sK23, sK24, sK25, sK26, sK27, sK28, sK29, sK30, sK31, sK32, sK33, sK34, sK35, sK36, sK37, sK38, sK39, sK40, sK41, sK42, sK43, sK44, sK45, sK46, sK47, sK48, sK49, sK50, sK51, sK52, sK53, sK54, sK55, sK56, sK57, sK58, sK59, sK60, sK61, sK62, sK63, sK64, sK65, sK66, sK67, sK68, sK69, sK70, sK71, sK72, sK73, sK74, sK75, sL1, sL3, sL6, sL8, sL9, sL10, sL11, sL12, sL15, sL17, sL18, sL21, sL23, sL24, sL26, sL29, sL31, sL32, sL34, sL36, sL37, sL39, sL40, sL41, sL43, sL45, sL46, sL47, sL48, sL49, sL50, sL51, sL52, sL53, sL55, sL57, sL59, sL61, sL62, sL63, sL64, sL65, sL67, sL68, sL70, sL71, sL73, sL74, sL75, sR0_0, sR0_2, sR0_5, sR0_6, sR0_11, sR2_5, sR2_6, sR2_7, sR4_1, sR4_2, sR4_4, sR7_0, sR7_1, sR13_1, sR13_2, sR13_4, sR16_0, sR16_1, sR19_1, sR19_2, sR19_4, sR22_0, sR22_1, sR25_0, sR25_2, sR25_3, sR25_4, sR25_5, sR25_6, sR25_7, sR25_8, sR25_10, sR27_1, sR27_2, sR27_4, sR30_0, sR30_1, sR33_0, sR35_0, sR35_1, sR38_0, sR38_1, sR38_2, sR42_0, sR42_5, sR42_7, sR42_11, sR42_12, sR42_13, sR53_0, sR53_1, sR53_2, sR53_3, sR54_1, sR56_1, sR58_1, sR60_1, sR65_0, sR65_1, sR65_2, sR66_0, sR66_1, sR69_0, sR69_1, sR72_0, sR72_1, ↓sB0_0, ↓sB0_2, ↓sB0_5, ↓sB0_6, ↓sB0_11, ↓sB2_5, ↓sB2_6, ↓sB2_7, ↓sB4_1, ↓sB4_2, ↓sB4_4, ↓sB7_0, ↓sB7_1, ↓sB13_1, ↓sB13_2, ↓sB13_4, ↓sB16_0, ↓sB16_1, ↓sB19_1, ↓sB19_2, ↓sB19_4, ↓sB22_0, ↓sB22_1, ↓sB25_0, ↓sB25_2, ↓sB25_3, ↓sB25_4, ↓sB25_5, ↓sB25_6, ↓sB25_7, ↓sB25_8, ↓sB25_10, ↓sB27_1, ↓sB27_2, ↓sB27_4, ↓sB30_0, ↓sB30_1, ↓sB33_0, ↓sB35_0, ↓sB35_1, ↓sB38_0, ↓sB38_1, ↓sB38_2, ↓sB42_0, ↓sB42_5, ↓sB42_7, ↓sB42_11, ↓sB42_12, ↓sB42_13, ↓sB53_0, ↓sB53_1, ↓sB53_2, ↓sB53_3, ↓sB54_1, ↓sB56_1, ↓sB58_1, ↓sB60_1, ↓sB65_0, ↓sB65_1, ↓sB65_2, ↓sB66_0, ↓sB66_1, ↓sB69_0, ↓sB69_1, ↓sB72_0, ↓sB72_1, ↓bd_of r11, ↓bd_of t2, g1, g5, hk9]
