/-! the class's pairing: handing rows on along a way; the search -/
def CC (h : Zh) (t : Tk) (CR : Nat) (cr : Nat → Nat → Nat) : Prop := ∀ x, x < tH t → ∀ i, i < pcn t → zI h CR (x * pcn t + i) = iI ((cr x i + 1 : Nat) : Int) ∨ (zI h CR (x * pcn t + i) = iI 0 ∧ cr x i = crS t x i)
theorem CC.fm {S : List Nat} {h h' : Zh} {t : Tk} {CR : Nat} {cr : Nat → Nat → Nat} (c : CC h t CR cr) (f : Fm S h h') (hs : CR ∉ S) : CC h' t CR cr := by
  unfold CC
  rw [f.I hs]
  exact c
theorem at_inj {x y i j m : Nat} (hi : i < m) (hj : j < m) (e : x * m + i = y * m + j) : x = y ∧ i = j := by
  have h1 : (x * m + i) / m = x := by rw [Nat.mul_comm, Nat.mul_add_div (by omega), Nat.div_eq_of_lt hi, Nat.add_zero]
  have h2 : (y * m + j) / m = y := by rw [Nat.mul_comm, Nat.mul_add_div (by omega), Nat.div_eq_of_lt hj, Nat.add_zero]
  have : x = y := by rw [← h1, e, h2]
  subst this
  exact ⟨rfl, by omega⟩
theorem rowAt_c {h : Zh} {t : Tk} {d CR OW x i : Nat} {cr : Nat → Nat → Nat} (p : PX h t d CR OW) (tok : Tok t) (c : CC h t CR cr) (hcr : ∀ x i, x < tH t → i < pcn t → cr x i < ff (tn t) (tsh t)) (hx : x < tH t) (hi : i < pcn t) : ∃ h', fX6_rowAt 42 (iI x) (iI i) h = some (iI ((cr x i * tT t : Nat) : Int), h') ∧ Fm [47, CR] h h' ∧ CC h' t CR cr := by
  obtain ⟨bn4, bn12, bu1, bu4, bnu, bk2, bk5, bkn, bp1, bp2, bpk, bH, bsp, bs1, bs4, bT1, bT16, bR1, bR2, bH1, bff, bff1⟩ := tok.b
  have hb := hcr x i hx hi
  rcases c x hx i hi with e | ⟨e, e2⟩
  · exact ⟨h, rowAt_n p tok hx hi (by omega) e, Fm.rf, c⟩
  · obtain ⟨h', r1, r2, r3⟩ := rowAt_z p tok hx hi e
    refine ⟨h', by rw [e2]; exact r1, r2, fun y hy j hj => ?_⟩
    rw [r3]
    by_cases q : y * pcn t + j = x * pcn t + i
    · obtain ⟨q1, q2⟩ := at_inj hj hi q
      rw [q, z1_self, q1, q2, e2]
      exact Or.inl rfl
    · rw [z1_ne _ _ q]
      exact c y hy j hj
/-- the rows of a hand -/
def fcr (t : Tk) (cr : Nat → Nat → Nat) (x r : Nat) : Prop := ∃ i, i < pcn t ∧ cr x i = r / tT t
theorem fcr_lt {t : Tk} {cr : Nat → Nat → Nat} (hcr : ∀ x i, x < tH t → i < pcn t → cr x i < ff (tn t) (tsh t)) (tok : Tok t) {x r : Nat} (hx : x < tH t) (f : fcr t cr x r) : r < tR t := by
  obtain ⟨bn4, bn12, bu1, bu4, bnu, bk2, bk5, bkn, bp1, bp2, bpk, bH, bsp, bs1, bs4, bT1, bT16, bR1, bR2, bH1, bff, bff1⟩ := tok.b
  obtain ⟨i, hi, e⟩ := f
  have h3 := hcr x i hx hi
  rw [e] at h3
  unfold tR
  have := Nat.div_add_mod r (tT t)
  have h4 := Nat.mod_lt r (show tT t > 0 by omega)
  have h5 : tT t * (r / tT t + 1) ≤ tT t * ff (tn t) (tsh t) := Nat.mul_le_mul_left _ h3
  rw [Nat.mul_add, Nat.mul_one] at h5
  rw [Nat.mul_comm (ff (tn t) (tsh t))]
  omega
def PW (h : Zh) (t : Tk) (OW : Nat) (pr ow : Nat → Option Nat) (ex : Nat) : Prop := (∀ y, y < tH t → y ≠ ex → zI h 43 y = iI (ro (pr y))) ∧ ∀ r, r < tR t → zI h OW r = iI (oo (ow r))
theorem PW.fm {S : List Nat} {h h' : Zh} {t : Tk} {OW ex : Nat} {pr ow : Nat → Option Nat} (c : PW h t OW pr ow ex) (f : Fm S h h') (h1 : 43 ∉ S) (h2 : OW ∉ S) : PW h' t OW pr ow ex := by
  unfold PW
  rw [f.I h1, f.I h2]
  exact c
theorem PW.put {h : Zh} {t : Tk} {OW ex x row : Nat} {pr ow : Nat → Option Nat} (c : PW h t OW pr ow ex) (h43 : OW ≠ 43) : PW (zsI (zsI h 43 x (iI row)) OW row (iI ((x : Int) + 1))) t OW (updN pr x row) (updN ow row x) ex := by
  have h43' : (43 : Nat) ≠ OW := fun e => h43 e.symm
  refine ⟨fun y hy he => ?_, fun r hr => ?_⟩
  · rw [zI_sI, z2_a _ _ _ _ h43', zI_sI]
    by_cases q : y = x
    · rw [q, z2_at, updN_at]; rfl
    · rw [z2_k _ _ _ q, updN_ne _ _ q]; exact c.1 y hy he
  · rw [zI_sI]
    by_cases q : r = row
    · rw [q, z2_at, updN_at]; rfl
    · rw [z2_k _ _ _ q, updN_ne _ _ q, zI_sI, z2_a _ _ _ _ h43]; exact c.2 r hr
theorem hurry_run {t : Tk} {d CR OW ex st n : Nat} {cr : Nat → Nat → Nat} {qu cf : Nat → Nat} {g : Zh} (tok : Tok t) (hH : tH t ≤ 300) (hcr : ∀ x i, x < tH t → i < pcn t → cr x i < ff (tn t) (tsh t)) (pg : PX g t d CR OW) (hq0 : qu 0 = st) (hqd : dst qu n) (hqH : ∀ j, j < n → qu j < tH t ∧ qu j ≠ ex) : ∀ (j : Nat) (pr ow : Nat → Option Nat) (row c N : Nat) (h : Zh), j < n → c + j < 300 → j + 1 < N → PX h t d CR OW → zK g = zK h → zL g = zL h → (∀ i, 1 ≤ i → i ≤ j → ∃ k, k < i ∧ cf (qu i) = qu k ∧ ∃ r, pr (qu i) = some r ∧ fcr t cr (qu k) r) → CnX (tH t) (fcr t cr) pr ow row → fcr t cr (qu j) row → PW h t OW pr ow ex → zI h 51 st = iI (-1) → (∀ i, 1 ≤ i → i < n → zI h 51 (qu i) = iI (cf (qu i))) → ∃ a b e h' pr' ow', lp (fun q : Int32 × Int32 × Int32 × Zh => bX6_hurry_8 g 42 q.1 q.2.1 q.2.2.1 q.2.2.2) N (iI (qu j), iI row, iI c, h) = some (1, (a, b, e, h')) ∧ Fm [43, OW] h h' ∧ PW h' t OW pr' ow' ex ∧ (pr st = none → Cns (tH t) (fcr t cr) pr' ow') ∧ (∀ z, pr st = some z → CnX (tH t) (fcr t cr) pr' ow' z) ∧ (∀ y, (∀ i, i ≤ j → y ≠ qu i) → pr' y = pr y) ∧ (∀ y, y ≠ st → (pr' y).isSome = (pr y).isSome) ∧ (pr' st).isSome = true := by
  obtain ⟨bn4, bn12, bu1, bu4, bnu, bk2, bk5, bkn, bp1, bp2, bpk, bH, bsp, bs1, bs4, bT1, bT16, bR1, bR2, bH1, bff, bff1⟩ := tok.b
  intro j
  induction j using Nat.strongRecOn with
  | _ j ih =>
    intro pr ow row c N h hj hc hN p hg1 hg2 htr cx hf pw h51 h51b
    obtain ⟨N, rfl⟩ : ∃ K, N = K + 1 := ⟨N - 1, by omega⟩
    obtain ⟨a1, a2, a3, a4, a5, a6, a7, a8, a9, a10, a11, a12, a13, a14, a15, a16, a17, a18, a19⟩ := p
    have hx := hqH j hj
    have hxH := hx.1
    have hrow := fcr_lt hcr tok hx.1 hf
    have h43 : OW ≠ 43 := by omega
    have h51o : (51 : Nat) ≠ OW := by omega
    have e43 := pw.1 (qu j) hx.1 hx.2
    have hkO : zK g OW = 100 := by rw [hg1]; exact a7
    have hlO : zL g OW = zL h OW := by rw [hg2]
    have sg := pg.1
    have hbody : ∀ v : Int, zI h 51 (qu j) = iI v → bX6_hurry_8 g 42 (iI (qu j)) (iI row) (iI c) h = some (0, (iI v, (iI (ro (pr (qu j))), (iI ((c + 1 : Nat) : Int), zsI (zsI h 43 (qu j) (iI row)) OW row (iI ((qu j : Int) + 1)))))) := by
      intro v hv
      unfold bX6_hurry_8
      simp (maxSteps := 1000000) (disch := (first | assumption | exact ne_b rfl | omega)) only [↓reduceIte, ↓zlet_eq, ↓bdR_sI, ↓bdR_sJ, ↓bdR_aI, zc2_some, Option.bind_some, ↓si_m1, ↓si_m2, ↓si_m3, iI_lit, iI_add, iI_sub, iI_mul, leT, leF, ltT, ltF, eqT, eqF, zinT, clI, Int.toNat_natCast, Int.reduceToNat, tN1, tNa, tN0, tNm, if_pos, if_neg, zI_sI, zI_sJ, zI_sR, zJ_sI, zJ_sJ, zJ_sR, zR_sI, zR_sJ, zR_sR, zK_sI, zK_sJ, zK_sR, zL_sI, zL_sJ, zL_sR, zI_aI, zJ_aI, zR_aI, zK_aI, zL_aI, z2_at, z2_a, z2_k, z1_self, z1_ne, true_and, and_true, bIt, bIf, Bool.false_eq_true, Bool.true_eq_false, eq_self, not_true_eq_false, not_false_eq_true, sK0, sK1, sK2, sK3, sK4, sK5, sK6, sK7, sK8, sK9, sK10, sK11, sK12, sK13, sK14, sK15, sK16, sK17, sK18, sK19, sK20, sK21, sK22, sK23, sK24, sK25, sK26, sK27, sK28, sK29, sK30, sK31, sK32, sK33, sK34, sK35, sK36, sK37, sK38, sK39, sK40, sK41, sK42, sK43, sK44, sK45, sK46, sK47, sK48, sK49, sK50, sK51, sK52, sK53, sK54, sK55, sK56, sK57, sK58, sK59, sK60, sK61, sK62, sK63, sK64, sK65, sK66, sK67, sK68, sK69, sK70, sK71, sK72, sK73, sK74, sK75, sL1, sL3, sL6, sL8, sL9, sL10, sL11, sL12, sL15, sL17, sL18, sL21, sL23, sL24, sL26, sL29, sL31, sL32, sL34, sL36, sL37, sL39, sL40, sL41, sL43, sL45, sL46, sL47, sL48, sL49, sL50, sL51, sL52, sL53, sL55, sL57, sL59, sL61, sL62, sL63, sL64, sL65, sL67, sL68, sL70, sL71, sL73, sL74, sL75, sR0_0, sR0_2, sR0_5, sR0_6, sR0_11, sR2_5, sR2_6, sR2_7, sR4_1, sR4_2, sR4_4, sR7_0, sR7_1, sR13_1, sR13_2, sR13_4, sR16_0, sR16_1, sR19_1, sR19_2, sR19_4, sR22_0, sR22_1, sR25_0, sR25_2, sR25_3, sR25_4, sR25_5, sR25_6, sR25_7, sR25_8, sR25_10, sR27_1, sR27_2, sR27_4, sR30_0, sR30_1, sR33_0, sR35_0, sR35_1, sR38_0, sR38_1, sR38_2, sR42_0, sR42_5, sR42_7, sR42_11, sR42_12, sR42_13, sR53_0, sR53_1, sR53_2, sR53_3, sR54_1, sR56_1, sR58_1, sR60_1, sR65_0, sR65_1, sR65_2, sR66_0, sR66_1, sR69_0, sR69_1, sR72_0, sR72_1, ↓sB0_0, ↓sB0_2, ↓sB0_5, ↓sB0_6, ↓sB0_11, ↓sB2_5, ↓sB2_6, ↓sB2_7, ↓sB4_1, ↓sB4_2, ↓sB4_4, ↓sB7_0, ↓sB7_1, ↓sB13_1, ↓sB13_2, ↓sB13_4, ↓sB16_0, ↓sB16_1, ↓sB19_1, ↓sB19_2, ↓sB19_4, ↓sB22_0, ↓sB22_1, ↓sB25_0, ↓sB25_2, ↓sB25_3, ↓sB25_4, ↓sB25_5, ↓sB25_6, ↓sB25_7, ↓sB25_8, ↓sB25_10, ↓sB27_1, ↓sB27_2, ↓sB27_4, ↓sB30_0, ↓sB30_1, ↓sB33_0, ↓sB35_0, ↓sB35_1, ↓sB38_0, ↓sB38_1, ↓sB38_2, ↓sB42_0, ↓sB42_5, ↓sB42_7, ↓sB42_11, ↓sB42_12, ↓sB42_13, ↓sB53_0, ↓sB53_1, ↓sB53_2, ↓sB53_3, ↓sB54_1, ↓sB56_1, ↓sB58_1, ↓sB60_1, ↓sB65_0, ↓sB65_1, ↓sB65_2, ↓sB66_0, ↓sB66_1, ↓sB69_0, ↓sB69_1, ↓sB72_0, ↓sB72_1, e43, ↓bd_of a5, hkO, hlO, hv]
      rfl
    have fmS : Fm [43, OW] h (zsI (zsI h 43 (qu j) (iI row)) OW row (iI ((qu j : Int) + 1))) := (Fm_sI _ _ _ (by simp)).tr (Fm_sI _ _ _ (by simp))
    have pw2 := pw.put (x := qu j) (row := row) h43
    by_cases c0 : j = 0
    · have hv := hbody (-1) (by rw [c0, hq0]; exact h51)
      obtain ⟨N, rfl⟩ : ∃ K, N = K + 1 := ⟨N - 1, by omega⟩
      have e1 : bX6_hurry_8 g 42 (iI (-1)) (iI (ro (pr (qu j)))) (iI ((c + 1 : Nat) : Int)) (zsI (zsI h 43 (qu j) (iI row)) OW row (iI ((qu j : Int) + 1))) = some (0 + 1, (iI (-1), (iI (ro (pr (qu j))), (iI ((c + 1 : Nat) : Int), zsI (zsI h 43 (qu j) (iI row)) OW row (iI ((qu j : Int) + 1)))))) := by
        unfold bX6_hurry_8
        by_cases c1 : c + 1 < 300
        · simp (maxSteps := 1000000) (disch := (first | assumption | exact ne_b rfl | omega)) only [↓reduceIte, ↓zlet_eq, ↓bdR_sI, ↓bdR_sJ, ↓bdR_aI, zc2_some, Option.bind_some, ↓si_m1, ↓si_m2, ↓si_m3, iI_lit, iI_add, iI_sub, iI_mul, leT, leF, ltT, ltF, eqT, eqF, zinT, clI, Int.toNat_natCast, Int.reduceToNat, tN1, tNa, tN0, tNm, if_pos, if_neg, zI_sI, zI_sJ, zI_sR, zJ_sI, zJ_sJ, zJ_sR, zR_sI, zR_sJ, zR_sR, zK_sI, zK_sJ, zK_sR, zL_sI, zL_sJ, zL_sR, zI_aI, zJ_aI, zR_aI, zK_aI, zL_aI, z2_at, z2_a, z2_k, z1_self, z1_ne, true_and, and_true, bIt, bIf, Bool.false_eq_true, Bool.true_eq_false, eq_self, not_true_eq_false, not_false_eq_true]
        · simp (maxSteps := 1000000) (disch := (first | assumption | exact ne_b rfl | omega)) only [↓reduceIte, ↓zlet_eq, ↓bdR_sI, ↓bdR_sJ, ↓bdR_aI, zc2_some, Option.bind_some, ↓si_m1, ↓si_m2, ↓si_m3, iI_lit, iI_add, iI_sub, iI_mul, leT, leF, ltT, ltF, eqT, eqF, zinT, clI, Int.toNat_natCast, Int.reduceToNat, tN1, tNa, tN0, tNm, if_pos, if_neg, zI_sI, zI_sJ, zI_sR, zJ_sI, zJ_sJ, zJ_sR, zR_sI, zR_sJ, zR_sR, zK_sI, zK_sJ, zK_sR, zL_sI, zL_sJ, zL_sR, zI_aI, zJ_aI, zR_aI, zK_aI, zL_aI, z2_at, z2_a, z2_k, z1_self, z1_ne, true_and, and_true, bIt, bIf, Bool.false_eq_true, Bool.true_eq_false, eq_self, not_true_eq_false, not_false_eq_true]
      have hst : qu j = st := by rw [c0, hq0]
      have hl1 : lp (fun q : Int32 × Int32 × Int32 × Zh => bX6_hurry_8 g 42 q.1 q.2.1 q.2.2.1 q.2.2.2) (N + 1) (iI (-1), iI (ro (pr (qu j))), iI ((c + 1 : Nat) : Int), zsI (zsI h 43 (qu j) (iI row)) OW row (iI ((qu j : Int) + 1))) = some (0 + 1, (iI (-1), (iI (ro (pr (qu j))), (iI ((c + 1 : Nat) : Int), zsI (zsI h 43 (qu j) (iI row)) OW row (iI ((qu j : Int) + 1)))))) := lp_e (body := fun q : Int32 × Int32 × Int32 × Zh => bX6_hurry_8 g 42 q.1 q.2.1 q.2.2.1 q.2.2.2) (s := (iI (-1), iI (ro (pr (qu j))), iI ((c + 1 : Nat) : Int), zsI (zsI h 43 (qu j) (iI row)) OW row (iI ((qu j : Int) + 1)))) e1
      have hl0 : lp (fun q : Int32 × Int32 × Int32 × Zh => bX6_hurry_8 g 42 q.1 q.2.1 q.2.2.1 q.2.2.2) (N + 1 + 1) (iI (qu j), iI row, iI c, h) = lp (fun q : Int32 × Int32 × Int32 × Zh => bX6_hurry_8 g 42 q.1 q.2.1 q.2.2.1 q.2.2.2) (N + 1) (iI (-1), iI (ro (pr (qu j))), iI ((c + 1 : Nat) : Int), zsI (zsI h 43 (qu j) (iI row)) OW row (iI ((qu j : Int) + 1))) := lp_0 (body := fun q : Int32 × Int32 × Int32 × Zh => bX6_hurry_8 g 42 q.1 q.2.1 q.2.2.1 q.2.2.2) (s := (iI (qu j), iI row, iI c, h)) hv
      refine ⟨iI (-1), iI (ro (pr (qu j))), iI ((c + 1 : Nat) : Int), zsI (zsI h 43 (qu j) (iI row)) OW row (iI ((qu j : Int) + 1)), updN pr (qu j) row, updN ow row (qu j), hl0.trans hl1, fmS, pw2, fun q => cx.last hx.1 hf (by rw [hst]; exact q), fun z q => cx.step hx.1 hf (by rw [hst]; exact q), fun y hy => updN_ne _ _ (hy j (Nat.le_refl _)), fun y hy => by rw [updN_ne _ _ (by rw [hst]; exact hy)], by rw [← hst, updN_at]; rfl⟩
    · obtain ⟨k, hk, ek, r, hr, hfk⟩ := htr j (by omega) (Nat.le_refl _)
      have hv := hbody (cf (qu j)) (h51b j (by omega) hj)
      rw [ek, hr] at hv
      have p2 : PX (zsI (zsI h 43 (qu j) (iI row)) OW row (iI ((qu j : Int) + 1))) t d CR OW := PX.fm ⟨a1, a2, a3, a4, a5, a6, a7, a8, a9, a10, a11, a12, a13, a14, a15, a16, a17, a18, a19⟩ fmS (by simp; omega) (by simp; omega) (by simp; omega) (by rw [fmS.I (by simp; omega)])
      have hne : ∀ i, i < j → qu i ≠ qu j := fun i hi => hqd i j hi hj
      obtain ⟨a, b, e, h', pr', ow', r1, r2, r3, r4, r5, r6, r7, r8⟩ := ih k hk (updN pr (qu j) row) (updN ow row (qu j)) r (c + 1) N _ (by omega) (by omega) (by omega) p2 hg1 hg2 (fun i hi1 hi2 => by
        obtain ⟨k2, q1, q2, r', q3, q4⟩ := htr i hi1 (by omega)
        exact ⟨k2, q1, q2, r', by rw [updN_ne _ _ (hne i (by omega))]; exact q3, q4⟩) (cx.step hx.1 hf hr) hfk pw2 (by rw [fmS.I (by simp; omega)]; exact h51) (fun i hi1 hi2 => by rw [fmS.I (by simp; omega)]; exact h51b i hi1 hi2)
      have hst : st ≠ qu j := by rw [← hq0]; exact hne 0 (by omega)
      have hl0 : lp (fun q : Int32 × Int32 × Int32 × Zh => bX6_hurry_8 g 42 q.1 q.2.1 q.2.2.1 q.2.2.2) (N + 1) (iI (qu j), iI row, iI c, h) = lp (fun q : Int32 × Int32 × Int32 × Zh => bX6_hurry_8 g 42 q.1 q.2.1 q.2.2.1 q.2.2.2) N (iI (qu k), iI r, iI ((c + 1 : Nat) : Int), zsI (zsI h 43 (qu j) (iI row)) OW row (iI ((qu j : Int) + 1))) := lp_0 (body := fun q : Int32 × Int32 × Int32 × Zh => bX6_hurry_8 g 42 q.1 q.2.1 q.2.2.1 q.2.2.2) (s := (iI (qu j), iI row, iI c, h)) hv
      refine ⟨a, b, e, h', pr', ow', hl0.trans r1, fmS.tr r2, r3, fun q => r4 (by rw [updN_ne _ _ hst]; exact q), fun z q => r5 z (by rw [updN_ne _ _ hst]; exact q), fun y hy => ?_, fun y hy => ?_, r8⟩
      · rw [r6 y (fun i hi => hy i (by omega)), updN_ne _ _ (hy j (Nat.le_refl _))]
      · rw [r7 y hy]
        by_cases q : y = qu j
        · rw [q, updN_at, hr]; rfl
        · rw [updN_ne _ _ q]
/-! the search -/
def okr (ow : Nat → Option Nat) (s : Nat) (mk : Nat → Prop) (r : Nat) : Prop := ∃ y, ow r = some y ∧ (y < s ∨ mk y)
theorem okr.mono {ow : Nat → Option Nat} {s r : Nat} {mk mk2 : Nat → Prop} (h : okr ow s mk r) (hm : ∀ y, mk y → mk2 y) : okr ow s mk2 r := by
  obtain ⟨y, h1, h2⟩ := h
  exact ⟨y, h1, h2.imp id (hm y)⟩
def mkd (R0 : Nat → Prop) (qu : Nat → Nat) (n y : Nat) : Prop := R0 y ∨ ∃ j, j < n ∧ qu j = y
def SI (h : Zh) (t : Tk) (F : Nat → Nat → Prop) (pr : Nat → Option Nat) (s se st : Nat) (R0 : Nat → Prop) (n : Nat) (qu cf : Nat → Nat) : Prop := Tre F pr st qu cf n ∧ (∀ j, j < n → qu j < tH t ∧ s ≤ qu j ∧ ¬ R0 (qu j)) ∧ (∀ j, j < n → zI h 50 j = iI (qu j)) ∧ zI h 51 st = iI (-1) ∧ (∀ j, 1 ≤ j → j < n → zI h 51 (qu j) = iI (cf (qu j))) ∧ ∃ re : Nat → Nat, ∀ y, y < 300 → zI h 52 y = iI (re y) ∧ re y ≤ se ∧ (re y = se ↔ mkd R0 qu n y)
theorem SI.fm {S : List Nat} {h h' : Zh} {t : Tk} {F : Nat → Nat → Prop} {pr : Nat → Option Nat} {s se st : Nat} {R0 : Nat → Prop} {n : Nat} {qu cf : Nat → Nat} (q : SI h t F pr s se st R0 n qu cf) (f : Fm S h h') (h1 : 50 ∉ S) (h2 : 51 ∉ S) (h3 : 52 ∉ S) : SI h' t F pr s se st R0 n qu cf := by
  unfold SI
  rw [f.I h1, f.I h2, f.I h3]
  exact q
theorem SI.put {h : Zh} {t : Tk} {F : Nat → Nat → Prop} {pr : Nat → Option Nat} {s se st x y r q n : Nat} {R0 : Nat → Prop} {qu cf : Nat → Nat} (i : SI h t F pr s se st R0 n qu cf) (hH : tH t ≤ 300) (hq : q < n) (hqx : qu q = x) (hy : y < tH t) (hys : s ≤ y) (hm : ¬ mkd R0 qu n y) (hr : pr y = some r) (hF : F x r) : n < 300 ∧ SI (zsI (zsI (zsI h 52 y (iI se)) 51 y (iI x)) 50 n (iI y)) t F pr s se st R0 (n + 1) (z1 qu n y) (z1 cf y x) ∧ (∀ z, mkd R0 qu n z → mkd R0 (z1 qu n y) (n + 1) z) ∧ mkd R0 (z1 qu n y) (n + 1) y := by
  obtain ⟨⟨t1, t2, t3, t4⟩, i2, i3, i4, i5, re, i6⟩ := i
  have hnq : ∀ j, j < n → qu j ≠ y := fun j hj e => hm (Or.inr ⟨j, hj, e⟩)
  have hd2 : dst (z1 qu n y) (n + 1) := fun a b h1 h2 => by
    rw [z1_ne _ _ (show a ≠ n by omega)]
    by_cases c : b = n
    · rw [c, z1_self]; exact hnq a (by omega)
    · rw [z1_ne _ _ c]; exact t3 a b h1 (by omega)
  have hlt : ∀ j, j < n + 1 → z1 qu n y j < tH t := fun j hj => by
    by_cases c : j = n
    · rw [c, z1_self]; exact hy
    · rw [z1_ne _ _ c]; exact (i2 j (by omega)).1
  have hn : n + 1 ≤ tH t := holes (tH t) (n + 1) (z1 qu n y) hlt (fun a b h1 h2 => hd2 a b h1 h2)
  have hmon : ∀ z, mkd R0 qu n z → mkd R0 (z1 qu n y) (n + 1) z := fun z hz => by
    rcases hz with h1 | ⟨j, h1, h2⟩
    · exact Or.inl h1
    · exact Or.inr ⟨j, by omega, by rw [z1_ne _ _ (by omega)]; exact h2⟩
  have hnew : mkd R0 (z1 qu n y) (n + 1) y := Or.inr ⟨n, by omega, z1_self _ _ _⟩
  have hst : st ≠ y := by rw [← t2]; exact hnq 0 (by omega)
  refine ⟨by omega, ⟨⟨by omega, by rw [z1_ne _ _ (by omega)]; exact t2, hd2, fun j h1 h2 => ?_⟩, fun j hj => ?_, fun j hj => ?_, ?_, fun j h1 h2 => ?_, z1 re y se, fun z hz => ?_⟩, hmon, hnew⟩
  · by_cases c : j = n
    · rw [c, z1_self, z1_self]
      exact ⟨q, hq, by rw [z1_ne _ _ (by omega)]; exact hqx.symm, r, hr, by rw [z1_ne _ _ (by omega), hqx]; exact hF⟩
    · obtain ⟨k, k1, k2, r', k3, k4⟩ := t4 j h1 (by omega)
      rw [z1_ne _ _ c, z1_ne _ _ (hnq j (by omega))]
      exact ⟨k, k1, by rw [z1_ne _ _ (by omega)]; exact k2, r', k3, by rw [z1_ne _ _ (by omega)]; exact k4⟩
  · by_cases c : j = n
    · rw [c, z1_self]
      exact ⟨hy, hys, fun e => hm (Or.inl e)⟩
    · rw [z1_ne _ _ c]; exact i2 j (by omega)
  · by_cases c : j = n
    · rw [c, z1_self, zI_sI, z2_at]
    · rw [z1_ne _ _ c, zI_sI, z2_k _ _ _ c, zI_sI, z2_a _ _ _ _ (by decide), zI_sI, z2_a _ _ _ _ (by decide)]; exact i3 j (by omega)
  · rw [zI_sI, z2_a _ _ _ _ (by decide), zI_sI, z2_k _ _ _ hst, zI_sI, z2_a _ _ _ _ (by decide)]; exact i4
  · by_cases c : j = n
    · rw [c, z1_self, z1_self, zI_sI, z2_a _ _ _ _ (by decide), zI_sI, z2_at]
    · rw [z1_ne _ _ c, z1_ne _ _ (hnq j (by omega)), zI_sI, z2_a _ _ _ _ (by decide), zI_sI, z2_k _ _ _ (hnq j (by omega)), zI_sI, z2_a _ _ _ _ (by decide)]; exact i5 j h1 (by omega)
  · rw [zI_sI, z2_a _ _ _ _ (by decide), zI_sI, z2_a _ _ _ _ (by decide), zI_sI]
    by_cases c : z = y
    · rw [c, z2_at, z1_self]
      exact ⟨rfl, Nat.le_refl _, ⟨fun _ => hnew, fun _ => rfl⟩⟩
    · rw [z2_k _ _ _ c, z1_ne _ _ c]
      obtain ⟨j1, j2, j3⟩ := i6 z hz
      refine ⟨j1, j2, ⟨fun e => hmon z (j3.mp e), fun e => j3.mpr ?_⟩⟩
      rcases e with e | ⟨j, e1, e2⟩
      · exact Or.inl e
      · by_cases c2 : j = n
        · rw [c2, z1_self] at e2; exact absurd e2.symm c
        · rw [z1_ne _ _ c2] at e2; exact Or.inr ⟨j, by omega, e2⟩
