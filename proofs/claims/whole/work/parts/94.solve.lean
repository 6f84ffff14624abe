/-! the class's pairing: solved -/
/-- how many rows can fit any hand -/
def rwsC (t : Tk) : Nat := (if thd t then hnd (tn t) (tsh t) true else ff (tn t) (tsh t)) * tT t
theorem pch_h : ∀ n : Nat, n < 13 → ∀ k : Nat, k < 6 → k ≤ n → pch n k = (hnd n k true : Nat) ∧ hnd n k true ≤ 924 := by decide +kernel
theorem fX0_rowsOf_eq {d : Nat} {t : Tk} {h : Zh} (q : Dk h d t) (tok : Tok t) : fX0_rowsOf d (iI (tn t)) h = some (jI (rwsC t), h) := by
  obtain ⟨bn4, bn12, bu1, bu4, bnu, bk2, bk5, bkn, bp1, bp2, bpk, bH, bsp, bs1, bs4, bT1, bT16, bR1, bR2, bH1, bff, bff1⟩ := tok.b
  unfold fX0_rowsOf rwsC
  have hT : (iI (tT t)).toInt64 = jI (tT t) := iI_long ⟨by omega, by omega⟩
  cases e : thd t
  · have e0 := fX0_falling_eq (n := ((tn t : Nat) : Int)) (k := tsh t) ⟨by omega, by omega⟩ (by omega) h
    rw [((ff_ok (tn t) (by omega) (tsh t) (by omega)).2 (by omega)).2] at e0
    simp (maxSteps := 1000000) (disch := (first | assumption | exact ne_b rfl | omega)) only [↓reduceIte, ↓zlet_eq, ↓bdR_sI, ↓bdR_sJ, ↓bdR_aI, zc2_some, Option.bind_some, ↓si_m1, ↓si_m2, ↓si_m3, iI_lit, iI_add, iI_sub, iI_mul, leT, leF, ltT, ltF, eqT, eqF, zinT, clI, Int.toNat_natCast, Int.reduceToNat, tN1, tNa, tN0, tNm, if_pos, if_neg, zI_sI, zI_sJ, zI_sR, zJ_sI, zJ_sJ, zJ_sR, zR_sI, zR_sJ, zR_sR, zK_sI, zK_sJ, zK_sR, zL_sI, zL_sJ, zL_sR, zI_aI, zJ_aI, zR_aI, zK_aI, zL_aI, z2_at, z2_a, z2_k, z1_self, z1_ne, true_and, and_true, bIt, bIf, Bool.false_eq_true, Bool.true_eq_false, eq_self, not_true_eq_false, not_false_eq_true, q.fK, q.f0, q.f1, q.f2, q.f3, q.f4, q.f5, q.f6, q.f7, q.f8, q.f9, q.f10, q.f11, q.f12, e, e0, hT, jI_mul]
    rw [Int.natCast_mul]
  · have e0 := fX0_choose_eq (n := tn t) (k := tsh t) (by omega) (by omega) h
    rw [(pch_h (tn t) (by omega) (tsh t) (by omega) (by omega)).1] at e0
    simp (maxSteps := 1000000) (disch := (first | assumption | exact ne_b rfl | omega)) only [↓reduceIte, ↓zlet_eq, ↓bdR_sI, ↓bdR_sJ, ↓bdR_aI, zc2_some, Option.bind_some, ↓si_m1, ↓si_m2, ↓si_m3, iI_lit, iI_add, iI_sub, iI_mul, leT, leF, ltT, ltF, eqT, eqF, zinT, clI, Int.toNat_natCast, Int.reduceToNat, tN1, tNa, tN0, tNm, if_pos, if_neg, zI_sI, zI_sJ, zI_sR, zJ_sI, zJ_sJ, zJ_sR, zR_sI, zR_sJ, zR_sR, zK_sI, zK_sJ, zK_sR, zL_sI, zL_sJ, zL_sR, zI_aI, zJ_aI, zR_aI, zK_aI, zL_aI, z2_at, z2_a, z2_k, z1_self, z1_ne, true_and, and_true, bIt, bIf, Bool.false_eq_true, Bool.true_eq_false, eq_self, not_true_eq_false, not_false_eq_true, q.fK, q.f0, q.f1, q.f2, q.f3, q.f4, q.f5, q.f6, q.f7, q.f8, q.f9, q.f10, q.f11, q.f12, e, e0, hT, jI_mul]
    rw [Int.natCast_mul]
theorem isTb_rws {t : Tk} (tok : Tok t) (hsh : tst t = true → thd t = false) {M : Nat → Nat} (h : isTb t M) : tH t ≤ rwsC t := by
  obtain ⟨bn4, bn12, bu1, bu4, bnu, bk2, bk5, bkn, bp1, bp2, bpk, bH, bsp, bs1, bs4, bT1, bT16, bR1, bR2, bH1, bff, bff1⟩ := tok.b
  unfold rwsC
  cases e : thd t
  · rw [if_neg (by decide)]
    exact holes (tR t) (tH t) M (fun x hx => fitP_lt tok hx (h.1 x hx)) h.2
  · rw [if_pos rfl]
    have hst : tst t = false := by
      cases q : tst t
      · rfl
      · have := hsh q; rw [e] at this; cases this
    have hao : (!anyO t) = true := by unfold anyO; rw [hst, e]; rfl
    have hph := pch_h (tn t) (by omega) (tsh t) (by omega) (by omega)
    -- the number of the rising row
    have key : ∀ x, x < tH t → ∃ i, i < hnd (tn t) (tsh t) true ∧ M x / tT t = rowN (tn t) (hcd (tn t) (tsh t) true i) (tsh t) := by
      intro x hx
      obtain ⟨p, hp, e2⟩ := h.1 x hx
      rw [hao] at hp
      have hv := hc_vld tok hx
      rw [hst] at hv
      have hw : vld (tn t) (tsh t) true (fun i => hc t x (p i)) := ⟨fun i hi => hv.1 _ (hp.1 i hi), fun j hj i hi => by
        have h1 := hp.2 j hj i hi
        rw [if_pos rfl] at h1 ⊢
        have h2 := hv.2 (p j) (hp.1 j hj) (p i) h1
        simpa using h2⟩
      obtain ⟨i, i1, i2⟩ := hcd_ex (n := tn t) (k := tsh t) (rs := true) bn12 bs1 (by omega) (by omega) (by omega) hw
      exact ⟨i, i1, by rw [e2]; exact (rowN_congr _ i2).symm⟩
    have hf : ∀ x, x < tH t → ∃ v, v < hnd (tn t) (tsh t) true * tT t ∧ v % tT t = M x % tT t ∧ M x / tT t = rowN (tn t) (hcd (tn t) (tsh t) true (v / tT t)) (tsh t) := by
      intro x hx
      obtain ⟨i, i1, i2⟩ := key x hx
      have hm := Nat.mod_lt (M x) (show tT t > 0 by omega)
      refine ⟨i * tT t + M x % tT t, at_lt i1 hm, ?_, by rw [row_div (by omega) hm]; exact i2⟩
      rw [Nat.mul_comm, Nat.mul_add_mod, Nat.mod_mod]
    refine holes _ (tH t) (fun x => if hx : x < tH t then Classical.choose (hf x hx) else 0) (fun x hx => ?_) (fun x y hxy hy q => ?_)
    · rw [dif_pos hx]
      exact (Classical.choose_spec (hf x hx)).1
    · rw [dif_pos (show x < tH t by omega), dif_pos hy] at q
      have s1 := (Classical.choose_spec (hf x (by omega))).2
      have s2 := (Classical.choose_spec (hf y hy)).2
      rw [q] at s1
      generalize Classical.choose (hf y hy) = v at s1 s2
      refine h.2 x y hxy hy ?_
      have d1 := Nat.div_add_mod (M x) (tT t)
      have d2 := Nat.div_add_mod (M y) (tT t)
      rw [← d1, ← d2, s1.2, s2.2, ← s1.1, ← s2.1]
/-- whether it is solved, and what it found -/
def PRd (h : Zh) (t : Tk) (rdy : Bool) : Prop := zI h 42 1 = iI (bI rdy) ∧ (rdy = true → ∃ wh : Bool, zI h 42 2 = iI (bI wh) ∧ (wh = true → tH t ≤ 300 ∧ (∃ M, Lst t M) ∧ ∀ x, x < tH t → zI h 43 x = iI (tabR t x)) ∧ (wh = false → ∀ x, tabR t x = -2))
theorem cls_no {t : Tk} (tok : Tok t) {pr ow : Nat → Option Nat} {D : Nat → Prop} {st : Nat} (cn : Cns (tH t) (fcr t (crC t)) pr ow) (cl : Cls (tH t) 0 (fcr t (crC t)) ow D) (hD : D st) (hst : pr st = none) : ¬ ∃ M, isTb t M := by
  rintro ⟨M, h1, h2⟩
  exact (cl.no cn (M := M) (fun x hx => (crC_fit tok hx _).mpr (h1 x hx)) h2 (fun y r hy => by omega) hD).1 hst
/-- the first pairing of all hands -/
theorem solve_87 {g h0 : Zh} {t : Tk} {d CR OW se : Nat} (tok : Tok t) (hH : tH t ≤ 300) (r : Rdy h0 t d CR OW) (h14 : zI h0 42 14 = iI se) (hse : se + 300 < 2147483648) (mk : Mr0 h0 se) (h2 : zI h0 42 2 = iI 1) : ∃ h' x' se', lp (fun q : Int32 × Zh => bX6_solve_87 g 42 q.1 q.2) zB (iI 0, h0) = some (1, (x', h')) ∧ Fm [42, 43, 47, 50, 51, 52, CR, OW] h0 h' ∧ (∀ j, j ≠ 2 → j ≠ 14 → zI h' 42 j = zI h0 42 j) ∧ zI h' 42 14 = iI (se' : Nat) ∧ se' ≤ se + 300 ∧ Mr0 h' se' ∧ CC h' t CR (crC t) ∧ ((zI h' 42 2 = iI 1 ∧ ∃ pr ow, PW h' t OW pr ow 1000 ∧ Cns (tH t) (fcr t (crC t)) pr ow ∧ Prf (tH t) pr) ∨ (zI h' 42 2 = iI 0 ∧ ¬ ∃ M, isTb t M)) := by
  obtain ⟨bn4, bn12, bu1, bu4, bnu, bk2, bk5, bkn, bp1, bp2, bpk, bH, bsp, bs1, bs4, bT1, bT16, bR1, bR2, bH1, bff, bff1⟩ := tok.b
  obtain ⟨p, cc, pw, h10⟩ := r
  have hcr := crC_lt tok
  have a12 := p.2.2.2.2.2.2.2.2.2.2.2.1
  have a13 := p.2.2.2.2.2.2.2.2.2.2.2.2.1
  have a14 := p.2.2.2.2.2.2.2.2.2.2.2.2.2.1
  have a15 := p.2.2.2.2.2.2.2.2.2.2.2.2.2.2.1
  have m26 : (26 : Nat) ∉ [42, 43, 47, 50, 51, 52, CR, OW] := by simp; omega
  have m46 : (46 : Nat) ∉ [42, 43, 47, 50, 51, 52, CR, OW] := by simp; omega
  have md : d ∉ [42, 43, 47, 50, 51, 52, CR, OW] := by simp; omega
  have n42 : (42 : Nat) ∉ [43, 47, 50, 51, 52, CR, OW] := by simp; omega
  have nCR : CR ∉ [42] := by simp; omega
  have nOW : OW ∉ [42] := by simp; omega
  have nd : d ∉ [42] := by simp; omega
  have s78 : ∀ x, x ∈ [43, 47, 50, 51, 52, CR, OW] → x ∈ [42, 43, 47, 50, 51, 52, CR, OW] := by simp
  have s18 : ∀ x, x ∈ [42] → x ∈ [42, 43, 47, 50, 51, 52, CR, OW] := by simp
  clear a12 a13 a14 a15
  have := lp_cnt (body := fun q : Int32 × Zh => bX6_solve_87 g 42 q.1 q.2) (tH t) (fun x z => ∃ h, z = ((iI (x : Int), h) : Int32 × Zh) ∧ Fm [42, 43, 47, 50, 51, 52, CR, OW] h0 h ∧ (∀ j, j ≠ 2 → j ≠ 14 → zI h 42 j = zI h0 42 j) ∧ zI h 42 14 = iI ((se + x : Nat) : Int) ∧ Mr0 h (se + x) ∧ CC h t CR (crC t) ∧ ((zI h 42 2 = iI 1 ∧ ∃ pr ow, PW h t OW pr ow 1000 ∧ Cns (tH t) (fcr t (crC t)) pr ow ∧ ∀ y, (pr y).isSome = decide (y < x)) ∨ (zI h 42 2 = iI 0 ∧ ¬ ∃ M, isTb t M))) (fun e z => e = 1 ∧ Fm [42, 43, 47, 50, 51, 52, CR, OW] h0 z.2 ∧ (∀ j, j ≠ 2 → j ≠ 14 → zI z.2 42 j = zI h0 42 j) ∧ ∃ se', zI z.2 42 14 = iI (se' : Nat) ∧ se' ≤ se + 300 ∧ Mr0 z.2 se' ∧ CC z.2 t CR (crC t) ∧ ((zI z.2 42 2 = iI 1 ∧ ∃ pr ow, PW z.2 t OW pr ow 1000 ∧ Cns (tH t) (fcr t (crC t)) pr ow ∧ Prf (tH t) pr) ∨ (zI z.2 42 2 = iI 0 ∧ ¬ ∃ M, isTb t M))) ?_ ?_ (by omega) (s := (iI 0, h0)) ⟨h0, rfl, Fm.rf, fun _ _ _ => rfl, h14, mk, cc, Or.inl ⟨h2, fun _ => none, fun _ => none, pw, ⟨fun y r _ q => (by cases q), fun r y q => (by cases q)⟩, fun y => by simp⟩⟩
  · obtain ⟨e, z, l1, l2, l3, l4, se', l5, l6, l7, l8, l9⟩ := this
    have e0 : e = 0 := by omega
    subst e0
    exact ⟨z.2, z.1, se', l1, l3, l4, l5, l6, l7, l8, l9⟩
  · intro x z hx ⟨h, ez, fm, k1, k2, k3, k4, k5⟩
    subst ez
    have p1 := p.fm fm m26 m46 md (k1 6 (by decide) (by decide))
    have s1 := p1.1
    have q3 : zR h 42 3 = some d := p1.2.1
    have d3 : Dk h d t := p1.2.2.2.2.2.2.2.2.2.2.2.2.2.2.2.1
    show (∃ s', bX6_solve_87 g 42 (iI x) h = some (0, s') ∧ _) ∨ (∃ e s', bX6_solve_87 g 42 (iI x) h = some (e + 1, s') ∧ _)
    rcases k5 with ⟨w1, pr, ow, w2, w3, w4⟩ | ⟨w1, w2⟩
    · have fm1 : Fm [42] h (zsI h 42 14 (iI ((se + x + 1 : Nat) : Int))) := Fm_sI _ _ _ (by simp)
      have p2 := p1.fm fm1 (by simp) (by simp) nd (by rw [zI_sI, z2_k _ _ _ (by decide)])
      have mk1 : Mrk (zsI h 42 14 (iI ((se + x + 1 : Nat) : Int))) (se + x + 1) (fun _ => False) := by
        obtain ⟨re, hre⟩ := k3
        refine ⟨re, fun y hy => ?_⟩
        rw [fm1.I (by simp)]
        have := (hre y hy).2
        exact ⟨(hre y hy).1, by omega, ⟨fun e => by omega, fun q => q.elim⟩⟩
      have hpx : pr x = none := by
        have := w4 x
        rw [decide_eq_false (Nat.lt_irrefl x)] at this
        cases q : pr x
        · rfl
        · rw [q] at this; cases this
      have hp1000 : pr 1000 = none := by
        have := w4 1000
        rw [decide_eq_false (by omega)] at this
        cases q : pr 1000
        · rfl
        · rw [q] at this; cases this
      obtain ⟨v, h', q1, q2, q3', q4, q5, q6⟩ := fX6_rehome_eq (st := x) (s := 0) (ex := 1000) (R0 := fun _ => False) tok hH hcr p2 (by rw [zI_sI, z2_k _ _ _ (by decide), k1 10 (by decide) (by decide)]; exact h10) (by rw [zI_sI, z2_at]) (by omega) (by omega) w3 (w2.fm fm1 (by simp) nOW) (k4.fm fm1 nCR) mk1 (fun _ q => q.elim) hx (by omega) (fun q => q) (by omega) hp1000
      have s2 : St h' := p2.1.fm q2
      have fm2 : Fm [42, 43, 47, 50, 51, 52, CR, OW] h0 (zsI h' 42 2 (iI (bI v))) := ((fm.tr (fm1.mono s18)).tr (q2.mono s78)).tr (Fm_sI _ _ _ (by simp))
      have e42 : ∀ j, j ≠ 2 → j ≠ 14 → zI (zsI h' 42 2 (iI (bI v))) 42 j = zI h0 42 j := fun j j2 j14 => by
        rw [zI_sI, z2_k _ _ _ j2, q2.I n42, zI_sI, z2_k _ _ _ j14, k1 j j2 j14]
      have e14 : zI (zsI h' 42 2 (iI (bI v))) 42 14 = iI ((se + (x + 1) : Nat) : Int) := by
        rw [zI_sI, z2_k _ _ _ (by decide), q2.I n42, zI_sI, z2_at]
        rfl
      have fm3 : Fm [42] h' (zsI h' 42 2 (iI (bI v))) := Fm_sI _ _ _ (by simp)
      refine Or.inl ⟨(iI ((x + 1 : Nat) : Int), zsI h' 42 2 (iI (bI v))), ?_, _, rfl, fm2, e42, e14, by unfold Mr0; rw [fm3.I (by simp)]; exact q4, q3'.fm fm3 nCR, ?_⟩
      · have e5 : ((se + x : Nat) : Int) + 1 = ((se + x + 1 : Nat) : Int) := by omega
        have s1' : St (zsI h 42 14 (iI ((se + x + 1 : Nat) : Int))) := p2.1
        have hv : (iI (bI v) = iI 0 ∨ iI (bI v) = iI 1) := by cases v <;> simp [bI]
        unfold bX6_solve_87
        simp (maxSteps := 1000000) (disch := (first | assumption | exact ne_b rfl | omega)) only [↓reduceIte, ↓zlet_eq, ↓bdR_sI, ↓bdR_sJ, ↓bdR_aI, zc2_some, Option.bind_some, ↓si_m1, ↓si_m2, ↓si_m3, iI_lit, iI_add, iI_sub, iI_mul, leT, leF, ltT, ltF, eqT, eqF, zinT, clI, Int.toNat_natCast, Int.reduceToNat, tN1, tNa, tN0, tNm, if_pos, if_neg, zI_sI, zI_sJ, zI_sR, zJ_sI, zJ_sJ, zJ_sR, zR_sI, zR_sJ, zR_sR, zK_sI, zK_sJ, zK_sR, zL_sI, zL_sJ, zL_sR, zI_aI, zJ_aI, zR_aI, zK_aI, zL_aI, z2_at, z2_a, z2_k, z1_self, z1_ne, true_and, and_true, bIt, bIf, Bool.false_eq_true, Bool.true_eq_false, eq_self, not_true_eq_false, not_false_eq_true, sK0, sK1, sK2, sK3, sK4, sK5, sK6, sK7, sK8, sK9, sK10, sK11, sK12, sK13, sK14, sK15, sK16, sK17, sK18, sK19, sK20, sK21, sK22, sK23, sK24, sK25, sK26, sK27, sK28, sK29, sK30, sK31, sK32, sK33, sK34, sK35, sK36, sK37, sK38, sK39, sK40, sK41, sK42, sK43, sK44, sK45, sK46, sK47, sK48, sK49, sK50, sK51, sK52, sK53, sK54, sK55, sK56, sK57, sK58, sK59, sK60, sK61, sK62, sK63, sK64, sK65, sK66, sK67, sK68, sK69, sK70, sK71, sK72, sK73, sK74, sK75, sL1, sL3, sL6, sL8, sL9, sL10, sL11, sL12, sL15, sL17, sL18, sL21, sL23, sL24, sL26, sL29, sL31, sL32, sL34, sL36, sL37, sL39, sL40, sL41, sL43, sL45, sL46, sL47, sL48, sL49, sL50, sL51, sL52, sL53, sL55, sL57, sL59, sL61, sL62, sL63, sL64, sL65, sL67, sL68, sL70, sL71, sL73, sL74, sL75, sR0_0, sR0_2, sR0_5, sR0_6, sR0_11, sR2_5, sR2_6, sR2_7, sR4_1, sR4_2, sR4_4, sR7_0, sR7_1, sR13_1, sR13_2, sR13_4, sR16_0, sR16_1, sR19_1, sR19_2, sR19_4, sR22_0, sR22_1, sR25_0, sR25_2, sR25_3, sR25_4, sR25_5, sR25_6, sR25_7, sR25_8, sR25_10, sR27_1, sR27_2, sR27_4, sR30_0, sR30_1, sR33_0, sR35_0, sR35_1, sR38_0, sR38_1, sR38_2, sR42_0, sR42_5, sR42_7, sR42_11, sR42_12, sR42_13, sR53_0, sR53_1, sR53_2, sR53_3, sR54_1, sR56_1, sR58_1, sR60_1, sR65_0, sR65_1, sR65_2, sR66_0, sR66_1, sR69_0, sR69_1, sR72_0, sR72_1, ↓sB0_0, ↓sB0_2, ↓sB0_5, ↓sB0_6, ↓sB0_11, ↓sB2_5, ↓sB2_6, ↓sB2_7, ↓sB4_1, ↓sB4_2, ↓sB4_4, ↓sB7_0, ↓sB7_1, ↓sB13_1, ↓sB13_2, ↓sB13_4, ↓sB16_0, ↓sB16_1, ↓sB19_1, ↓sB19_2, ↓sB19_4, ↓sB22_0, ↓sB22_1, ↓sB25_0, ↓sB25_2, ↓sB25_3, ↓sB25_4, ↓sB25_5, ↓sB25_6, ↓sB25_7, ↓sB25_8, ↓sB25_10, ↓sB27_1, ↓sB27_2, ↓sB27_4, ↓sB30_0, ↓sB30_1, ↓sB33_0, ↓sB35_0, ↓sB35_1, ↓sB38_0, ↓sB38_1, ↓sB38_2, ↓sB42_0, ↓sB42_5, ↓sB42_7, ↓sB42_11, ↓sB42_12, ↓sB42_13, ↓sB53_0, ↓sB53_1, ↓sB53_2, ↓sB53_3, ↓sB54_1, ↓sB56_1, ↓sB58_1, ↓sB60_1, ↓sB65_0, ↓sB65_1, ↓sB65_2, ↓sB66_0, ↓sB66_1, ↓sB69_0, ↓sB69_1, ↓sB72_0, ↓sB72_1, ↓bd_of q3, d3.fK, d3.f9, w1, k2, e5, q1, hv]
        rfl
      · cases v
        · obtain ⟨w5, D, w6, w7, w8, w9⟩ := q6 rfl
          exact Or.inr ⟨by rw [zI_sI, z2_at]; rfl, cls_no tok w3 w6 w7 hpx⟩
        · obtain ⟨pr', ow', w5, w6, w7, w8, w9, w10⟩ := q5 rfl
          refine Or.inl ⟨by rw [zI_sI, z2_at]; rfl, pr', ow', w5.fm fm3 (by simp) nOW, w6 hpx, fun y => ?_⟩
          by_cases c : y = x
          · rw [c, w10, decide_eq_true (by omega)]
          · rw [w9 y c, w4 y]
            by_cases c2 : y < x
            · rw [decide_eq_true c2, decide_eq_true (by omega)]
            · rw [decide_eq_false c2, decide_eq_false (by omega)]
    · refine Or.inr ⟨0, (iI x, h), ?_, rfl, fm, k1, se + x, k2, by omega, k3, k4, Or.inr ⟨w1, w2⟩⟩
      unfold bX6_solve_87
      simp (maxSteps := 1000000) (disch := (first | assumption | exact ne_b rfl | omega)) only [↓reduceIte, ↓zlet_eq, ↓bdR_sI, ↓bdR_sJ, ↓bdR_aI, zc2_some, Option.bind_some, ↓si_m1, ↓si_m2, ↓si_m3, iI_lit, iI_add, iI_sub, iI_mul, leT, leF, ltT, ltF, eqT, eqF, zinT, clI, Int.toNat_natCast, Int.reduceToNat, tN1, tNa, tN0, tNm, if_pos, if_neg, zI_sI, zI_sJ, zI_sR, zJ_sI, zJ_sJ, zJ_sR, zR_sI, zR_sJ, zR_sR, zK_sI, zK_sJ, zK_sR, zL_sI, zL_sJ, zL_sR, zI_aI, zJ_aI, zR_aI, zK_aI, zL_aI, z2_at, z2_a, z2_k, z1_self, z1_ne, true_and, and_true, bIt, bIf, Bool.false_eq_true, Bool.true_eq_false, eq_self, not_true_eq_false, not_false_eq_true, sK0, sK1, sK2, sK3, sK4, sK5, sK6, sK7, sK8, sK9, sK10, sK11, sK12, sK13, sK14, sK15, sK16, sK17, sK18, sK19, sK20, sK21, sK22, sK23, sK24, sK25, sK26, sK27, sK28, sK29, sK30, sK31, sK32, sK33, sK34, sK35, sK36, sK37, sK38, sK39, sK40, sK41, sK42, sK43, sK44, sK45, sK46, sK47, sK48, sK49, sK50, sK51, sK52, sK53, sK54, sK55, sK56, sK57, sK58, sK59, sK60, sK61, sK62, sK63, sK64, sK65, sK66, sK67, sK68, sK69, sK70, sK71, sK72, sK73, sK74, sK75, sL1, sL3, sL6, sL8, sL9, sL10, sL11, sL12, sL15, sL17, sL18, sL21, sL23, sL24, sL26, sL29, sL31, sL32, sL34, sL36, sL37, sL39, sL40, sL41, sL43, sL45, sL46, sL47, sL48, sL49, sL50, sL51, sL52, sL53, sL55, sL57, sL59, sL61, sL62, sL63, sL64, sL65, sL67, sL68, sL70, sL71, sL73, sL74, sL75, sR0_0, sR0_2, sR0_5, sR0_6, sR0_11, sR2_5, sR2_6, sR2_7, sR4_1, sR4_2, sR4_4, sR7_0, sR7_1, sR13_1, sR13_2, sR13_4, sR16_0, sR16_1, sR19_1, sR19_2, sR19_4, sR22_0, sR22_1, sR25_0, sR25_2, sR25_3, sR25_4, sR25_5, sR25_6, sR25_7, sR25_8, sR25_10, sR27_1, sR27_2, sR27_4, sR30_0, sR30_1, sR33_0, sR35_0, sR35_1, sR38_0, sR38_1, sR38_2, sR42_0, sR42_5, sR42_7, sR42_11, sR42_12, sR42_13, sR53_0, sR53_1, sR53_2, sR53_3, sR54_1, sR56_1, sR58_1, sR60_1, sR65_0, sR65_1, sR65_2, sR66_0, sR66_1, sR69_0, sR69_1, sR72_0, sR72_1, ↓sB0_0, ↓sB0_2, ↓sB0_5, ↓sB0_6, ↓sB0_11, ↓sB2_5, ↓sB2_6, ↓sB2_7, ↓sB4_1, ↓sB4_2, ↓sB4_4, ↓sB7_0, ↓sB7_1, ↓sB13_1, ↓sB13_2, ↓sB13_4, ↓sB16_0, ↓sB16_1, ↓sB19_1, ↓sB19_2, ↓sB19_4, ↓sB22_0, ↓sB22_1, ↓sB25_0, ↓sB25_2, ↓sB25_3, ↓sB25_4, ↓sB25_5, ↓sB25_6, ↓sB25_7, ↓sB25_8, ↓sB25_10, ↓sB27_1, ↓sB27_2, ↓sB27_4, ↓sB30_0, ↓sB30_1, ↓sB33_0, ↓sB35_0, ↓sB35_1, ↓sB38_0, ↓sB38_1, ↓sB38_2, ↓sB42_0, ↓sB42_5, ↓sB42_7, ↓sB42_11, ↓sB42_12, ↓sB42_13, ↓sB53_0, ↓sB53_1, ↓sB53_2, ↓sB53_3, ↓sB54_1, ↓sB56_1, ↓sB58_1, ↓sB60_1, ↓sB65_0, ↓sB65_1, ↓sB65_2, ↓sB66_0, ↓sB66_1, ↓sB69_0, ↓sB69_1, ↓sB72_0, ↓sB72_1, ↓bd_of q3, d3.fK, d3.f9, w1]
  · intro z ⟨h, ez, fm, k1, k2, k3, k4, k5⟩
    subst ez
    have p1 := p.fm fm m26 m46 md (k1 6 (by decide) (by decide))
    have s1 := p1.1
    have q3 : zR h 42 3 = some d := p1.2.1
    have d3 : Dk h d t := p1.2.2.2.2.2.2.2.2.2.2.2.2.2.2.2.1
    refine ⟨0, (iI (tH t), h), ?_, rfl, fm, k1, se + tH t, k2, by omega, k3, k4, ?_⟩
    · show bX6_solve_87 g 42 (iI (tH t)) h = _
      unfold bX6_solve_87
      simp (maxSteps := 1000000) (disch := (first | assumption | exact ne_b rfl | omega)) only [↓reduceIte, ↓zlet_eq, ↓bdR_sI, ↓bdR_sJ, ↓bdR_aI, zc2_some, Option.bind_some, ↓si_m1, ↓si_m2, ↓si_m3, iI_lit, iI_add, iI_sub, iI_mul, leT, leF, ltT, ltF, eqT, eqF, zinT, clI, Int.toNat_natCast, Int.reduceToNat, tN1, tNa, tN0, tNm, if_pos, if_neg, zI_sI, zI_sJ, zI_sR, zJ_sI, zJ_sJ, zJ_sR, zR_sI, zR_sJ, zR_sR, zK_sI, zK_sJ, zK_sR, zL_sI, zL_sJ, zL_sR, zI_aI, zJ_aI, zR_aI, zK_aI, zL_aI, z2_at, z2_a, z2_k, z1_self, z1_ne, true_and, and_true, bIt, bIf, Bool.false_eq_true, Bool.true_eq_false, eq_self, not_true_eq_false, not_false_eq_true, sK0, sK1, sK2, sK3, sK4, sK5, sK6, sK7, sK8, sK9, sK10, sK11, sK12, sK13, sK14, sK15, sK16, sK17, sK18, sK19, sK20, sK21, sK22, sK23, sK24, sK25, sK26, sK27, sK28, sK29, sK30, sK31, sK32, sK33, sK34, sK35, sK36, sK37, sK38, sK39, sK40, sK41, sK42, sK43, sK44, sK45, sK46, sK47, sK48, sK49, sK50, sK51, sK52, sK53, sK54, sK55, sK56, sK57, sK58, sK59, sK60, sK61, sK62, sK63, sK64, sK65, sK66, sK67, sK68, sK69, sK70, sK71, sK72, sK73, sK74, sK75, sL1, sL3, sL6, sL8, sL9, sL10, sL11, sL12, sL15, sL17, sL18, sL21, sL23, sL24, sL26, sL29, sL31, sL32, sL34, sL36, sL37, sL39, sL40, sL41, sL43, sL45, sL46, sL47, sL48, sL49, sL50, sL51, sL52, sL53, sL55, sL57, sL59, sL61, sL62, sL63, sL64, sL65, sL67, sL68, sL70, sL71, sL73, sL74, sL75, sR0_0, sR0_2, sR0_5, sR0_6, sR0_11, sR2_5, sR2_6, sR2_7, sR4_1, sR4_2, sR4_4, sR7_0, sR7_1, sR13_1, sR13_2, sR13_4, sR16_0, sR16_1, sR19_1, sR19_2, sR19_4, sR22_0, sR22_1, sR25_0, sR25_2, sR25_3, sR25_4, sR25_5, sR25_6, sR25_7, sR25_8, sR25_10, sR27_1, sR27_2, sR27_4, sR30_0, sR30_1, sR33_0, sR35_0, sR35_1, sR38_0, sR38_1, sR38_2, sR42_0, sR42_5, sR42_7, sR42_11, sR42_12, sR42_13, sR53_0, sR53_1, sR53_2, sR53_3, sR54_1, sR56_1, sR58_1, sR60_1, sR65_0, sR65_1, sR65_2, sR66_0, sR66_1, sR69_0, sR69_1, sR72_0, sR72_1, ↓sB0_0, ↓sB0_2, ↓sB0_5, ↓sB0_6, ↓sB0_11, ↓sB2_5, ↓sB2_6, ↓sB2_7, ↓sB4_1, ↓sB4_2, ↓sB4_4, ↓sB7_0, ↓sB7_1, ↓sB13_1, ↓sB13_2, ↓sB13_4, ↓sB16_0, ↓sB16_1, ↓sB19_1, ↓sB19_2, ↓sB19_4, ↓sB22_0, ↓sB22_1, ↓sB25_0, ↓sB25_2, ↓sB25_3, ↓sB25_4, ↓sB25_5, ↓sB25_6, ↓sB25_7, ↓sB25_8, ↓sB25_10, ↓sB27_1, ↓sB27_2, ↓sB27_4, ↓sB30_0, ↓sB30_1, ↓sB33_0, ↓sB35_0, ↓sB35_1, ↓sB38_0, ↓sB38_1, ↓sB38_2, ↓sB42_0, ↓sB42_5, ↓sB42_7, ↓sB42_11, ↓sB42_12, ↓sB42_13, ↓sB53_0, ↓sB53_1, ↓sB53_2, ↓sB53_3, ↓sB54_1, ↓sB56_1, ↓sB58_1, ↓sB60_1, ↓sB65_0, ↓sB65_1, ↓sB65_2, ↓sB66_0, ↓sB66_1, ↓sB69_0, ↓sB69_1, ↓sB72_0, ↓sB72_1, ↓bd_of q3, d3.fK, d3.f9]
    · rcases k5 with ⟨w1, pr, ow, w2, w3, w4⟩ | w
      · exact Or.inl ⟨w1, pr, ow, w2, w3, fun y hy => by rw [w4 y, decide_eq_true hy]⟩
      · exact Or.inr w
