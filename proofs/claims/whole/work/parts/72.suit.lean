/-! the class's layer: two of one suit -/
theorem si_cmp {a b : Int} (ha : jR a) (hb : jR b) : (lg_cmp (jI a) (jI b) < 0) ↔ a < b := by
  unfold lg_cmp
  by_cases c : b < a
  · rw [if_pos ((jI_lt hb ha).mpr c)]
    constructor
    · intro q; exact absurd q (by decide)
    · intro q; omega
  · rw [if_neg (fun q => c ((jI_lt hb ha).mp q))]
    by_cases c2 : a = b
    · rw [if_pos (by rw [c2])]
      constructor
      · intro q; exact absurd q (by decide)
      · intro q; omega
    · rw [if_neg (fun q => c2 ((jI_eq ha hb).mp q))]
      constructor
      · intro _; omega
      · intro _; decide
def rkN (t : Tk) : Nat := tn t / tu t
theorem rkN_b {t : Tk} (tok : Tok t) : 1 ≤ rkN t ∧ rkN t ≤ tn t := by
  obtain ⟨bn4, bn12, bu1, bu4, bnu, bk2, bk5, bkn, bp1, bp2, bpk, bH, bsp, bs1, bs4, bT1, bT16, bR1, bR2, bH1, bff, bff1⟩ := tok.b
  exact ⟨(Nat.one_le_div_iff (by omega)).mpr (by omega), Nat.div_le_self _ _⟩
noncomputable def sj (t : Tk) (x i : Nat) : Nat := zfst (fun j => decide (hc t x i / rkN t = hc t x (i + 1 + j) / rkN t)) (tk t - (i + 1))
noncomputable def si (t : Tk) (x : Nat) : Nat := zfst (fun i => decide (sj t x i < tk t - (i + 1))) (tk t)
def sPs (a b : Nat) (c : Nat) : Bool := !(decide (a = c) || decide (b = c))
/-- the base ahead, then the others -/
noncomputable def suq (t : Tk) (x a b base i j : Nat) : Nat := if j = 0 then base else fls (sPs a b) (hc t x) i (j - 1)
noncomputable def layT (t : Tk) (x a b : Nat) : Int :=
  if (if 2 * (b - a) ≤ rkN t then b - a else rkN t - (b - a)) - 1 < ff (tsh t - 1) (tsh t - 1) then ((rowN (tn t) (arA (suq t x a b (if 2 * (b - a) ≤ rkN t then a else b) (tk t)) 1 (tsh t - 1) ((if 2 * (b - a) ≤ rkN t then b - a else rkN t - (b - a)) - 1) (tsh t - 1)) (tsh t) * tT t : Nat) : Int) else -2
noncomputable def layS (t : Tk) (x : Nat) : Int := if anyO t = true ∧ tp t = 1 ∧ si t x < tk t then layT t x (hc t x (si t x)) (hc t x (si t x + 1 + sj t x (si t x))) else -2
theorem suit_ok {t : Tk} (tok : Tok t) {x : Nat} (hx : x < tH t) (hs : tst t = false) (hi : si t x < tk t) : si t x + 1 + sj t x (si t x) < tk t ∧ hc t x (si t x) < hc t x (si t x + 1 + sj t x (si t x)) ∧ hc t x (si t x + 1 + sj t x (si t x)) < tn t ∧ hc t x (si t x) / rkN t = hc t x (si t x + 1 + sj t x (si t x)) / rkN t := by
  have hv := hc_vld tok hx
  have h1 : sj t x (si t x) < tk t - (si t x + 1) := of_decide_eq_true (zfst_at (P := fun i => decide (sj t x i < tk t - (i + 1))) hi)
  have h2 : hc t x (si t x) / rkN t = hc t x (si t x + 1 + sj t x (si t x)) / rkN t := of_decide_eq_true (zfst_at (P := fun j => decide (hc t x (si t x) / rkN t = hc t x (si t x + 1 + j) / rkN t)) h1)
  have h3 := hv.2 (si t x + 1 + sj t x (si t x)) (by omega) (si t x) (by omega)
  rw [hs] at h3
  exact ⟨by omega, by simpa using h3, hv.1 _ (by omega), h2⟩
theorem near_ok {a b r : Nat} (hr : 1 ≤ r) (hab : a < b) (e : a / r = b / r) : b - a < r := by
  have h1 := Nat.div_add_mod a r
  have h2 := Nat.div_add_mod b r
  have h3 := Nat.mod_lt a (show r > 0 by omega)
  have h4 := Nat.mod_lt b (show r > 0 by omega)
  rw [e] at h1
  omega
theorem sPs_cnt {t : Tk} (tok : Tok t) {x a b : Nat} (hx : x < tH t) (hab : a ≠ b) (ha : ∃ i, i < tk t ∧ hc t x i = a) (hb : ∃ i, i < tk t ∧ hc t x i = b) : fcn (sPs a b) (hc t x) (tk t) + 2 = tk t := fcn_two hab (tk t) (hc_vld tok hx).dst ha hb
theorem suq_ok {t : Tk} (tok : Tok t) {x a b base : Nat} (hx : x < tH t) (hab : a ≠ b) (ha : ∃ i, i < tk t ∧ hc t x i = a) (hb : ∃ i, i < tk t ∧ hc t x i = b) (hbase : base = a ∨ base = b) (hbn : base < tn t) (hp : tp t = 1) : dst (suq t x a b base (tk t)) (tsh t) ∧ ∀ i, i < tsh t → suq t x a b base (tk t) i < tn t := by
  obtain ⟨bn4, bn12, bu1, bu4, bnu, bk2, bk5, bkn, bp1, bp2, bpk, bH, bsp, bs1, bs4, bT1, bT16, bR1, bR2, bH1, bff, bff1⟩ := tok.b
  have hv := hc_vld tok hx
  have hcn := sPs_cnt tok hx hab ha hb
  have hd := fls_dst (P := sPs a b) (tk t) hv.dst
  have hin : ∀ j, j < tsh t → j ≠ 0 → ∃ y, y < tk t ∧ fls (sPs a b) (hc t x) (tk t) (j - 1) = hc t x y ∧ sPs a b (hc t x y) = true := fun j hj h0 => fls_in (P := sPs a b) (c := hc t x) (tk t) (j - 1) (by omega)
  refine ⟨fun i j h1 h2 => ?_, fun i hi => ?_⟩
  · unfold suq
    rw [if_neg (show ¬ j = 0 by omega)]
    by_cases c : i = 0
    · rw [if_pos c]
      obtain ⟨y, y1, y2, y3⟩ := hin j h2 (by omega)
      rw [y2]
      intro q
      unfold sPs at y3
      rcases hbase with e | e
      · rw [← q, e] at y3; simp at y3
      · rw [← q, e] at y3; simp at y3
    · rw [if_neg c]
      exact hd (i - 1) (j - 1) (by omega) (by omega)
  · unfold suq
    by_cases c : i = 0
    · rw [if_pos c]; exact hbn
    · rw [if_neg c]
      obtain ⟨y, y1, y2, y3⟩ := hin i hi c
      rw [y2]
      exact hv.1 y y1
theorem fcn_mono {P : Nat → Bool} {c : Nat → Nat} {i : Nat} : ∀ d, fcn P c i ≤ fcn P c (i + d)
  | 0 => Nat.le_refl _
  | d + 1 => by
    have := fcn_mono (P := P) (c := c) (i := i) d
    rw [← Nat.add_assoc, fcn]
    omega
theorem suq_fill {t : Tk} {x a b base i : Nat} {B : Nat → Int32} (hp : sPs a b (hc t x i) = true) : z1 (afill (1 + fcn (sPs a b) (hc t x) i) (fun j => iI (suq t x a b base i j)) B) (1 + fcn (sPs a b) (hc t x) i) (iI (hc t x i)) = afill (1 + fcn (sPs a b) (hc t x) (i + 1)) (fun j => iI (suq t x a b base (i + 1) j)) B := by
  rw [fcn, hp, if_pos rfl, ← Nat.add_assoc, ← afill_s (A := fun j => iI (suq t x a b base (i + 1) j)) (v := iI (hc t x i)) (by
    unfold suq
    rw [if_neg (by omega), fls, hp, if_pos rfl, show 1 + fcn (sPs a b) (hc t x) i - 1 = fcn (sPs a b) (hc t x) i by omega, z1_self])]
  congr 1
  refine afill_congr (fun j hj => ?_)
  unfold suq
  by_cases c : j = 0
  · rw [if_pos c, if_pos c]
  · rw [if_neg c, if_neg c, fls, hp, if_pos rfl, z1_ne _ _ (by omega)]
theorem arA_0 {u : Nat → Nat} {fr num i : Nat} : arA u fr 0 num 0 = u := rfl
theorem fX3_arrange_e {fr cnt num : Nat} {u : Nat → Nat} {B : Nat → Int32} {h : Zh} (s : St h) (hfc : fr + cnt ≤ 5) (hnum : num < ff cnt cnt) : fX3_arrange 35 (iI fr) (iI cnt) (iI num) (zaI h 37 (afill (fr + cnt) (fun j => iI (u j)) B)) = some (zaI h 37 (afill (fr + cnt) (fun j => iI (arA u fr cnt num cnt j)) B)) := by
  by_cases c : cnt = 0
  · subst c
    unfold fX3_arrange
    simp (maxSteps := 1000000) (disch := (first | assumption | exact ne_b rfl | omega)) only [↓reduceIte, ↓zlet_eq, ↓bdR_sI, ↓bdR_sJ, ↓bdR_aI, zc2_some, Option.bind_some, ↓si_m1, ↓si_m2, ↓si_m3, iI_lit, iI_add, iI_sub, iI_mul, leT, leF, ltT, ltF, eqT, eqF, zinT, clI, Int.toNat_natCast, Int.reduceToNat, tN1, tNa, tN0, tNm, if_pos, if_neg, zI_sI, zI_sJ, zI_sR, zJ_sI, zJ_sJ, zJ_sR, zR_sI, zR_sJ, zR_sR, zK_sI, zK_sJ, zK_sR, zL_sI, zL_sJ, zL_sR, zI_aI, zJ_aI, zR_aI, zK_aI, zL_aI, z2_at, z2_a, z2_k, z1_self, z1_ne, true_and, and_true, bIt, bIf, Bool.false_eq_true, Bool.true_eq_false, eq_self, not_true_eq_false, not_false_eq_true]
    refine (lp_fb (st := fun i => ((iI num, iI (i : Int), zaI h 37 (afill (fr + 0) (fun j => iI (u j)) B)) : Int32 × Int32 × Zh)) (e := 0) (s' := (iI num, iI ((0 : Nat) : Int), zaI h 37 (afill (fr + 0) (fun j => iI (u j)) B))) 0 rfl (by omega) (fun i hi => by omega) ?_).trans rfl
    show bX3_arrange_6 (zaI h 37 _) 35 (iI fr) (iI ((0 : Nat) : Int)) _ (iI ((0 : Nat) : Int)) (zaI h 37 _) = _
    unfold bX3_arrange_6
    simp (maxSteps := 1000000) (disch := (first | assumption | exact ne_b rfl | omega)) only [↓reduceIte, ↓zlet_eq, ↓bdR_sI, ↓bdR_sJ, ↓bdR_aI, zc2_some, Option.bind_some, ↓si_m1, ↓si_m2, ↓si_m3, iI_lit, iI_add, iI_sub, iI_mul, leT, leF, ltT, ltF, eqT, eqF, zinT, clI, Int.toNat_natCast, Int.reduceToNat, tN1, tNa, tN0, tNm, if_pos, if_neg, zI_sI, zI_sJ, zI_sR, zJ_sI, zJ_sJ, zJ_sR, zR_sI, zR_sJ, zR_sR, zK_sI, zK_sJ, zK_sR, zL_sI, zL_sJ, zL_sR, zI_aI, zJ_aI, zR_aI, zK_aI, zL_aI, z2_at, z2_a, z2_k, z1_self, z1_ne, true_and, and_true, bIt, bIf, Bool.false_eq_true, Bool.true_eq_false, eq_self, not_true_eq_false, not_false_eq_true]
  · exact fX3_arrange_eq s (by omega) hfc hnum
theorem fX3_rowOfTwo_eq {d x a b : Nat} {t : Tk} {h : Zh} (s : St h) (q : Dk h d t) (tok : Tok t) (hx : x < tH t) (hd7 : d ≠ 37) (hp : tp t = 1) (hr : ∀ j, j < tk t → zI h 36 j = iI (hc t x j)) (hab : a < b) (hbn : b < tn t) (hsu : a / rkN t = b / rkN t) (ha : ∃ i, i < tk t ∧ hc t x i = a) (hb : ∃ i, i < tk t ∧ hc t x i = b) : ∃ h', fX3_rowOfTwo 35 d (iI a) (iI b) h = some (iI (layT t x a b), h') ∧ Fm [37] h h' := by
  obtain ⟨bn4, bn12, bu1, bu4, bnu, bk2, bk5, bkn, bp1, bp2, bpk, bH, bsp, bs1, bs4, bT1, bT16, bR1, bR2, bH1, bff, bff1⟩ := tok.b
  obtain ⟨rk1, rk2⟩ := rkN_b tok
  have hne := near_ok rk1 hab hsu
  have hv := hc_vld tok hx
  have hcn := sPs_cnt tok hx (show a ≠ b by omega) ha hb
  have hf := ff_k (tsh t - 1) (by omega)
  have hf1 := hf.1
  have hf2 := hf.2.1
  have q2 : zI h d 2 = iI (rkN t) := q.f2
  -- behind the choice of base and order
  have key : ∀ (base od : Nat), (base = a ∨ base = b) → base < tn t → od < ff (tsh t - 1) (tsh t - 1) → ∃ h', jX3_rowOfTwo_84 h 35 d (iI a) (iI b) (iI od) (iI ((tsh t - 1 : Nat) : Int)) (iI base) (iI 0) 37 h = some (iI ((rowN (tn t) (arA (suq t x a b base (tk t)) 1 (tsh t - 1) od (tsh t - 1)) (tsh t) * tT t : Nat) : Int), h') ∧ Fm [37] h h' := by
    intro base od hb1 hb2 hod
    obtain ⟨d1, d2⟩ := suq_ok tok hx (show a ≠ b by omega) ha hb hb1 hb2 hp
    have hd1 : dst (suq t x a b base (tk t)) (1 + (tsh t - 1)) := by rw [show 1 + (tsh t - 1) = tsh t by omega]; exact d1
    have hd2 : ∀ j, j < 1 + (tsh t - 1) → suq t x a b base (tk t) j < tn t := fun j hj => d2 j (by omega)
    obtain ⟨a1, a2⟩ := arA_ok (num := od) (show tsh t - 1 ≤ 5 by omega) hod hd1 hd2 (tsh t - 1) (Nat.le_refl _)
    rw [show 1 + (tsh t - 1) = tsh t by omega] at a1 a2
    unfold jX3_rowOfTwo_84
    simp (maxSteps := 1000000) (disch := (first | assumption | exact ne_b rfl | omega)) only [↓reduceIte, ↓zlet_eq, ↓bdR_sI, ↓bdR_sJ, ↓bdR_aI, zc2_some, Option.bind_some, ↓si_m1, ↓si_m2, ↓si_m3, iI_lit, iI_add, iI_sub, iI_mul, leT, leF, ltT, ltF, eqT, eqF, zinT, clI, Int.toNat_natCast, Int.reduceToNat, tN1, tNa, tN0, tNm, if_pos, if_neg, zI_sI, zI_sJ, zI_sR, zJ_sI, zJ_sJ, zJ_sR, zR_sI, zR_sJ, zR_sR, zK_sI, zK_sJ, zK_sR, zL_sI, zL_sJ, zL_sR, zI_aI, zJ_aI, zR_aI, zK_aI, zL_aI, z2_at, z2_a, z2_k, z1_self, z1_ne, true_and, and_true, bIt, bIf, Bool.false_eq_true, Bool.true_eq_false, eq_self, not_true_eq_false, not_false_eq_true, sK0, sK1, sK2, sK3, sK4, sK5, sK6, sK7, sK8, sK9, sK10, sK11, sK12, sK13, sK14, sK15, sK16, sK17, sK18, sK19, sK20, sK21, sK22, sK23, sK24, sK25, sK26, sK27, sK28, sK29, sK30, sK31, sK32, sK33, sK34, sK35, sK36, sK37, sK38, sK39, sK40, sK41, sK42, sK43, sK44, sK45, sK46, sK47, sK48, sK49, sK50, sK51, sK52, sK53, sK54, sK55, sK56, sK57, sK58, sK59, sK60, sK61, sK62, sK63, sK64, sK65, sK66, sK67, sK68, sK69, sK70, sK71, sK72, sK73, sK74, sK75, sL1, sL3, sL6, sL8, sL9, sL10, sL11, sL12, sL15, sL17, sL18, sL21, sL23, sL24, sL26, sL29, sL31, sL32, sL34, sL36, sL37, sL39, sL40, sL41, sL43, sL45, sL46, sL47, sL48, sL49, sL50, sL51, sL52, sL53, sL55, sL57, sL59, sL61, sL62, sL63, sL64, sL65, sL67, sL68, sL70, sL71, sL73, sL74, sL75, sR0_0, sR0_2, sR0_5, sR0_6, sR0_11, sR2_5, sR2_6, sR2_7, sR4_1, sR4_2, sR4_4, sR7_0, sR7_1, sR13_1, sR13_2, sR13_4, sR16_0, sR16_1, sR19_1, sR19_2, sR19_4, sR22_0, sR22_1, sR25_0, sR25_2, sR25_3, sR25_4, sR25_5, sR25_6, sR25_7, sR25_8, sR25_10, sR27_1, sR27_2, sR27_4, sR30_0, sR30_1, sR33_0, sR35_0, sR35_1, sR38_0, sR38_1, sR38_2, sR42_0, sR42_5, sR42_7, sR42_11, sR42_12, sR42_13, sR53_0, sR53_1, sR53_2, sR53_3, sR54_1, sR56_1, sR58_1, sR60_1, sR65_0, sR65_1, sR65_2, sR66_0, sR66_1, sR69_0, sR69_1, sR72_0, sR72_1, ↓sB0_0, ↓sB0_2, ↓sB0_5, ↓sB0_6, ↓sB0_11, ↓sB2_5, ↓sB2_6, ↓sB2_7, ↓sB4_1, ↓sB4_2, ↓sB4_4, ↓sB7_0, ↓sB7_1, ↓sB13_1, ↓sB13_2, ↓sB13_4, ↓sB16_0, ↓sB16_1, ↓sB19_1, ↓sB19_2, ↓sB19_4, ↓sB22_0, ↓sB22_1, ↓sB25_0, ↓sB25_2, ↓sB25_3, ↓sB25_4, ↓sB25_5, ↓sB25_6, ↓sB25_7, ↓sB25_8, ↓sB25_10, ↓sB27_1, ↓sB27_2, ↓sB27_4, ↓sB30_0, ↓sB30_1, ↓sB33_0, ↓sB35_0, ↓sB35_1, ↓sB38_0, ↓sB38_1, ↓sB38_2, ↓sB42_0, ↓sB42_5, ↓sB42_7, ↓sB42_11, ↓sB42_12, ↓sB42_13, ↓sB53_0, ↓sB53_1, ↓sB53_2, ↓sB53_3, ↓sB54_1, ↓sB56_1, ↓sB58_1, ↓sB60_1, ↓sB65_0, ↓sB65_1, ↓sB65_2, ↓sB66_0, ↓sB66_1, ↓sB69_0, ↓sB69_1, ↓sB72_0, ↓sB72_1]
    rw [zsI_toA]
    have e0 : z1 (zI h 37) 0 (iI base) = afill (1 + fcn (sPs a b) (hc t x) 0) (fun j => iI (suq t x a b base 0 j)) (zI h 37) := by
      rw [fcn, ← afill_s (A := fun j => iI (suq t x a b base 0 j)) (v := iI base) rfl, afill_0]
    rw [e0]
    refine ⟨zaI h 37 (afill (tsh t) (fun j => iI (arA (suq t x a b base (tk t)) 1 (tsh t - 1) od (tsh t - 1) j)) (zI h 37)), (lp_fb (st := fun i => ((iI ((1 + fcn (sPs a b) (hc t x) i : Nat) : Int), iI (i : Int), zaI h 37 (afill (1 + fcn (sPs a b) (hc t x) i) (fun j => iI (suq t x a b base i j)) (zI h 37))) : Int32 × Int32 × Zh)) (e := 0) (s' := (iI ((1 + fcn (sPs a b) (hc t x) (tk t) : Nat) : Int), iI (tk t), zaI h 37 (afill (1 + fcn (sPs a b) (hc t x) (tk t)) (fun j => iI (suq t x a b base (tk t) j)) (zI h 37)))) (tk t) rfl (by omega) ?_ ?_).trans ?_, Fm_aI _ _ (by simp)⟩
    · intro i hi
      show bX3_rowOfTwo_91 h 35 d (iI a) (iI b) (iI ((1 + fcn (sPs a b) (hc t x) i : Nat) : Int)) (iI i) (zaI h 37 _) = _
      unfold bX3_rowOfTwo_91
      have hcl := hv.1 i hi
      have hfl := fcn_mono (P := sPs a b) (c := hc t x) (i := i) (tk t - i)
      rw [show i + (tk t - i) = tk t by omega] at hfl
      by_cases c1 : hc t x i = a
      · simp (maxSteps := 1000000) (disch := (first | assumption | exact ne_b rfl | omega)) only [↓reduceIte, ↓zlet_eq, ↓bdR_sI, ↓bdR_sJ, ↓bdR_aI, zc2_some, Option.bind_some, ↓si_m1, ↓si_m2, ↓si_m3, iI_lit, iI_add, iI_sub, iI_mul, leT, leF, ltT, ltF, eqT, eqF, zinT, clI, Int.toNat_natCast, Int.reduceToNat, tN1, tNa, tN0, tNm, if_pos, if_neg, zI_sI, zI_sJ, zI_sR, zJ_sI, zJ_sJ, zJ_sR, zR_sI, zR_sJ, zR_sR, zK_sI, zK_sJ, zK_sR, zL_sI, zL_sJ, zL_sR, zI_aI, zJ_aI, zR_aI, zK_aI, zL_aI, z2_at, z2_a, z2_k, z1_self, z1_ne, true_and, and_true, bIt, bIf, Bool.false_eq_true, Bool.true_eq_false, eq_self, not_true_eq_false, not_false_eq_true, sK0, sK1, sK2, sK3, sK4, sK5, sK6, sK7, sK8, sK9, sK10, sK11, sK12, sK13, sK14, sK15, sK16, sK17, sK18, sK19, sK20, sK21, sK22, sK23, sK24, sK25, sK26, sK27, sK28, sK29, sK30, sK31, sK32, sK33, sK34, sK35, sK36, sK37, sK38, sK39, sK40, sK41, sK42, sK43, sK44, sK45, sK46, sK47, sK48, sK49, sK50, sK51, sK52, sK53, sK54, sK55, sK56, sK57, sK58, sK59, sK60, sK61, sK62, sK63, sK64, sK65, sK66, sK67, sK68, sK69, sK70, sK71, sK72, sK73, sK74, sK75, sL1, sL3, sL6, sL8, sL9, sL10, sL11, sL12, sL15, sL17, sL18, sL21, sL23, sL24, sL26, sL29, sL31, sL32, sL34, sL36, sL37, sL39, sL40, sL41, sL43, sL45, sL46, sL47, sL48, sL49, sL50, sL51, sL52, sL53, sL55, sL57, sL59, sL61, sL62, sL63, sL64, sL65, sL67, sL68, sL70, sL71, sL73, sL74, sL75, sR0_0, sR0_2, sR0_5, sR0_6, sR0_11, sR2_5, sR2_6, sR2_7, sR4_1, sR4_2, sR4_4, sR7_0, sR7_1, sR13_1, sR13_2, sR13_4, sR16_0, sR16_1, sR19_1, sR19_2, sR19_4, sR22_0, sR22_1, sR25_0, sR25_2, sR25_3, sR25_4, sR25_5, sR25_6, sR25_7, sR25_8, sR25_10, sR27_1, sR27_2, sR27_4, sR30_0, sR30_1, sR33_0, sR35_0, sR35_1, sR38_0, sR38_1, sR38_2, sR42_0, sR42_5, sR42_7, sR42_11, sR42_12, sR42_13, sR53_0, sR53_1, sR53_2, sR53_3, sR54_1, sR56_1, sR58_1, sR60_1, sR65_0, sR65_1, sR65_2, sR66_0, sR66_1, sR69_0, sR69_1, sR72_0, sR72_1, ↓sB0_0, ↓sB0_2, ↓sB0_5, ↓sB0_6, ↓sB0_11, ↓sB2_5, ↓sB2_6, ↓sB2_7, ↓sB4_1, ↓sB4_2, ↓sB4_4, ↓sB7_0, ↓sB7_1, ↓sB13_1, ↓sB13_2, ↓sB13_4, ↓sB16_0, ↓sB16_1, ↓sB19_1, ↓sB19_2, ↓sB19_4, ↓sB22_0, ↓sB22_1, ↓sB25_0, ↓sB25_2, ↓sB25_3, ↓sB25_4, ↓sB25_5, ↓sB25_6, ↓sB25_7, ↓sB25_8, ↓sB25_10, ↓sB27_1, ↓sB27_2, ↓sB27_4, ↓sB30_0, ↓sB30_1, ↓sB33_0, ↓sB35_0, ↓sB35_1, ↓sB38_0, ↓sB38_1, ↓sB38_2, ↓sB42_0, ↓sB42_5, ↓sB42_7, ↓sB42_11, ↓sB42_12, ↓sB42_13, ↓sB53_0, ↓sB53_1, ↓sB53_2, ↓sB53_3, ↓sB54_1, ↓sB56_1, ↓sB58_1, ↓sB60_1, ↓sB65_0, ↓sB65_1, ↓sB65_2, ↓sB66_0, ↓sB66_1, ↓sB69_0, ↓sB69_1, ↓sB72_0, ↓sB72_1, q.fK, q.f0, q.f1, q.f2, q.f3, q.f4, q.f5, q.f6, q.f7, q.f8, q.f9, q.f10, q.f11, q.f12, hr i hi]
        have hps : sPs a b (hc t x i) = false := by unfold sPs; simp [c1]
        have e2 : suq t x a b base (i + 1) = suq t x a b base i := by funext j; unfold suq; rw [(fls_skip hps).2]
        rw [(fls_skip hps).1, e2]
        rfl
      · by_cases c2 : hc t x i = b
        · simp (maxSteps := 1000000) (disch := (first | assumption | exact ne_b rfl | omega)) only [↓reduceIte, ↓zlet_eq, ↓bdR_sI, ↓bdR_sJ, ↓bdR_aI, zc2_some, Option.bind_some, ↓si_m1, ↓si_m2, ↓si_m3, iI_lit, iI_add, iI_sub, iI_mul, leT, leF, ltT, ltF, eqT, eqF, zinT, clI, Int.toNat_natCast, Int.reduceToNat, tN1, tNa, tN0, tNm, if_pos, if_neg, zI_sI, zI_sJ, zI_sR, zJ_sI, zJ_sJ, zJ_sR, zR_sI, zR_sJ, zR_sR, zK_sI, zK_sJ, zK_sR, zL_sI, zL_sJ, zL_sR, zI_aI, zJ_aI, zR_aI, zK_aI, zL_aI, z2_at, z2_a, z2_k, z1_self, z1_ne, true_and, and_true, bIt, bIf, Bool.false_eq_true, Bool.true_eq_false, eq_self, not_true_eq_false, not_false_eq_true, sK0, sK1, sK2, sK3, sK4, sK5, sK6, sK7, sK8, sK9, sK10, sK11, sK12, sK13, sK14, sK15, sK16, sK17, sK18, sK19, sK20, sK21, sK22, sK23, sK24, sK25, sK26, sK27, sK28, sK29, sK30, sK31, sK32, sK33, sK34, sK35, sK36, sK37, sK38, sK39, sK40, sK41, sK42, sK43, sK44, sK45, sK46, sK47, sK48, sK49, sK50, sK51, sK52, sK53, sK54, sK55, sK56, sK57, sK58, sK59, sK60, sK61, sK62, sK63, sK64, sK65, sK66, sK67, sK68, sK69, sK70, sK71, sK72, sK73, sK74, sK75, sL1, sL3, sL6, sL8, sL9, sL10, sL11, sL12, sL15, sL17, sL18, sL21, sL23, sL24, sL26, sL29, sL31, sL32, sL34, sL36, sL37, sL39, sL40, sL41, sL43, sL45, sL46, sL47, sL48, sL49, sL50, sL51, sL52, sL53, sL55, sL57, sL59, sL61, sL62, sL63, sL64, sL65, sL67, sL68, sL70, sL71, sL73, sL74, sL75, sR0_0, sR0_2, sR0_5, sR0_6, sR0_11, sR2_5, sR2_6, sR2_7, sR4_1, sR4_2, sR4_4, sR7_0, sR7_1, sR13_1, sR13_2, sR13_4, sR16_0, sR16_1, sR19_1, sR19_2, sR19_4, sR22_0, sR22_1, sR25_0, sR25_2, sR25_3, sR25_4, sR25_5, sR25_6, sR25_7, sR25_8, sR25_10, sR27_1, sR27_2, sR27_4, sR30_0, sR30_1, sR33_0, sR35_0, sR35_1, sR38_0, sR38_1, sR38_2, sR42_0, sR42_5, sR42_7, sR42_11, sR42_12, sR42_13, sR53_0, sR53_1, sR53_2, sR53_3, sR54_1, sR56_1, sR58_1, sR60_1, sR65_0, sR65_1, sR65_2, sR66_0, sR66_1, sR69_0, sR69_1, sR72_0, sR72_1, ↓sB0_0, ↓sB0_2, ↓sB0_5, ↓sB0_6, ↓sB0_11, ↓sB2_5, ↓sB2_6, ↓sB2_7, ↓sB4_1, ↓sB4_2, ↓sB4_4, ↓sB7_0, ↓sB7_1, ↓sB13_1, ↓sB13_2, ↓sB13_4, ↓sB16_0, ↓sB16_1, ↓sB19_1, ↓sB19_2, ↓sB19_4, ↓sB22_0, ↓sB22_1, ↓sB25_0, ↓sB25_2, ↓sB25_3, ↓sB25_4, ↓sB25_5, ↓sB25_6, ↓sB25_7, ↓sB25_8, ↓sB25_10, ↓sB27_1, ↓sB27_2, ↓sB27_4, ↓sB30_0, ↓sB30_1, ↓sB33_0, ↓sB35_0, ↓sB35_1, ↓sB38_0, ↓sB38_1, ↓sB38_2, ↓sB42_0, ↓sB42_5, ↓sB42_7, ↓sB42_11, ↓sB42_12, ↓sB42_13, ↓sB53_0, ↓sB53_1, ↓sB53_2, ↓sB53_3, ↓sB54_1, ↓sB56_1, ↓sB58_1, ↓sB60_1, ↓sB65_0, ↓sB65_1, ↓sB65_2, ↓sB66_0, ↓sB66_1, ↓sB69_0, ↓sB69_1, ↓sB72_0, ↓sB72_1, q.fK, q.f0, q.f1, q.f2, q.f3, q.f4, q.f5, q.f6, q.f7, q.f8, q.f9, q.f10, q.f11, q.f12, hr i hi]
          have hps : sPs a b (hc t x i) = false := by unfold sPs; simp [c2]
          have e2 : suq t x a b base (i + 1) = suq t x a b base i := by funext j; unfold suq; rw [(fls_skip hps).2]
          rw [(fls_skip hps).1, e2]
          rfl
        · simp (maxSteps := 1000000) (disch := (first | assumption | exact ne_b rfl | omega)) only [↓reduceIte, ↓zlet_eq, ↓bdR_sI, ↓bdR_sJ, ↓bdR_aI, zc2_some, Option.bind_some, ↓si_m1, ↓si_m2, ↓si_m3, iI_lit, iI_add, iI_sub, iI_mul, leT, leF, ltT, ltF, eqT, eqF, zinT, clI, Int.toNat_natCast, Int.reduceToNat, tN1, tNa, tN0, tNm, if_pos, if_neg, zI_sI, zI_sJ, zI_sR, zJ_sI, zJ_sJ, zJ_sR, zR_sI, zR_sJ, zR_sR, zK_sI, zK_sJ, zK_sR, zL_sI, zL_sJ, zL_sR, zI_aI, zJ_aI, zR_aI, zK_aI, zL_aI, z2_at, z2_a, z2_k, z1_self, z1_ne, true_and, and_true, bIt, bIf, Bool.false_eq_true, Bool.true_eq_false, eq_self, not_true_eq_false, not_false_eq_true, sK0, sK1, sK2, sK3, sK4, sK5, sK6, sK7, sK8, sK9, sK10, sK11, sK12, sK13, sK14, sK15, sK16, sK17, sK18, sK19, sK20, sK21, sK22, sK23, sK24, sK25, sK26, sK27, sK28, sK29, sK30, sK31, sK32, sK33, sK34, sK35, sK36, sK37, sK38, sK39, sK40, sK41, sK42, sK43, sK44, sK45, sK46, sK47, sK48, sK49, sK50, sK51, sK52, sK53, sK54, sK55, sK56, sK57, sK58, sK59, sK60, sK61, sK62, sK63, sK64, sK65, sK66, sK67, sK68, sK69, sK70, sK71, sK72, sK73, sK74, sK75, sL1, sL3, sL6, sL8, sL9, sL10, sL11, sL12, sL15, sL17, sL18, sL21, sL23, sL24, sL26, sL29, sL31, sL32, sL34, sL36, sL37, sL39, sL40, sL41, sL43, sL45, sL46, sL47, sL48, sL49, sL50, sL51, sL52, sL53, sL55, sL57, sL59, sL61, sL62, sL63, sL64, sL65, sL67, sL68, sL70, sL71, sL73, sL74, sL75, sR0_0, sR0_2, sR0_5, sR0_6, sR0_11, sR2_5, sR2_6, sR2_7, sR4_1, sR4_2, sR4_4, sR7_0, sR7_1, sR13_1, sR13_2, sR13_4, sR16_0, sR16_1, sR19_1, sR19_2, sR19_4, sR22_0, sR22_1, sR25_0, sR25_2, sR25_3, sR25_4, sR25_5, sR25_6, sR25_7, sR25_8, sR25_10, sR27_1, sR27_2, sR27_4, sR30_0, sR30_1, sR33_0, sR35_0, sR35_1, sR38_0, sR38_1, sR38_2, sR42_0, sR42_5, sR42_7, sR42_11, sR42_12, sR42_13, sR53_0, sR53_1, sR53_2, sR53_3, sR54_1, sR56_1, sR58_1, sR60_1, sR65_0, sR65_1, sR65_2, sR66_0, sR66_1, sR69_0, sR69_1, sR72_0, sR72_1, ↓sB0_0, ↓sB0_2, ↓sB0_5, ↓sB0_6, ↓sB0_11, ↓sB2_5, ↓sB2_6, ↓sB2_7, ↓sB4_1, ↓sB4_2, ↓sB4_4, ↓sB7_0, ↓sB7_1, ↓sB13_1, ↓sB13_2, ↓sB13_4, ↓sB16_0, ↓sB16_1, ↓sB19_1, ↓sB19_2, ↓sB19_4, ↓sB22_0, ↓sB22_1, ↓sB25_0, ↓sB25_2, ↓sB25_3, ↓sB25_4, ↓sB25_5, ↓sB25_6, ↓sB25_7, ↓sB25_8, ↓sB25_10, ↓sB27_1, ↓sB27_2, ↓sB27_4, ↓sB30_0, ↓sB30_1, ↓sB33_0, ↓sB35_0, ↓sB35_1, ↓sB38_0, ↓sB38_1, ↓sB38_2, ↓sB42_0, ↓sB42_5, ↓sB42_7, ↓sB42_11, ↓sB42_12, ↓sB42_13, ↓sB53_0, ↓sB53_1, ↓sB53_2, ↓sB53_3, ↓sB54_1, ↓sB56_1, ↓sB58_1, ↓sB60_1, ↓sB65_0, ↓sB65_1, ↓sB65_2, ↓sB66_0, ↓sB66_1, ↓sB69_0, ↓sB69_1, ↓sB72_0, ↓sB72_1, q.fK, q.f0, q.f1, q.f2, q.f3, q.f4, q.f5, q.f6, q.f7, q.f8, q.f9, q.f10, q.f11, q.f12, hr i hi, zsI_aI]
          have hps : sPs a b (hc t x i) = true := by unfold sPs; simp [Ne.symm c1, Ne.symm c2]
          rw [suq_fill hps, show fcn (sPs a b) (hc t x) (i + 1) = fcn (sPs a b) (hc t x) i + 1 by rw [fcn, if_pos hps]]
          rfl
    · show bX3_rowOfTwo_91 h 35 d (iI a) (iI b) _ (iI (tk t)) (zaI h 37 _) = _
      unfold bX3_rowOfTwo_91
      simp (maxSteps := 1000000) (disch := (first | assumption | exact ne_b rfl | omega)) only [↓reduceIte, ↓zlet_eq, ↓bdR_sI, ↓bdR_sJ, ↓bdR_aI, zc2_some, Option.bind_some, ↓si_m1, ↓si_m2, ↓si_m3, iI_lit, iI_add, iI_sub, iI_mul, leT, leF, ltT, ltF, eqT, eqF, zinT, clI, Int.toNat_natCast, Int.reduceToNat, tN1, tNa, tN0, tNm, if_pos, if_neg, zI_sI, zI_sJ, zI_sR, zJ_sI, zJ_sJ, zJ_sR, zR_sI, zR_sJ, zR_sR, zK_sI, zK_sJ, zK_sR, zL_sI, zL_sJ, zL_sR, zI_aI, zJ_aI, zR_aI, zK_aI, zL_aI, z2_at, z2_a, z2_k, z1_self, z1_ne, true_and, and_true, bIt, bIf, Bool.false_eq_true, Bool.true_eq_false, eq_self, not_true_eq_false, not_false_eq_true, sK0, sK1, sK2, sK3, sK4, sK5, sK6, sK7, sK8, sK9, sK10, sK11, sK12, sK13, sK14, sK15, sK16, sK17, sK18, sK19, sK20, sK21, sK22, sK23, sK24, sK25, sK26, sK27, sK28, sK29, sK30, sK31, sK32, sK33, sK34, sK35, sK36, sK37, sK38, sK39, sK40, sK41, sK42, sK43, sK44, sK45, sK46, sK47, sK48, sK49, sK50, sK51, sK52, sK53, sK54, sK55, sK56, sK57, sK58, sK59, sK60, sK61, sK62, sK63, sK64, sK65, sK66, sK67, sK68, sK69, sK70, sK71, sK72, sK73, sK74, sK75, sL1, sL3, sL6, sL8, sL9, sL10, sL11, sL12, sL15, sL17, sL18, sL21, sL23, sL24, sL26, sL29, sL31, sL32, sL34, sL36, sL37, sL39, sL40, sL41, sL43, sL45, sL46, sL47, sL48, sL49, sL50, sL51, sL52, sL53, sL55, sL57, sL59, sL61, sL62, sL63, sL64, sL65, sL67, sL68, sL70, sL71, sL73, sL74, sL75, sR0_0, sR0_2, sR0_5, sR0_6, sR0_11, sR2_5, sR2_6, sR2_7, sR4_1, sR4_2, sR4_4, sR7_0, sR7_1, sR13_1, sR13_2, sR13_4, sR16_0, sR16_1, sR19_1, sR19_2, sR19_4, sR22_0, sR22_1, sR25_0, sR25_2, sR25_3, sR25_4, sR25_5, sR25_6, sR25_7, sR25_8, sR25_10, sR27_1, sR27_2, sR27_4, sR30_0, sR30_1, sR33_0, sR35_0, sR35_1, sR38_0, sR38_1, sR38_2, sR42_0, sR42_5, sR42_7, sR42_11, sR42_12, sR42_13, sR53_0, sR53_1, sR53_2, sR53_3, sR54_1, sR56_1, sR58_1, sR60_1, sR65_0, sR65_1, sR65_2, sR66_0, sR66_1, sR69_0, sR69_1, sR72_0, sR72_1, ↓sB0_0, ↓sB0_2, ↓sB0_5, ↓sB0_6, ↓sB0_11, ↓sB2_5, ↓sB2_6, ↓sB2_7, ↓sB4_1, ↓sB4_2, ↓sB4_4, ↓sB7_0, ↓sB7_1, ↓sB13_1, ↓sB13_2, ↓sB13_4, ↓sB16_0, ↓sB16_1, ↓sB19_1, ↓sB19_2, ↓sB19_4, ↓sB22_0, ↓sB22_1, ↓sB25_0, ↓sB25_2, ↓sB25_3, ↓sB25_4, ↓sB25_5, ↓sB25_6, ↓sB25_7, ↓sB25_8, ↓sB25_10, ↓sB27_1, ↓sB27_2, ↓sB27_4, ↓sB30_0, ↓sB30_1, ↓sB33_0, ↓sB35_0, ↓sB35_1, ↓sB38_0, ↓sB38_1, ↓sB38_2, ↓sB42_0, ↓sB42_5, ↓sB42_7, ↓sB42_11, ↓sB42_12, ↓sB42_13, ↓sB53_0, ↓sB53_1, ↓sB53_2, ↓sB53_3, ↓sB54_1, ↓sB56_1, ↓sB58_1, ↓sB60_1, ↓sB65_0, ↓sB65_1, ↓sB65_2, ↓sB66_0, ↓sB66_1, ↓sB69_0, ↓sB69_1, ↓sB72_0, ↓sB72_1, q.fK, q.f0, q.f1, q.f2, q.f3, q.f4, q.f5, q.f6, q.f7, q.f8, q.f9, q.f10, q.f11, q.f12]
    · show kX3_rowOfTwo_91 h 35 d (iI od) (iI ((tsh t - 1 : Nat) : Int)) 1 _ _ (zaI h 37 _) = _
      unfold kX3_rowOfTwo_91
      have e1 := fX3_arrange_e (fr := 1) (cnt := tsh t - 1) (num := od) (u := suq t x a b base (tk t)) (B := zI h 37) s (by omega) hod
      rw [show 1 + (tsh t - 1) = tsh t by omega] at e1
      rw [show 1 + fcn (sPs a b) (hc t x) (tk t) = tsh t by omega, show (1 : Int32) = iI ((1 : Nat) : Int) from rfl, e1, Option.bind_some]
      have s2 : St (zaI h 37 (afill (tsh t) (fun j => iI (arA (suq t x a b base (tk t)) 1 (tsh t - 1) od (tsh t - 1) j)) (zI h 37))) := s.aI _ _
      have q3 : Dk (zaI h 37 (afill (tsh t) (fun j => iI (arA (suq t x a b base (tk t)) 1 (tsh t - 1) od (tsh t - 1) j)) (zI h 37))) d t := q.fm (Fm_aI (S := [37]) _ _ (by simp)) (by simp; exact hd7)
      rw [sR35_1 s2, Option.bind_some, q3.f5, fX0_rowNumber_eq (n := tn t) (L := 5) (w := arA (suq t x a b base (tk t)) 1 (tsh t - 1) od (tsh t - 1)) q3.fK (sK37 s2) (sL37 s2) (by decide) q3.f0 bn12 (by omega) (by omega) (fun i hi => ⟨by rw [zI_aI, z1_self, afill_lt hi], a2 i hi⟩) a1, zc2_some, q3.f12, iI_mul, ← Int.natCast_mul]
  have key2 : ∀ (nr : Bool) (base st2 : Nat), (base = a ∨ base = b) → base < tn t → 1 ≤ st2 → st2 < 100 → (nr = true → base = a) → (nr = false → base = b) → ∃ h', jX3_rowOfTwo_40 h 35 d (iI a) (iI b) (iI (bI nr)) (iI st2) h = some (iI (if st2 - 1 < ff (tsh t - 1) (tsh t - 1) then ((rowN (tn t) (arA (suq t x a b base (tk t)) 1 (tsh t - 1) (st2 - 1) (tsh t - 1)) (tsh t) * tT t : Nat) : Int) else -2), h') ∧ Fm [37] h h' := by
    intro nr base st2 hb1 hb2 hs1 hs2 hn1 hn2
    unfold jX3_rowOfTwo_40
    have e1 : (st2 : Int) - 1 = ((st2 - 1 : Nat) : Int) := by omega
    have e2 : (tsh t : Int) - 1 = ((tsh t - 1 : Nat) : Int) := by omega
    have e3 := fX0_falling_eq (n := ((tsh t - 1 : Nat) : Int)) (k := tsh t - 1) ⟨by omega, by omega⟩ (by omega) h
    rw [hf.2.2] at e3
    have hcm := si_cmp (a := ((st2 - 1 : Nat) : Int)) (b := ((ff (tsh t - 1) (tsh t - 1) : Nat) : Int)) ⟨by omega, by omega⟩ ⟨by omega, by omega⟩
    rw [q.f5, show (1 : Int32) = iI 1 from rfl, iI_sub, iI_sub, zlet_eq, zlet_eq, e1, e2, e3, zc2_some, iI_long ⟨by omega, by omega⟩]
    by_cases c : st2 - 1 < ff (tsh t - 1) (tsh t - 1)
    · rw [if_pos (hcm.mpr (by omega)), if_pos (sK35 s), sR35_1 s, Option.bind_some, if_pos c]
      cases nr
      · rw [if_pos (show iI (bI false) = 0 from rfl)]
        have := key base (st2 - 1) hb1 hb2 c
        rw [hn2 rfl] at this ⊢
        exact this
      · rw [if_neg (show ¬ iI (bI true) = 0 by decide)]
        have := key base (st2 - 1) hb1 hb2 c
        rw [hn1 rfl] at this ⊢
        exact this
    · rw [if_neg (fun z => c (by have := hcm.mp z; omega)), if_neg c]
      exact ⟨h, rfl, Fm.rf⟩
  unfold fX3_rowOfTwo layT
  have e1 : (b : Int) - (a : Int) = ((b - a : Nat) : Int) := by omega
  rw [zlet_eq, iI_sub, zlet_eq, e1, if_pos q.fK, q2]
  by_cases c : 2 * (b - a) ≤ rkN t
  · rw [if_neg (by rw [iI_lit, iI_mul, iI_lt ⟨by omega, by omega⟩ ⟨by omega, by omega⟩]; omega), if_pos c, if_pos c]
    unfold jX3_rowOfTwo_21
    rw [if_neg (by decide)]
    exact key2 true a (b - a) (Or.inl rfl) (by omega) (by omega) (by omega) (fun _ => rfl) (fun q => by cases q)
  · rw [if_pos (by rw [iI_lit, iI_mul, iI_lt ⟨by omega, by omega⟩ ⟨by omega, by omega⟩]; omega), if_neg c, if_neg c]
    unfold jX3_rowOfTwo_21
    rw [if_pos (by decide), q2, iI_sub, show (rkN t : Int) - ((b - a : Nat) : Int) = ((rkN t - (b - a) : Nat) : Int) by omega]
    exact key2 false b (rkN t - (b - a)) (Or.inr rfl) hbn (by omega) (by omega) (fun q => by cases q) (fun _ => rfl)
theorem bySuit_in {d x i : Nat} {t : Tk} {g h : Zh} (sg : St g) (s : St h) (q : Dk h d t) (tok : Tok t) (hx : x < tH t) (hr : ∀ j, j < tk t → zI h 36 j = iI (hc t x j)) (hi : i < tk t) : lp (fun q : Int32 × Zh => bX3_bySuit_39 g 35 d (iI i) q.1 q.2) zB (iI ((i + 1 : Nat) : Int), h) = some (if sj t x i < tk t - (i + 1) then (1, (iI ((i + 1 + sj t x i : Nat) : Int), h)) else (2, (iI (tk t), h))) := by
  obtain ⟨bn4, bn12, bu1, bu4, bnu, bk2, bk5, bkn, bp1, bp2, bpk, bH, bsp, bs1, bs4, bT1, bT16, bR1, bR2, bH1, bff, bff1⟩ := tok.b
  obtain ⟨rk1, rk2⟩ := rkN_b tok
  have hv := hc_vld tok hx
  have q2 : zI h d 2 = iI (rkN t) := q.f2
  have hci := hv.1 i hi
  have hb := lp_sb (k := fun q => some q) (body := fun q : Int32 × Zh => bX3_bySuit_39 g 35 d (iI i) q.1 q.2) (st := fun j => ((iI ((i + 1 + j : Nat) : Int), h) : Int32 × Zh)) (fun j => decide (hc t x i / rkN t = hc t x (i + 1 + j) / rkN t)) 0 1 (fun j => ((iI ((i + 1 + j : Nat) : Int), h) : Int32 × Zh)) ((iI (tk t), h) : Int32 × Zh) (tk t - (i + 1)) rfl (by omega) ?_ ?_ ?_
  · have e : ∀ {α : Type} (o : Option α), (o.bind fun q => some q) = o := fun o => by cases o <;> rfl
    rw [e] at hb
    rw [show ((i + 1 : Nat) : Int) = ((i + 1 + 0 : Nat) : Int) by omega, hb]
    unfold sj
    split <;> rfl
  · intro j hj hP
    show bX3_bySuit_39 g 35 d (iI i) (iI ((i + 1 + j : Nat) : Int)) h = _
    unfold bX3_bySuit_39
    have hP2 : ¬ (hc t x i / rkN t = hc t x (i + 1 + j) / rkN t) := of_decide_eq_false hP
    have hcj := hv.1 (i + 1 + j) (by omega)
    have l1 : hc t x i / rkN t ≤ hc t x i := Nat.div_le_self _ _
    have l2 : hc t x (i + 1 + j) / rkN t ≤ hc t x (i + 1 + j) := Nat.div_le_self _ _
    have g1 : iI (hc t x i) / iI (rkN t) = iI ((hc t x i / rkN t : Nat) : Int) := si_divN (by omega) (by omega) (by omega)
    have g2 : iI (hc t x (i + 1 + j)) / iI (rkN t) = iI ((hc t x (i + 1 + j) / rkN t : Nat) : Int) := si_divN (by omega) (by omega) (by omega)
    clear hP
    generalize hc t x i / rkN t = y1 at g1 hP2 l1
    generalize hc t x (i + 1 + j) / rkN t = y2 at g2 hP2 l2
    simp (maxSteps := 1000000) (disch := (first | assumption | exact ne_b rfl | omega)) only [↓reduceIte, ↓zlet_eq, ↓bdR_sI, ↓bdR_sJ, ↓bdR_aI, zc2_some, Option.bind_some, ↓si_m1, ↓si_m2, ↓si_m3, iI_lit, iI_add, iI_sub, iI_mul, leT, leF, ltT, ltF, eqT, eqF, zinT, clI, Int.toNat_natCast, Int.reduceToNat, tN1, tNa, tN0, tNm, if_pos, if_neg, zI_sI, zI_sJ, zI_sR, zJ_sI, zJ_sJ, zJ_sR, zR_sI, zR_sJ, zR_sR, zK_sI, zK_sJ, zK_sR, zL_sI, zL_sJ, zL_sR, zI_aI, zJ_aI, zR_aI, zK_aI, zL_aI, z2_at, z2_a, z2_k, z1_self, z1_ne, true_and, and_true, bIt, bIf, Bool.false_eq_true, Bool.true_eq_false, eq_self, not_true_eq_false, not_false_eq_true, sK0, sK1, sK2, sK3, sK4, sK5, sK6, sK7, sK8, sK9, sK10, sK11, sK12, sK13, sK14, sK15, sK16, sK17, sK18, sK19, sK20, sK21, sK22, sK23, sK24, sK25, sK26, sK27, sK28, sK29, sK30, sK31, sK32, sK33, sK34, sK35, sK36, sK37, sK38, sK39, sK40, sK41, sK42, sK43, sK44, sK45, sK46, sK47, sK48, sK49, sK50, sK51, sK52, sK53, sK54, sK55, sK56, sK57, sK58, sK59, sK60, sK61, sK62, sK63, sK64, sK65, sK66, sK67, sK68, sK69, sK70, sK71, sK72, sK73, sK74, sK75, sL1, sL3, sL6, sL8, sL9, sL10, sL11, sL12, sL15, sL17, sL18, sL21, sL23, sL24, sL26, sL29, sL31, sL32, sL34, sL36, sL37, sL39, sL40, sL41, sL43, sL45, sL46, sL47, sL48, sL49, sL50, sL51, sL52, sL53, sL55, sL57, sL59, sL61, sL62, sL63, sL64, sL65, sL67, sL68, sL70, sL71, sL73, sL74, sL75, sR0_0, sR0_2, sR0_5, sR0_6, sR0_11, sR2_5, sR2_6, sR2_7, sR4_1, sR4_2, sR4_4, sR7_0, sR7_1, sR13_1, sR13_2, sR13_4, sR16_0, sR16_1, sR19_1, sR19_2, sR19_4, sR22_0, sR22_1, sR25_0, sR25_2, sR25_3, sR25_4, sR25_5, sR25_6, sR25_7, sR25_8, sR25_10, sR27_1, sR27_2, sR27_4, sR30_0, sR30_1, sR33_0, sR35_0, sR35_1, sR38_0, sR38_1, sR38_2, sR42_0, sR42_5, sR42_7, sR42_11, sR42_12, sR42_13, sR53_0, sR53_1, sR53_2, sR53_3, sR54_1, sR56_1, sR58_1, sR60_1, sR65_0, sR65_1, sR65_2, sR66_0, sR66_1, sR69_0, sR69_1, sR72_0, sR72_1, ↓sB0_0, ↓sB0_2, ↓sB0_5, ↓sB0_6, ↓sB0_11, ↓sB2_5, ↓sB2_6, ↓sB2_7, ↓sB4_1, ↓sB4_2, ↓sB4_4, ↓sB7_0, ↓sB7_1, ↓sB13_1, ↓sB13_2, ↓sB13_4, ↓sB16_0, ↓sB16_1, ↓sB19_1, ↓sB19_2, ↓sB19_4, ↓sB22_0, ↓sB22_1, ↓sB25_0, ↓sB25_2, ↓sB25_3, ↓sB25_4, ↓sB25_5, ↓sB25_6, ↓sB25_7, ↓sB25_8, ↓sB25_10, ↓sB27_1, ↓sB27_2, ↓sB27_4, ↓sB30_0, ↓sB30_1, ↓sB33_0, ↓sB35_0, ↓sB35_1, ↓sB38_0, ↓sB38_1, ↓sB38_2, ↓sB42_0, ↓sB42_5, ↓sB42_7, ↓sB42_11, ↓sB42_12, ↓sB42_13, ↓sB53_0, ↓sB53_1, ↓sB53_2, ↓sB53_3, ↓sB54_1, ↓sB56_1, ↓sB58_1, ↓sB60_1, ↓sB65_0, ↓sB65_1, ↓sB65_2, ↓sB66_0, ↓sB66_1, ↓sB69_0, ↓sB69_1, ↓sB72_0, ↓sB72_1, q.f3, q2, hr i hi, hr (i + 1 + j) (show i + 1 + j < tk t by omega), g1, g2]
    rfl
  · intro j hj hP
    show bX3_bySuit_39 g 35 d (iI i) (iI ((i + 1 + j : Nat) : Int)) h = _
    unfold bX3_bySuit_39
    have hP2 : hc t x i / rkN t = hc t x (i + 1 + j) / rkN t := of_decide_eq_true hP
    have hcj := hv.1 (i + 1 + j) (by omega)
    have l1 : hc t x i / rkN t ≤ hc t x i := Nat.div_le_self _ _
    have l2 : hc t x (i + 1 + j) / rkN t ≤ hc t x (i + 1 + j) := Nat.div_le_self _ _
    have g1 : iI (hc t x i) / iI (rkN t) = iI ((hc t x i / rkN t : Nat) : Int) := si_divN (by omega) (by omega) (by omega)
    have g2 : iI (hc t x (i + 1 + j)) / iI (rkN t) = iI ((hc t x (i + 1 + j) / rkN t : Nat) : Int) := si_divN (by omega) (by omega) (by omega)
    clear hP
    generalize hc t x i / rkN t = y1 at g1 hP2 l1
    generalize hc t x (i + 1 + j) / rkN t = y2 at g2 hP2 l2
    simp (maxSteps := 1000000) (disch := (first | assumption | exact ne_b rfl | omega)) only [↓reduceIte, ↓zlet_eq, ↓bdR_sI, ↓bdR_sJ, ↓bdR_aI, zc2_some, Option.bind_some, ↓si_m1, ↓si_m2, ↓si_m3, iI_lit, iI_add, iI_sub, iI_mul, leT, leF, ltT, ltF, eqT, eqF, zinT, clI, Int.toNat_natCast, Int.reduceToNat, tN1, tNa, tN0, tNm, if_pos, if_neg, zI_sI, zI_sJ, zI_sR, zJ_sI, zJ_sJ, zJ_sR, zR_sI, zR_sJ, zR_sR, zK_sI, zK_sJ, zK_sR, zL_sI, zL_sJ, zL_sR, zI_aI, zJ_aI, zR_aI, zK_aI, zL_aI, z2_at, z2_a, z2_k, z1_self, z1_ne, true_and, and_true, bIt, bIf, Bool.false_eq_true, Bool.true_eq_false, eq_self, not_true_eq_false, not_false_eq_true, sK0, sK1, sK2, sK3, sK4, sK5, sK6, sK7, sK8, sK9, sK10, sK11, sK12, sK13, sK14, sK15, sK16, sK17, sK18, sK19, sK20, sK21, sK22, sK23, sK24, sK25, sK26, sK27, sK28, sK29, sK30, sK31, sK32, sK33, sK34, sK35, sK36, sK37, sK38, sK39, sK40, sK41, sK42, sK43, sK44, sK45, sK46, sK47, sK48, sK49, sK50, sK51, sK52, sK53, sK54, sK55, sK56, sK57, sK58, sK59, sK60, sK61, sK62, sK63, sK64, sK65, sK66, sK67, sK68, sK69, sK70, sK71, sK72, sK73, sK74, sK75, sL1, sL3, sL6, sL8, sL9, sL10, sL11, sL12, sL15, sL17, sL18, sL21, sL23, sL24, sL26, sL29, sL31, sL32, sL34, sL36, sL37, sL39, sL40, sL41, sL43, sL45, sL46, sL47, sL48, sL49, sL50, sL51, sL52, sL53, sL55, sL57, sL59, sL61, sL62, sL63, sL64, sL65, sL67, sL68, sL70, sL71, sL73, sL74, sL75, sR0_0, sR0_2, sR0_5, sR0_6, sR0_11, sR2_5, sR2_6, sR2_7, sR4_1, sR4_2, sR4_4, sR7_0, sR7_1, sR13_1, sR13_2, sR13_4, sR16_0, sR16_1, sR19_1, sR19_2, sR19_4, sR22_0, sR22_1, sR25_0, sR25_2, sR25_3, sR25_4, sR25_5, sR25_6, sR25_7, sR25_8, sR25_10, sR27_1, sR27_2, sR27_4, sR30_0, sR30_1, sR33_0, sR35_0, sR35_1, sR38_0, sR38_1, sR38_2, sR42_0, sR42_5, sR42_7, sR42_11, sR42_12, sR42_13, sR53_0, sR53_1, sR53_2, sR53_3, sR54_1, sR56_1, sR58_1, sR60_1, sR65_0, sR65_1, sR65_2, sR66_0, sR66_1, sR69_0, sR69_1, sR72_0, sR72_1, ↓sB0_0, ↓sB0_2, ↓sB0_5, ↓sB0_6, ↓sB0_11, ↓sB2_5, ↓sB2_6, ↓sB2_7, ↓sB4_1, ↓sB4_2, ↓sB4_4, ↓sB7_0, ↓sB7_1, ↓sB13_1, ↓sB13_2, ↓sB13_4, ↓sB16_0, ↓sB16_1, ↓sB19_1, ↓sB19_2, ↓sB19_4, ↓sB22_0, ↓sB22_1, ↓sB25_0, ↓sB25_2, ↓sB25_3, ↓sB25_4, ↓sB25_5, ↓sB25_6, ↓sB25_7, ↓sB25_8, ↓sB25_10, ↓sB27_1, ↓sB27_2, ↓sB27_4, ↓sB30_0, ↓sB30_1, ↓sB33_0, ↓sB35_0, ↓sB35_1, ↓sB38_0, ↓sB38_1, ↓sB38_2, ↓sB42_0, ↓sB42_5, ↓sB42_7, ↓sB42_11, ↓sB42_12, ↓sB42_13, ↓sB53_0, ↓sB53_1, ↓sB53_2, ↓sB53_3, ↓sB54_1, ↓sB56_1, ↓sB58_1, ↓sB60_1, ↓sB65_0, ↓sB65_1, ↓sB65_2, ↓sB66_0, ↓sB66_1, ↓sB69_0, ↓sB69_1, ↓sB72_0, ↓sB72_1, q.f3, q2, hr i hi, hr (i + 1 + j) (show i + 1 + j < tk t by omega), g1, g2]
  · show bX3_bySuit_39 g 35 d (iI i) (iI ((i + 1 + (tk t - (i + 1)) : Nat) : Int)) h = _
    unfold bX3_bySuit_39
    rw [show i + 1 + (tk t - (i + 1)) = tk t by omega]
    simp (maxSteps := 1000000) (disch := (first | assumption | exact ne_b rfl | omega)) only [↓reduceIte, ↓zlet_eq, ↓bdR_sI, ↓bdR_sJ, ↓bdR_aI, zc2_some, Option.bind_some, ↓si_m1, ↓si_m2, ↓si_m3, iI_lit, iI_add, iI_sub, iI_mul, leT, leF, ltT, ltF, eqT, eqF, zinT, clI, Int.toNat_natCast, Int.reduceToNat, tN1, tNa, tN0, tNm, if_pos, if_neg, zI_sI, zI_sJ, zI_sR, zJ_sI, zJ_sJ, zJ_sR, zR_sI, zR_sJ, zR_sR, zK_sI, zK_sJ, zK_sR, zL_sI, zL_sJ, zL_sR, zI_aI, zJ_aI, zR_aI, zK_aI, zL_aI, z2_at, z2_a, z2_k, z1_self, z1_ne, true_and, and_true, bIt, bIf, Bool.false_eq_true, Bool.true_eq_false, eq_self, not_true_eq_false, not_false_eq_true, q.f3]
theorem fX3_bySuit_eq {d x : Nat} {t : Tk} {h : Zh} (s : St h) (q : Dk h d t) (tok : Tok t) (hx : x < tH t) (hd6 : d ≠ 36) (hd7 : d ≠ 37) : ∃ h', fX3_bySuit 35 d (iI (pk t x)) h = some (iI (layS t x), h') ∧ Fm [36, 37] h h' := by
  obtain ⟨bn4, bn12, bu1, bu4, bnu, bk2, bk5, bkn, bp1, bp2, bpk, bH, bsp, bs1, bs4, bT1, bT16, bR1, bR2, bH1, bff, bff1⟩ := tok.b
  have hv := hc_vld tok hx
  have s1 : St (srH t x h) := s.aI _ _
  have q1 : Dk (srH t x h) d t := q.fm (Fm_aI (S := [36]) _ _ (by simp)) (by simp; exact hd6)
  unfold fX3_bySuit layS
  rw [zlet_eq, if_pos q.fK, fX0_anyOrder_eq q, zc2_some]
  cases e : anyO t
  · rw [if_pos (show iI (bI false) = 0 from rfl), if_neg (by simp)]
    exact ⟨h, rfl, Fm.rf⟩
  · rw [if_neg (show ¬ iI (bI true) = 0 by decide), q.f4]
    by_cases c : tp t = 1
    · have hst : tst t = false := by unfold anyO at e; cases h1 : tst t <;> simp_all
      rw [if_pos (by rw [c]; rfl), if_pos (sK35 s), fX3_sortHand_eq s q tok hx hd6, Option.bind_some]
      have hr : ∀ j, j < tk t → zI (srH t x h) 36 j = iI (hc t x j) := fun j hj => by unfold srH; rw [zI_aI, z1_self, afill_lt hj, cS_she tok hx hst j hj]
      have hl := lp_sb (k := fun q : Nat × Int32 × Int32 × Zh => kX3_bySuit_26 h 35 d q.1 q.2.1 q.2.2.1 q.2.2.2) (body := fun q : Int32 × Int32 × Zh => bX3_bySuit_26 h 35 d q.1 q.2.1 q.2.2) (st := fun i => ((iI (i : Int), 0, srH t x h) : Int32 × Int32 × Zh)) (fun i => decide (sj t x i < tk t - (i + 1))) 0 1 (fun i => ((iI (i : Int), iI ((i + 1 + sj t x i : Nat) : Int), srH t x h) : Int32 × Int32 × Zh)) ((iI (tk t), 0, srH t x h) : Int32 × Int32 × Zh) (tk t) rfl (by omega) ?_ ?_ ?_
      · rw [show ((0 : Int32), ((0 : Int32), srH t x h)) = (iI ((0 : Nat) : Int), (0 : Int32), srH t x h) from rfl, hl]
        by_cases c2 : si t x < tk t
        · obtain ⟨o1, o2, o3, o4⟩ := suit_ok tok hx hst c2
          obtain ⟨h', r1, r2⟩ := fX3_rowOfTwo_eq (a := hc t x (si t x)) (b := hc t x (si t x + 1 + sj t x (si t x))) s1 q1 tok hx hd7 c hr o2 o3 o4 ⟨_, c2, rfl⟩ ⟨_, o1, rfl⟩
          refine ⟨h', ?_, (Fm_aI _ _ (by simp)).tr (r2.mono (by simp))⟩
          have c3 : zfst (fun i => decide (sj t x i < tk t - (i + 1))) (tk t) < tk t := c2
          rw [if_pos c3, if_pos ⟨rfl, c, c2⟩]
          show kX3_bySuit_26 h 35 d 1 (iI (si t x)) (iI ((si t x + 1 + sj t x (si t x) : Nat) : Int)) (srH t x h) = _
          unfold kX3_bySuit_26
          have b1 := hr (si t x) c2
          have b2 := hr _ o1
          simp (maxSteps := 1000000) (disch := (first | assumption | exact ne_b rfl | omega)) only [↓reduceIte, ↓zlet_eq, ↓bdR_sI, ↓bdR_sJ, ↓bdR_aI, zc2_some, Option.bind_some, ↓si_m1, ↓si_m2, ↓si_m3, iI_lit, iI_add, iI_sub, iI_mul, leT, leF, ltT, ltF, eqT, eqF, zinT, clI, Int.toNat_natCast, Int.reduceToNat, tN1, tNa, tN0, tNm, if_pos, if_neg, zI_sI, zI_sJ, zI_sR, zJ_sI, zJ_sJ, zJ_sR, zR_sI, zR_sJ, zR_sR, zK_sI, zK_sJ, zK_sR, zL_sI, zL_sJ, zL_sR, zI_aI, zJ_aI, zR_aI, zK_aI, zL_aI, z2_at, z2_a, z2_k, z1_self, z1_ne, true_and, and_true, bIt, bIf, Bool.false_eq_true, Bool.true_eq_false, eq_self, not_true_eq_false, not_false_eq_true, sK0, sK1, sK2, sK3, sK4, sK5, sK6, sK7, sK8, sK9, sK10, sK11, sK12, sK13, sK14, sK15, sK16, sK17, sK18, sK19, sK20, sK21, sK22, sK23, sK24, sK25, sK26, sK27, sK28, sK29, sK30, sK31, sK32, sK33, sK34, sK35, sK36, sK37, sK38, sK39, sK40, sK41, sK42, sK43, sK44, sK45, sK46, sK47, sK48, sK49, sK50, sK51, sK52, sK53, sK54, sK55, sK56, sK57, sK58, sK59, sK60, sK61, sK62, sK63, sK64, sK65, sK66, sK67, sK68, sK69, sK70, sK71, sK72, sK73, sK74, sK75, sL1, sL3, sL6, sL8, sL9, sL10, sL11, sL12, sL15, sL17, sL18, sL21, sL23, sL24, sL26, sL29, sL31, sL32, sL34, sL36, sL37, sL39, sL40, sL41, sL43, sL45, sL46, sL47, sL48, sL49, sL50, sL51, sL52, sL53, sL55, sL57, sL59, sL61, sL62, sL63, sL64, sL65, sL67, sL68, sL70, sL71, sL73, sL74, sL75, sR0_0, sR0_2, sR0_5, sR0_6, sR0_11, sR2_5, sR2_6, sR2_7, sR4_1, sR4_2, sR4_4, sR7_0, sR7_1, sR13_1, sR13_2, sR13_4, sR16_0, sR16_1, sR19_1, sR19_2, sR19_4, sR22_0, sR22_1, sR25_0, sR25_2, sR25_3, sR25_4, sR25_5, sR25_6, sR25_7, sR25_8, sR25_10, sR27_1, sR27_2, sR27_4, sR30_0, sR30_1, sR33_0, sR35_0, sR35_1, sR38_0, sR38_1, sR38_2, sR42_0, sR42_5, sR42_7, sR42_11, sR42_12, sR42_13, sR53_0, sR53_1, sR53_2, sR53_3, sR54_1, sR56_1, sR58_1, sR60_1, sR65_0, sR65_1, sR65_2, sR66_0, sR66_1, sR69_0, sR69_1, sR72_0, sR72_1, ↓sB0_0, ↓sB0_2, ↓sB0_5, ↓sB0_6, ↓sB0_11, ↓sB2_5, ↓sB2_6, ↓sB2_7, ↓sB4_1, ↓sB4_2, ↓sB4_4, ↓sB7_0, ↓sB7_1, ↓sB13_1, ↓sB13_2, ↓sB13_4, ↓sB16_0, ↓sB16_1, ↓sB19_1, ↓sB19_2, ↓sB19_4, ↓sB22_0, ↓sB22_1, ↓sB25_0, ↓sB25_2, ↓sB25_3, ↓sB25_4, ↓sB25_5, ↓sB25_6, ↓sB25_7, ↓sB25_8, ↓sB25_10, ↓sB27_1, ↓sB27_2, ↓sB27_4, ↓sB30_0, ↓sB30_1, ↓sB33_0, ↓sB35_0, ↓sB35_1, ↓sB38_0, ↓sB38_1, ↓sB38_2, ↓sB42_0, ↓sB42_5, ↓sB42_7, ↓sB42_11, ↓sB42_12, ↓sB42_13, ↓sB53_0, ↓sB53_1, ↓sB53_2, ↓sB53_3, ↓sB54_1, ↓sB56_1, ↓sB58_1, ↓sB60_1, ↓sB65_0, ↓sB65_1, ↓sB65_2, ↓sB66_0, ↓sB66_1, ↓sB69_0, ↓sB69_1, ↓sB72_0, ↓sB72_1, b1, b2, r1]
        · have c3 : ¬ zfst (fun i => decide (sj t x i < tk t - (i + 1))) (tk t) < tk t := c2
          rw [if_neg c3, if_neg (fun z => c2 z.2.2)]
          exact ⟨srH t x h, rfl, Fm_aI _ _ (by simp)⟩
      · intro i hi hP
        show bX3_bySuit_26 h 35 d (iI i) 0 (srH t x h) = _
        unfold bX3_bySuit_26
        have hP2 : ¬ (sj t x i < tk t - (i + 1)) := of_decide_eq_false hP
        have hin := bySuit_in (i := i) s s1 q1 tok hx hr hi
        rw [if_neg hP2] at hin
        rw [q1.f3, if_neg (by rw [iI_le ⟨by omega, by omega⟩ ⟨by omega, by omega⟩]; omega), iI_lit, iI_add, zlet_eq]
        refine (lp_bd hin).trans ?_
        show kX3_bySuit_39 h 35 d (iI i) 2 (iI (tk t)) (srH t x h) = _
        unfold kX3_bySuit_39
        simp (maxSteps := 1000000) (disch := (first | assumption | exact ne_b rfl | omega)) only [↓reduceIte, ↓zlet_eq, ↓bdR_sI, ↓bdR_sJ, ↓bdR_aI, zc2_some, Option.bind_some, ↓si_m1, ↓si_m2, ↓si_m3, iI_lit, iI_add, iI_sub, iI_mul, leT, leF, ltT, ltF, eqT, eqF, zinT, clI, Int.toNat_natCast, Int.reduceToNat, tN1, tNa, tN0, tNm, if_pos, if_neg, zI_sI, zI_sJ, zI_sR, zJ_sI, zJ_sJ, zJ_sR, zR_sI, zR_sJ, zR_sR, zK_sI, zK_sJ, zK_sR, zL_sI, zL_sJ, zL_sR, zI_aI, zJ_aI, zR_aI, zK_aI, zL_aI, z2_at, z2_a, z2_k, z1_self, z1_ne, true_and, and_true, bIt, bIf, Bool.false_eq_true, Bool.true_eq_false, eq_self, not_true_eq_false, not_false_eq_true]
        rfl
      · intro i hi hP
        show bX3_bySuit_26 h 35 d (iI i) 0 (srH t x h) = _
        unfold bX3_bySuit_26
        have hP2 : sj t x i < tk t - (i + 1) := of_decide_eq_true hP
        have hin := bySuit_in (i := i) s s1 q1 tok hx hr hi
        rw [if_pos hP2] at hin
        rw [q1.f3, if_neg (by rw [iI_le ⟨by omega, by omega⟩ ⟨by omega, by omega⟩]; omega), iI_lit, iI_add, zlet_eq]
        refine (lp_bd hin).trans ?_
        rfl
      · show bX3_bySuit_26 h 35 d (iI (tk t)) 0 (srH t x h) = _
        unfold bX3_bySuit_26
        rw [q1.f3, if_pos (by rw [iI_le ⟨by omega, by omega⟩ ⟨by omega, by omega⟩]; omega)]
    · rw [if_neg (by rw [show (1 : Int32) = iI ((1 : Nat) : Int) from rfl, iI_eq ⟨by omega, by omega⟩ ⟨by omega, by omega⟩]; omega), if_neg (fun z => c z.2.1)]
      exact ⟨h, rfl, Fm.rf⟩
