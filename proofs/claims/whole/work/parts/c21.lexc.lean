/-! the text's tokens; the class's reader steps -/
def skp (tx : Nat → Int) (n p : Nat) : Nat := p + zfst (fun j => decide (tx (p + j) ≠ 32)) (n - p)
def rnl (lo hi : Int) (tx : Nat → Int) (n s : Nat) : Nat := zfst (fun j => !(decide (lo ≤ tx (s + j)) && decide (tx (s + j) ≤ hi))) (n - s)
def dvv (lo : Int) (tx : Nat → Int) (s : Nat) : Nat → Int
  | 0 => 0
  | k + 1 => dvv lo tx s k * 10 + (tx (s + k) - lo)
def ltr (c : Int) : Bool := decide (97 ≤ c) && decide (c ≤ 122)
def dgt0 (c : Int) : Bool := decide (48 ≤ c) && decide (c ≤ 57)
/-- END 0, WORD 1, WHOLE 2, PARTING 3, COMMA 4, none 5 -/
def tkK (tx : Nat → Int) (n p : Nat) : Nat := if n ≤ skp tx n p then 0 else if ltr (tx (skp tx n p)) = true then (if rnl 97 122 tx n (skp tx n p) ≤ 8 then 1 else 5) else if dgt0 (tx (skp tx n p)) = true then (if rnl 48 57 tx n (skp tx n p) ≤ 3 then 2 else 5) else if tx (skp tx n p) = 59 then 3 else if tx (skp tx n p) = 44 then 4 else 5
def tkN (tx : Nat → Int) (n p : Nat) : Nat := if n ≤ skp tx n p then skp tx n p else if ltr (tx (skp tx n p)) = true then skp tx n p + rnl 97 122 tx n (skp tx n p) else if dgt0 (tx (skp tx n p)) = true then skp tx n p + rnl 48 57 tx n (skp tx n p) else skp tx n p + 1
def tkV (tx : Nat → Int) (n p : Nat) : Int := dvv 48 tx (skp tx n p) (rnl 48 57 tx n (skp tx n p))
theorem skp_b (tx : Nat → Int) {n p : Nat} (hp : p ≤ n) : p ≤ skp tx n p ∧ skp tx n p ≤ n := by
  have := zfst_le (fun j => decide (tx (p + j) ≠ 32)) (n - p)
  unfold skp
  omega
theorem rnl_b (lo hi : Int) (tx : Nat → Int) {n s : Nat} (hs : s ≤ n) : s + rnl lo hi tx n s ≤ n := by
  have := zfst_le (fun j => !(decide (lo ≤ tx (s + j)) && decide (tx (s + j) ≤ hi))) (n - s)
  unfold rnl
  omega
/-- the text as the class's reader holds it -/
def TxC (h : Zh) (tx : Nat → Int) (n : Nat) : Prop := n ≤ 900 ∧ zI h 2 3 = iI n ∧ zR h 2 2 = some 1 ∧ ∀ j, j < n → zI h 1 j = iI (tx j) ∧ -128 ≤ tx j ∧ tx j < 128
theorem TxC.fm {S : List Nat} {h h' : Zh} {tx : Nat → Int} {n : Nat} (q : TxC h tx n) (f : Fm S h h') (h3 : zI h' 2 3 = zI h 2 3) (h1 : 1 ∉ S) : TxC h' tx n := by
  obtain ⟨a, b, c, d⟩ := q
  exact ⟨a, by rw [h3]; exact b, by rw [f.R]; exact c, by rw [f.I h1]; exact d⟩
theorem run_5 {g h0 : Zh} {tx : Nat → Int} {n s : Nat} {lo hi : Int} (sg : St g) (s0 : St h0) (tc : TxC h0 tx n) (hs : s ≤ n) (hlo : -128 ≤ lo ∧ lo < 128) (hhi : -128 ≤ hi ∧ hi < 128) (h10 : zI h0 2 10 = iI s) (h11 : zI h0 2 11 = iI 0) : ∃ h', lp (fun q : Zh => bX7_runLength_5 g 2 (iI lo) (iI hi) q) zB h0 = some (1, h') ∧ Fm [2] h0 h' ∧ (∀ j, j ≠ 10 → j ≠ 11 → zI h' 2 j = zI h0 2 j) ∧ zI h' 2 10 = iI ((s + rnl lo hi tx n s : Nat) : Int) ∧ zI h' 2 11 = iI (dvv lo tx s (rnl lo hi tx n s)) := by
  have hrb := rnl_b lo hi tx hs
  obtain ⟨hn, h3, r2, ht⟩ := tc
  have := lp_cnt (body := fun q : Zh => bX7_runLength_5 g 2 (iI lo) (iI hi) q) (rnl lo hi tx n s) (fun k h => Fm [2] h0 h ∧ (∀ j, j ≠ 10 → j ≠ 11 → zI h 2 j = zI h0 2 j) ∧ zI h 2 10 = iI ((s + k : Nat) : Int) ∧ zI h 2 11 = iI (dvv lo tx s k)) (fun e h => e = 1 ∧ Fm [2] h0 h ∧ (∀ j, j ≠ 10 → j ≠ 11 → zI h 2 j = zI h0 2 j) ∧ zI h 2 10 = iI ((s + rnl lo hi tx n s : Nat) : Int) ∧ zI h 2 11 = iI (dvv lo tx s (rnl lo hi tx n s))) ?_ ?_ (by omega) (s := h0) ⟨Fm.rf, fun _ _ _ => rfl, h10, h11⟩
  · obtain ⟨e, h', l1, l2, l3⟩ := this
    have e0 : e = 0 := by omega
    subst e0
    exact ⟨h', l1, l3⟩
  · intro k h hk ⟨fm, k1, k2, k3⟩
    have s1 := s0.fm fm
    have hb := zfst_before (P := fun j => !(decide (lo ≤ tx (s + j)) && decide (tx (s + j) ≤ hi))) (n := n - s) (i := k) hk
    have hb' : (decide (lo ≤ tx (s + k)) && decide (tx (s + k) ≤ hi)) = true := by
      cases q : (decide (lo ≤ tx (s + k)) && decide (tx (s + k) ≤ hi))
      · rw [q] at hb; cases hb
      · rfl
    rw [Bool.and_eq_true_iff] at hb'
    have c1 := of_decide_eq_true hb'.1
    have c2 := of_decide_eq_true hb'.2
    obtain ⟨t1, t2, t3⟩ := ht (s + k) (by omega)
    have t1' : zI h 1 (s + k) = iI (tx (s + k)) := by rw [fm.I (by simp)]; exact t1
    have h3' : zI h 2 3 = iI n := by rw [k1 3 (by decide) (by decide)]; exact h3
    have r2' : zR h 2 2 = some 1 := by rw [fm.R]; exact r2
    have ee : ((s + k : Nat) : Int) + 1 = ((s + (k + 1) : Nat) : Int) := by omega
    refine Or.inl ⟨zsI (zsI h 2 11 (iI (dvv lo tx s (k + 1)))) 2 10 (iI ((s + (k + 1) : Nat) : Int)), ?_, (fm.tr (Fm_sI _ _ _ (by simp))).tr (Fm_sI _ _ _ (by simp)), fun j j10 j11 => by rw [zI_sI, z2_k _ _ _ j10, zI_sI, z2_k _ _ _ j11]; exact k1 j j10 j11, by rw [zI_sI, z2_at], by rw [zI_sI, z2_k _ _ _ (by decide), zI_sI, z2_at]⟩
    show bX7_runLength_5 g 2 (iI lo) (iI hi) h = _
    rw [dvv]
    generalize dvv lo tx s k = w at *
    generalize tx (s + k) = y at *
    unfold bX7_runLength_5
    simp (maxSteps := 1000000) (disch := (first | assumption | exact ne_b rfl | omega)) only [↓reduceIte, ↓zlet_eq, ↓bdR_sI, ↓bdR_sJ, ↓bdR_aI, zc2_some, Option.bind_some, ↓si_m1, ↓si_m2, ↓si_m3, iI_lit, iI_add, iI_sub, iI_mul, leT, leF, ltT, ltF, eqT, eqF, zinT, clI, Int.toNat_natCast, Int.reduceToNat, tN1, tNa, tN0, tNm, if_pos, if_neg, zI_sI, zI_sJ, zI_sR, zJ_sI, zJ_sJ, zJ_sR, zR_sI, zR_sJ, zR_sR, zK_sI, zK_sJ, zK_sR, zL_sI, zL_sJ, zL_sR, zI_aI, zJ_aI, zR_aI, zK_aI, zL_aI, z2_at, z2_a, z2_k, z1_self, z1_ne, true_and, and_true, bIt, bIf, Bool.false_eq_true, Bool.true_eq_false, eq_self, not_true_eq_false, not_false_eq_true, sK0, sK1, sK2, sK3, sK4, sK5, sK6, sK7, sK8, sK9, sK10, sK11, sK12, sK13, sK14, sK15, sK16, sK17, sK18, sK19, sK20, sK21, sK22, sK23, sK24, sK25, sK26, sK27, sK28, sK29, sK30, sK31, sK32, sK33, sK34, sK35, sK36, sK37, sK38, sK39, sK40, sK41, sK42, sK43, sK44, sK45, sK46, sK47, sK48, sK49, sK50, sK51, sK52, sK53, sK54, sK55, sK56, sK57, sK58, sK59, sK60, sK61, sK62, sK63, sK64, sK65, sK66, sK67, sK68, sK69, sK70, sK71, sK72, sK73, sK74, sK75, sL1, sL3, sL6, sL8, sL9, sL10, sL11, sL12, sL15, sL17, sL18, sL21, sL23, sL24, sL26, sL29, sL31, sL32, sL34, sL36, sL37, sL39, sL40, sL41, sL43, sL45, sL46, sL47, sL48, sL49, sL50, sL51, sL52, sL53, sL55, sL57, sL59, sL61, sL62, sL63, sL64, sL65, sL67, sL68, sL70, sL71, sL73, sL74, sL75, sR0_0, sR0_2, sR0_5, sR0_6, sR0_11, sR2_5, sR2_6, sR2_7, sR4_1, sR4_2, sR4_4, sR7_0, sR7_1, sR13_1, sR13_2, sR13_4, sR16_0, sR16_1, sR19_1, sR19_2, sR19_4, sR22_0, sR22_1, sR25_0, sR25_2, sR25_3, sR25_4, sR25_5, sR25_6, sR25_7, sR25_8, sR25_10, sR27_1, sR27_2, sR27_4, sR30_0, sR30_1, sR33_0, sR35_0, sR35_1, sR38_0, sR38_1, sR38_2, sR42_0, sR42_5, sR42_7, sR42_11, sR42_12, sR42_13, sR53_0, sR53_1, sR53_2, sR53_3, sR54_1, sR56_1, sR58_1, sR60_1, sR65_0, sR65_1, sR65_2, sR66_0, sR66_1, sR69_0, sR69_1, sR72_0, sR72_1, ↓sB0_0, ↓sB0_2, ↓sB0_5, ↓sB0_6, ↓sB0_11, ↓sB2_5, ↓sB2_6, ↓sB2_7, ↓sB4_1, ↓sB4_2, ↓sB4_4, ↓sB7_0, ↓sB7_1, ↓sB13_1, ↓sB13_2, ↓sB13_4, ↓sB16_0, ↓sB16_1, ↓sB19_1, ↓sB19_2, ↓sB19_4, ↓sB22_0, ↓sB22_1, ↓sB25_0, ↓sB25_2, ↓sB25_3, ↓sB25_4, ↓sB25_5, ↓sB25_6, ↓sB25_7, ↓sB25_8, ↓sB25_10, ↓sB27_1, ↓sB27_2, ↓sB27_4, ↓sB30_0, ↓sB30_1, ↓sB33_0, ↓sB35_0, ↓sB35_1, ↓sB38_0, ↓sB38_1, ↓sB38_2, ↓sB42_0, ↓sB42_5, ↓sB42_7, ↓sB42_11, ↓sB42_12, ↓sB42_13, ↓sB53_0, ↓sB53_1, ↓sB53_2, ↓sB53_3, ↓sB54_1, ↓sB56_1, ↓sB58_1, ↓sB60_1, ↓sB65_0, ↓sB65_1, ↓sB65_2, ↓sB66_0, ↓sB66_1, ↓sB69_0, ↓sB69_1, ↓sB72_0, ↓sB72_1, h3', k2, ↓bd_of r2', t1', k3, ee]
  · intro h ⟨fm, k1, k2, k3⟩
    have s1 := s0.fm fm
    have h3' : zI h 2 3 = iI n := by rw [k1 3 (by decide) (by decide)]; exact h3
    have r2' : zR h 2 2 = some 1 := by rw [fm.R]; exact r2
    refine ⟨0, h, ?_, rfl, fm, k1, k2, k3⟩
    show bX7_runLength_5 g 2 (iI lo) (iI hi) h = _
    by_cases c : s + rnl lo hi tx n s < n
    · have ha := zfst_at (P := fun j => !(decide (lo ≤ tx (s + j)) && decide (tx (s + j) ≤ hi))) (n := n - s) (by unfold rnl at c; omega)
      have ha' : ¬ (lo ≤ tx (s + rnl lo hi tx n s) ∧ tx (s + rnl lo hi tx n s) ≤ hi) := by
        intro z
        unfold rnl at z
        rw [decide_eq_true z.1, decide_eq_true z.2] at ha
        cases ha
      obtain ⟨t1, t2, t3⟩ := ht (s + rnl lo hi tx n s) c
      have t1' : zI h 1 (s + rnl lo hi tx n s) = iI (tx (s + rnl lo hi tx n s)) := by rw [fm.I (by simp)]; exact t1
      clear ha
      generalize s + rnl lo hi tx n s = p at *
      generalize tx p = y at *
      unfold bX7_runLength_5
      by_cases c2 : y < lo
      · simp (maxSteps := 1000000) (disch := (first | assumption | exact ne_b rfl | omega)) only [↓reduceIte, ↓zlet_eq, ↓bdR_sI, ↓bdR_sJ, ↓bdR_aI, zc2_some, Option.bind_some, ↓si_m1, ↓si_m2, ↓si_m3, iI_lit, iI_add, iI_sub, iI_mul, leT, leF, ltT, ltF, eqT, eqF, zinT, clI, Int.toNat_natCast, Int.reduceToNat, tN1, tNa, tN0, tNm, if_pos, if_neg, zI_sI, zI_sJ, zI_sR, zJ_sI, zJ_sJ, zJ_sR, zR_sI, zR_sJ, zR_sR, zK_sI, zK_sJ, zK_sR, zL_sI, zL_sJ, zL_sR, zI_aI, zJ_aI, zR_aI, zK_aI, zL_aI, z2_at, z2_a, z2_k, z1_self, z1_ne, true_and, and_true, bIt, bIf, Bool.false_eq_true, Bool.true_eq_false, eq_self, not_true_eq_false, not_false_eq_true, sK0, sK1, sK2, sK3, sK4, sK5, sK6, sK7, sK8, sK9, sK10, sK11, sK12, sK13, sK14, sK15, sK16, sK17, sK18, sK19, sK20, sK21, sK22, sK23, sK24, sK25, sK26, sK27, sK28, sK29, sK30, sK31, sK32, sK33, sK34, sK35, sK36, sK37, sK38, sK39, sK40, sK41, sK42, sK43, sK44, sK45, sK46, sK47, sK48, sK49, sK50, sK51, sK52, sK53, sK54, sK55, sK56, sK57, sK58, sK59, sK60, sK61, sK62, sK63, sK64, sK65, sK66, sK67, sK68, sK69, sK70, sK71, sK72, sK73, sK74, sK75, sL1, sL3, sL6, sL8, sL9, sL10, sL11, sL12, sL15, sL17, sL18, sL21, sL23, sL24, sL26, sL29, sL31, sL32, sL34, sL36, sL37, sL39, sL40, sL41, sL43, sL45, sL46, sL47, sL48, sL49, sL50, sL51, sL52, sL53, sL55, sL57, sL59, sL61, sL62, sL63, sL64, sL65, sL67, sL68, sL70, sL71, sL73, sL74, sL75, sR0_0, sR0_2, sR0_5, sR0_6, sR0_11, sR2_5, sR2_6, sR2_7, sR4_1, sR4_2, sR4_4, sR7_0, sR7_1, sR13_1, sR13_2, sR13_4, sR16_0, sR16_1, sR19_1, sR19_2, sR19_4, sR22_0, sR22_1, sR25_0, sR25_2, sR25_3, sR25_4, sR25_5, sR25_6, sR25_7, sR25_8, sR25_10, sR27_1, sR27_2, sR27_4, sR30_0, sR30_1, sR33_0, sR35_0, sR35_1, sR38_0, sR38_1, sR38_2, sR42_0, sR42_5, sR42_7, sR42_11, sR42_12, sR42_13, sR53_0, sR53_1, sR53_2, sR53_3, sR54_1, sR56_1, sR58_1, sR60_1, sR65_0, sR65_1, sR65_2, sR66_0, sR66_1, sR69_0, sR69_1, sR72_0, sR72_1, ↓sB0_0, ↓sB0_2, ↓sB0_5, ↓sB0_6, ↓sB0_11, ↓sB2_5, ↓sB2_6, ↓sB2_7, ↓sB4_1, ↓sB4_2, ↓sB4_4, ↓sB7_0, ↓sB7_1, ↓sB13_1, ↓sB13_2, ↓sB13_4, ↓sB16_0, ↓sB16_1, ↓sB19_1, ↓sB19_2, ↓sB19_4, ↓sB22_0, ↓sB22_1, ↓sB25_0, ↓sB25_2, ↓sB25_3, ↓sB25_4, ↓sB25_5, ↓sB25_6, ↓sB25_7, ↓sB25_8, ↓sB25_10, ↓sB27_1, ↓sB27_2, ↓sB27_4, ↓sB30_0, ↓sB30_1, ↓sB33_0, ↓sB35_0, ↓sB35_1, ↓sB38_0, ↓sB38_1, ↓sB38_2, ↓sB42_0, ↓sB42_5, ↓sB42_7, ↓sB42_11, ↓sB42_12, ↓sB42_13, ↓sB53_0, ↓sB53_1, ↓sB53_2, ↓sB53_3, ↓sB54_1, ↓sB56_1, ↓sB58_1, ↓sB60_1, ↓sB65_0, ↓sB65_1, ↓sB65_2, ↓sB66_0, ↓sB66_1, ↓sB69_0, ↓sB69_1, ↓sB72_0, ↓sB72_1, h3', k2, ↓bd_of r2', t1']
      · simp (maxSteps := 1000000) (disch := (first | assumption | exact ne_b rfl | omega)) only [↓reduceIte, ↓zlet_eq, ↓bdR_sI, ↓bdR_sJ, ↓bdR_aI, zc2_some, Option.bind_some, ↓si_m1, ↓si_m2, ↓si_m3, iI_lit, iI_add, iI_sub, iI_mul, leT, leF, ltT, ltF, eqT, eqF, zinT, clI, Int.toNat_natCast, Int.reduceToNat, tN1, tNa, tN0, tNm, if_pos, if_neg, zI_sI, zI_sJ, zI_sR, zJ_sI, zJ_sJ, zJ_sR, zR_sI, zR_sJ, zR_sR, zK_sI, zK_sJ, zK_sR, zL_sI, zL_sJ, zL_sR, zI_aI, zJ_aI, zR_aI, zK_aI, zL_aI, z2_at, z2_a, z2_k, z1_self, z1_ne, true_and, and_true, bIt, bIf, Bool.false_eq_true, Bool.true_eq_false, eq_self, not_true_eq_false, not_false_eq_true, sK0, sK1, sK2, sK3, sK4, sK5, sK6, sK7, sK8, sK9, sK10, sK11, sK12, sK13, sK14, sK15, sK16, sK17, sK18, sK19, sK20, sK21, sK22, sK23, sK24, sK25, sK26, sK27, sK28, sK29, sK30, sK31, sK32, sK33, sK34, sK35, sK36, sK37, sK38, sK39, sK40, sK41, sK42, sK43, sK44, sK45, sK46, sK47, sK48, sK49, sK50, sK51, sK52, sK53, sK54, sK55, sK56, sK57, sK58, sK59, sK60, sK61, sK62, sK63, sK64, sK65, sK66, sK67, sK68, sK69, sK70, sK71, sK72, sK73, sK74, sK75, sL1, sL3, sL6, sL8, sL9, sL10, sL11, sL12, sL15, sL17, sL18, sL21, sL23, sL24, sL26, sL29, sL31, sL32, sL34, sL36, sL37, sL39, sL40, sL41, sL43, sL45, sL46, sL47, sL48, sL49, sL50, sL51, sL52, sL53, sL55, sL57, sL59, sL61, sL62, sL63, sL64, sL65, sL67, sL68, sL70, sL71, sL73, sL74, sL75, sR0_0, sR0_2, sR0_5, sR0_6, sR0_11, sR2_5, sR2_6, sR2_7, sR4_1, sR4_2, sR4_4, sR7_0, sR7_1, sR13_1, sR13_2, sR13_4, sR16_0, sR16_1, sR19_1, sR19_2, sR19_4, sR22_0, sR22_1, sR25_0, sR25_2, sR25_3, sR25_4, sR25_5, sR25_6, sR25_7, sR25_8, sR25_10, sR27_1, sR27_2, sR27_4, sR30_0, sR30_1, sR33_0, sR35_0, sR35_1, sR38_0, sR38_1, sR38_2, sR42_0, sR42_5, sR42_7, sR42_11, sR42_12, sR42_13, sR53_0, sR53_1, sR53_2, sR53_3, sR54_1, sR56_1, sR58_1, sR60_1, sR65_0, sR65_1, sR65_2, sR66_0, sR66_1, sR69_0, sR69_1, sR72_0, sR72_1, ↓sB0_0, ↓sB0_2, ↓sB0_5, ↓sB0_6, ↓sB0_11, ↓sB2_5, ↓sB2_6, ↓sB2_7, ↓sB4_1, ↓sB4_2, ↓sB4_4, ↓sB7_0, ↓sB7_1, ↓sB13_1, ↓sB13_2, ↓sB13_4, ↓sB16_0, ↓sB16_1, ↓sB19_1, ↓sB19_2, ↓sB19_4, ↓sB22_0, ↓sB22_1, ↓sB25_0, ↓sB25_2, ↓sB25_3, ↓sB25_4, ↓sB25_5, ↓sB25_6, ↓sB25_7, ↓sB25_8, ↓sB25_10, ↓sB27_1, ↓sB27_2, ↓sB27_4, ↓sB30_0, ↓sB30_1, ↓sB33_0, ↓sB35_0, ↓sB35_1, ↓sB38_0, ↓sB38_1, ↓sB38_2, ↓sB42_0, ↓sB42_5, ↓sB42_7, ↓sB42_11, ↓sB42_12, ↓sB42_13, ↓sB53_0, ↓sB53_1, ↓sB53_2, ↓sB53_3, ↓sB54_1, ↓sB56_1, ↓sB58_1, ↓sB60_1, ↓sB65_0, ↓sB65_1, ↓sB65_2, ↓sB66_0, ↓sB66_1, ↓sB69_0, ↓sB69_1, ↓sB72_0, ↓sB72_1, h3', k2, ↓bd_of r2', t1']
    · generalize s + rnl lo hi tx n s = p at *
      unfold bX7_runLength_5
      simp (maxSteps := 1000000) (disch := (first | assumption | exact ne_b rfl | omega)) only [↓reduceIte, ↓zlet_eq, ↓bdR_sI, ↓bdR_sJ, ↓bdR_aI, zc2_some, Option.bind_some, ↓si_m1, ↓si_m2, ↓si_m3, iI_lit, iI_add, iI_sub, iI_mul, leT, leF, ltT, ltF, eqT, eqF, zinT, clI, Int.toNat_natCast, Int.reduceToNat, tN1, tNa, tN0, tNm, if_pos, if_neg, zI_sI, zI_sJ, zI_sR, zJ_sI, zJ_sJ, zJ_sR, zR_sI, zR_sJ, zR_sR, zK_sI, zK_sJ, zK_sR, zL_sI, zL_sJ, zL_sR, zI_aI, zJ_aI, zR_aI, zK_aI, zL_aI, z2_at, z2_a, z2_k, z1_self, z1_ne, true_and, and_true, bIt, bIf, Bool.false_eq_true, Bool.true_eq_false, eq_self, not_true_eq_false, not_false_eq_true, sK0, sK1, sK2, sK3, sK4, sK5, sK6, sK7, sK8, sK9, sK10, sK11, sK12, sK13, sK14, sK15, sK16, sK17, sK18, sK19, sK20, sK21, sK22, sK23, sK24, sK25, sK26, sK27, sK28, sK29, sK30, sK31, sK32, sK33, sK34, sK35, sK36, sK37, sK38, sK39, sK40, sK41, sK42, sK43, sK44, sK45, sK46, sK47, sK48, sK49, sK50, sK51, sK52, sK53, sK54, sK55, sK56, sK57, sK58, sK59, sK60, sK61, sK62, sK63, sK64, sK65, sK66, sK67, sK68, sK69, sK70, sK71, sK72, sK73, sK74, sK75, sL1, sL3, sL6, sL8, sL9, sL10, sL11, sL12, sL15, sL17, sL18, sL21, sL23, sL24, sL26, sL29, sL31, sL32, sL34, sL36, sL37, sL39, sL40, sL41, sL43, sL45, sL46, sL47, sL48, sL49, sL50, sL51, sL52, sL53, sL55, sL57, sL59, sL61, sL62, sL63, sL64, sL65, sL67, sL68, sL70, sL71, sL73, sL74, sL75, sR0_0, sR0_2, sR0_5, sR0_6, sR0_11, sR2_5, sR2_6, sR2_7, sR4_1, sR4_2, sR4_4, sR7_0, sR7_1, sR13_1, sR13_2, sR13_4, sR16_0, sR16_1, sR19_1, sR19_2, sR19_4, sR22_0, sR22_1, sR25_0, sR25_2, sR25_3, sR25_4, sR25_5, sR25_6, sR25_7, sR25_8, sR25_10, sR27_1, sR27_2, sR27_4, sR30_0, sR30_1, sR33_0, sR35_0, sR35_1, sR38_0, sR38_1, sR38_2, sR42_0, sR42_5, sR42_7, sR42_11, sR42_12, sR42_13, sR53_0, sR53_1, sR53_2, sR53_3, sR54_1, sR56_1, sR58_1, sR60_1, sR65_0, sR65_1, sR65_2, sR66_0, sR66_1, sR69_0, sR69_1, sR72_0, sR72_1, ↓sB0_0, ↓sB0_2, ↓sB0_5, ↓sB0_6, ↓sB0_11, ↓sB2_5, ↓sB2_6, ↓sB2_7, ↓sB4_1, ↓sB4_2, ↓sB4_4, ↓sB7_0, ↓sB7_1, ↓sB13_1, ↓sB13_2, ↓sB13_4, ↓sB16_0, ↓sB16_1, ↓sB19_1, ↓sB19_2, ↓sB19_4, ↓sB22_0, ↓sB22_1, ↓sB25_0, ↓sB25_2, ↓sB25_3, ↓sB25_4, ↓sB25_5, ↓sB25_6, ↓sB25_7, ↓sB25_8, ↓sB25_10, ↓sB27_1, ↓sB27_2, ↓sB27_4, ↓sB30_0, ↓sB30_1, ↓sB33_0, ↓sB35_0, ↓sB35_1, ↓sB38_0, ↓sB38_1, ↓sB38_2, ↓sB42_0, ↓sB42_5, ↓sB42_7, ↓sB42_11, ↓sB42_12, ↓sB42_13, ↓sB53_0, ↓sB53_1, ↓sB53_2, ↓sB53_3, ↓sB54_1, ↓sB56_1, ↓sB58_1, ↓sB60_1, ↓sB65_0, ↓sB65_1, ↓sB65_2, ↓sB66_0, ↓sB66_1, ↓sB69_0, ↓sB69_1, ↓sB72_0, ↓sB72_1, h3', k2]
theorem runLength_c {h : Zh} {tx : Nat → Int} {n s : Nat} {lo hi : Int} (s0 : St h) (tc : TxC h tx n) (hs : s ≤ n) (hlo : -128 ≤ lo ∧ lo < 128) (hhi : -128 ≤ hi ∧ hi < 128) (h9 : zI h 2 9 = iI s) (h10 : zI h 2 10 = iI s) : ∃ h', fX7_runLength 2 (iI lo) (iI hi) h = some (iI (rnl lo hi tx n s), h') ∧ Fm [2] h h' ∧ (∀ j, j ≠ 10 → j ≠ 11 → zI h' 2 j = zI h 2 j) ∧ zI h' 2 10 = iI ((s + rnl lo hi tx n s : Nat) : Int) ∧ zI h' 2 11 = iI (dvv lo tx s (rnl lo hi tx n s)) := by
  have f1 : Fm [2] h (zsI h 2 11 (iI 0)) := Fm_sI _ _ _ (by simp)
  have s1 := s0.fm f1
  obtain ⟨h', l1, l2, l3, l4, l5⟩ := run_5 (g := h) (lo := lo) (hi := hi) s0 s1 (tc.fm f1 (by rw [zI_sI, z2_k _ _ _ (by decide)]) (by simp)) hs hlo hhi (by rw [zI_sI, z2_k _ _ _ (by decide)]; exact h10) (by rw [zI_sI, z2_at])
  refine ⟨h', ?_, f1.tr l2, fun j j10 j11 => by rw [l3 j j10 j11, zI_sI, z2_k _ _ _ j11], l4, l5⟩
  unfold fX7_runLength
  rw [zlet_eq, if_pos (sK2 s0), zlet_eq]
  refine (lp_bd l1).trans ?_
  show some (zI h' 2 10 - zI h' 2 9, h') = _
  rw [l4, l3 9 (by decide) (by decide), zI_sI, z2_k _ _ _ (by decide), h9, iI_sub, show ((s + rnl lo hi tx n s : Nat) : Int) - (s : Int) = ((rnl lo hi tx n s : Nat) : Int) by omega]
