/-! calls on both: hardest -/
noncomputable def hsP (v : Vw) (a b : Nat) (st : Option (Nat × Nat)) : Option (Nat × Nat) := if a = b then st else match st with
  | none => some (a, apv v a b)
  | some (x, l) => if apv v a b < l then some (a, apv v a b) else some (x, l)
noncomputable def hsI (v : Vw) (a : Nat) (st : Option (Nat × Nat)) : Nat → Option (Nat × Nat)
  | 0 => st
  | b + 1 => hsP v a b (hsI v a st b)
noncomputable def hsO (v : Vw) : Nat → Option (Nat × Nat)
  | 0 => none
  | a + 1 => hsI v a (hsO v a) v.rc
def hsc (st : Option (Nat × Nat)) : Int × Int := match st with
  | none => (0, 2001)
  | some (x, l) => (x, l)
def hsm (st : Option (Nat × Nat)) : Int × Int := match st with
  | none => (-1, 0)
  | some (x, l) => (x, l)
def hsB (st : Option (Nat × Nat)) : Prop := ∀ x l, st = some (x, l) → x < 4 ∧ l ≤ 2000
theorem apv_le {v : Vw} (ok : VOK v) (on : v.on = true) (a b : Nat) : apv v a b ≤ 2000 := by
  have tok := (ok.2.2.2.2.2.2 on).1
  have hH := tok.b.2.2.2.2.2.2.2.2.2.2.2.1
  have := apN_le (lay v.t (v.ru a)) (lay v.t (v.ru b)) (tH v.t)
  unfold apv
  omega
theorem hsP_b {v : Vw} (ok : VOK v) (on : v.on = true) {a b : Nat} (ha : a < 4) {st : Option (Nat × Nat)} (h : hsB st) : hsB (hsP v a b st) := by
  have hl := apv_le ok on a b
  unfold hsP
  by_cases c : a = b
  · rw [if_pos c]; exact h
  · rw [if_neg c]
    intro x l e
    cases st with
    | none =>
      have e' : some (a, apv v a b) = some (x, l) := e
      have := Option.some.inj e'
      injection this with e1 e2
      omega
    | some q =>
      obtain ⟨x0, l0⟩ := q
      have hb := h x0 l0 rfl
      have e' : (if apv v a b < l0 then some (a, apv v a b) else some (x0, l0)) = some (x, l) := e
      by_cases c2 : apv v a b < l0
      · rw [if_pos c2] at e'
        have := Option.some.inj e'
        injection this with e1 e2
        omega
      · rw [if_neg c2] at e'
        have := Option.some.inj e'
        injection this with e1 e2
        omega
theorem hsP_s {v : Vw} {a b : Nat} {st : Option (Nat × Nat)} (h : st.isSome = true) : (hsP v a b st).isSome = true := by
  unfold hsP
  by_cases c : a = b
  · rw [if_pos c]; exact h
  · rw [if_neg c]
    cases st with
    | none => rfl
    | some q =>
      obtain ⟨x0, l0⟩ := q
      show (if apv v a b < l0 then some (a, apv v a b) else some (x0, l0)).isSome = true
      split <;> rfl
theorem hsP_n {v : Vw} {a b : Nat} {st : Option (Nat × Nat)} (h : a ≠ b) : (hsP v a b st).isSome = true := by
  unfold hsP
  rw [if_neg h]
  cases st with
  | none => rfl
  | some q =>
    obtain ⟨x0, l0⟩ := q
    show (if apv v a b < l0 then some (a, apv v a b) else some (x0, l0)).isSome = true
    split <;> rfl
theorem hsI_s {v : Vw} {a : Nat} {st : Option (Nat × Nat)} (h : st.isSome = true) : ∀ b, (hsI v a st b).isSome = true
  | 0 => h
  | b + 1 => hsP_s (hsI_s h b)
theorem hsO_s {v : Vw} (h2 : 2 ≤ v.rc) : ∀ a, 1 ≤ a → (hsO v a).isSome = true
  | 0, h => by omega
  | 1, _ => by
    show (hsI v 0 none v.rc).isSome = true
    have : ∀ b, 2 ≤ b → (hsI v 0 none b).isSome = true := by
      intro b hb
      obtain ⟨d, rfl⟩ : ∃ d, b = d + 2 := ⟨b - 2, by omega⟩
      induction d with
      | zero => exact hsP_n (by decide)
      | succ d ih => exact hsP_s (ih (by omega))
    exact this v.rc h2
  | a + 2, _ => hsI_s (hsO_s h2 (a + 1) (by omega)) v.rc
theorem hsI_b {v : Vw} (ok : VOK v) (on : v.on = true) {a : Nat} (ha : a < 4) {st : Option (Nat × Nat)} (h : hsB st) : ∀ b, hsB (hsI v a st b)
  | 0 => h
  | b + 1 => hsP_b ok on ha (hsI_b ok on ha h b)
theorem hsO_b {v : Vw} (ok : VOK v) (on : v.on = true) : ∀ a, a ≤ 4 → hsB (hsO v a)
  | 0, _ => fun x l e => by cases e
  | a + 1, ha => hsI_b ok on (by omega) (hsO_b ok on a (by omega)) v.rc
theorem hsc_b {st : Option (Nat × Nat)} (h : hsB st) : 0 ≤ (hsc st).1 ∧ (hsc st).1 < 4 ∧ 0 ≤ (hsc st).2 ∧ (hsc st).2 ≤ 2001 := by
  cases st with
  | none => exact ⟨by decide, by decide, by decide, by decide⟩
  | some q =>
    obtain ⟨x, l⟩ := q
    have := h x l rfl
    show 0 ≤ (x : Int) ∧ (x : Int) < 4 ∧ 0 ≤ (l : Int) ∧ (l : Int) ≤ 2001
    omega
theorem hsc_P {v : Vw} (ok : VOK v) (on : v.on = true) {a b : Nat} {st : Option (Nat × Nat)} (hab : a ≠ b) : hsc (hsP v a b st) = if (hsc st).2 ≤ apv v a b then hsc st else ((a : Int), (apv v a b : Int)) := by
  have hl := apv_le ok on a b
  unfold hsP
  rw [if_neg hab]
  cases st with
  | none =>
    show ((a : Int), (apv v a b : Int)) = if (2001 : Int) ≤ apv v a b then _ else _
    rw [if_neg (by omega)]
  | some q =>
    obtain ⟨x, l⟩ := q
    show hsc (if apv v a b < l then some (a, apv v a b) else some (x, l)) = if (l : Int) ≤ apv v a b then ((x : Int), (l : Int)) else _
    by_cases c : apv v a b < l
    · rw [if_pos c, if_neg (by omega)]; rfl
    · rw [if_neg c, if_pos (by omega)]; rfl
theorem hsm_b {st : Option (Nat × Nat)} (h : hsB st) : -1 ≤ (hsm st).1 ∧ (hsm st).1 < 4 ∧ 0 ≤ (hsm st).2 ∧ (hsm st).2 ≤ 2000 := by
  cases st with
  | none => exact ⟨by decide, by decide, by decide, by decide⟩
  | some q =>
    obtain ⟨x, l⟩ := q
    have := h x l rfl
    show -1 ≤ (x : Int) ∧ (x : Int) < 4 ∧ 0 ≤ (l : Int) ∧ (l : Int) ≤ 2000
    omega
theorem hsm_P {v : Vw} {a b : Nat} {st : Option (Nat × Nat)} (hab : a ≠ b) : hsm (hsP v a b st) = if (hsm st).1 = -1 ∨ (apv v a b : Int) < (hsm st).2 then ((a : Int), (apv v a b : Int)) else hsm st := by
  unfold hsP
  rw [if_neg hab]
  cases st with
  | none =>
    exact (if_pos (show (hsm none).1 = -1 ∨ (apv v a b : Int) < (hsm none).2 from Or.inl rfl)).symm
  | some q =>
    obtain ⟨x, l⟩ := q
    show hsm (if apv v a b < l then some (a, apv v a b) else some (x, l)) = if (x : Int) = -1 ∨ (apv v a b : Int) < (l : Int) then _ else ((x : Int), (l : Int))
    by_cases c : apv v a b < l
    · rw [if_pos c, if_pos (Or.inr (by omega))]; rfl
    · rw [if_neg c, if_neg (by omega)]; rfl
theorem hard_66 {g h0 : Zh} {v : Vw} {u tr ra a : Nat} {st : Option (Nat × Nat)} (ok : VOK v) (on : v.on = true) (c : KC h0 v u tr ra) (ha : a < v.rc) (l0 : LFd h0 v.t (v.ru a) a) (hst : hsB st) (hu : u ≤ 59900) : ∃ h1, lp (fun q : Int32 × Int32 × Int32 × Zh => bX10_hardest_66 g 0 (iI a) (54 + 2 * a) q.1 q.2.1 q.2.2.1 q.2.2.2) zB (iI (hsc st).1, iI (hsc st).2, iI 0, h0) = some (1, (iI (hsc (hsI v a st v.rc)).1, iI (hsc (hsI v a st v.rc)).2, iI v.rc, h1)) ∧ KC h1 v (u + 8) tr ra ∧ Fc (CFr tr ra) h0 h1 := by
  have hrc := (ok.2.2.2.2.2.2 on).2.1
  have hRC : RCv v = v.rc := by unfold RCv; rw [on]; rfl
  have := lp_cnt (body := fun q : Int32 × Int32 × Int32 × Zh => bX10_hardest_66 g 0 (iI a) (54 + 2 * a) q.1 q.2.1 q.2.2.1 q.2.2.2) v.rc (fun b z => ∃ h1, z = ((iI (hsc (hsI v a st b)).1, iI (hsc (hsI v a st b)).2, iI (b : Int), h1) : Int32 × Int32 × Int32 × Zh) ∧ KC h1 v (u + 2 * b) tr ra ∧ Fc (CFr tr ra) h0 h1 ∧ LFd h1 v.t (v.ru a) a) (fun e z => e = 1 ∧ ∃ h1, z = ((iI (hsc (hsI v a st v.rc)).1, iI (hsc (hsI v a st v.rc)).2, iI v.rc, h1) : Int32 × Int32 × Int32 × Zh) ∧ KC h1 v (u + 8) tr ra ∧ Fc (CFr tr ra) h0 h1) ?_ ?_ (by omega) (s := (iI (hsc st).1, iI (hsc st).2, iI 0, h0)) ⟨h0, rfl, c, Fc.rf, l0⟩
  · obtain ⟨e, z, l1, l2, h1, l3, l4, l5⟩ := this
    have e0 : e = 0 := by omega
    subst e0
    rw [l3] at l1
    exact ⟨h1, l1, l4, l5⟩
  · intro b z hb ⟨h1, ez, k1, k2, k3⟩
    subst ez
    have s1 := k1.1
    obtain ⟨t1, -⟩ := tdS s1 ok.2.1
    have r3 := k1.2.2.2.2.2.1
    have g4 := k1.g.2.2.2
    rw [hRC] at g4
    have hbd := hsc_b (hsI_b ok on (show a < 4 by omega) hst b)
    by_cases q : b = a
    · have e1 : hsI v a st (b + 1) = hsI v a st b := by
        show hsP v a b (hsI v a st b) = _
        unfold hsP
        rw [if_pos q.symm]
      refine Or.inl ⟨(iI (hsc (hsI v a st b)).1, iI (hsc (hsI v a st b)).2, iI ((b + 1 : Nat) : Int), h1), ?_, h1, by rw [e1], k1.mono (by omega), k2, k3⟩
      show bX10_hardest_66 g 0 (iI a) (54 + 2 * a) (iI (hsc (hsI v a st b)).1) (iI (hsc (hsI v a st b)).2) (iI b) h1 = _
      generalize hsc (hsI v a st b) = w at *
      have qq : (b : Int) = (a : Nat) := by omega
      unfold bX10_hardest_66 jX10_hardest_106
      simp (maxSteps := 1000000) (disch := (first | assumption | exact ne_b rfl | omega)) only [↓reduceIte, ↓zlet_eq, ↓bdR_sI, ↓bdR_sJ, ↓bdR_aI, zc2_some, Option.bind_some, ↓si_m1, ↓si_m2, ↓si_m3, iI_lit, iI_add, iI_sub, iI_mul, leT, leF, ltT, ltF, eqT, eqF, zinT, clI, Int.toNat_natCast, Int.reduceToNat, tN1, tNa, tN0, tNm, if_pos, if_neg, zI_sI, zI_sJ, zI_sR, zJ_sI, zJ_sJ, zJ_sR, zR_sI, zR_sJ, zR_sR, zK_sI, zK_sJ, zK_sR, zL_sI, zL_sJ, zL_sR, zI_aI, zJ_aI, zR_aI, zK_aI, zL_aI, z2_at, z2_a, z2_k, z1_self, z1_ne, true_and, and_true, bIt, bIf, Bool.false_eq_true, Bool.true_eq_false, eq_self, not_true_eq_false, not_false_eq_true, sK0, sK1, sK2, sK3, sK4, sK5, sK6, sK7, sK8, sK9, sK10, sK11, sK12, sK13, sK14, sK15, sK16, sK17, sK18, sK19, sK20, sK21, sK22, sK23, sK24, sK25, sK26, sK27, sK28, sK29, sK30, sK31, sK32, sK33, sK34, sK35, sK36, sK37, sK38, sK39, sK40, sK41, sK42, sK43, sK44, sK45, sK46, sK47, sK48, sK49, sK50, sK51, sK52, sK53, sK54, sK55, sK56, sK57, sK58, sK59, sK60, sK61, sK62, sK63, sK64, sK65, sK66, sK67, sK68, sK69, sK70, sK71, sK72, sK73, sK74, sK75, sL1, sL3, sL6, sL8, sL9, sL10, sL11, sL12, sL15, sL17, sL18, sL21, sL23, sL24, sL26, sL29, sL31, sL32, sL34, sL36, sL37, sL39, sL40, sL41, sL43, sL45, sL46, sL47, sL48, sL49, sL50, sL51, sL52, sL53, sL55, sL57, sL59, sL61, sL62, sL63, sL64, sL65, sL67, sL68, sL70, sL71, sL73, sL74, sL75, sR0_0, sR0_2, sR0_5, sR0_6, sR0_11, sR2_5, sR2_6, sR2_7, sR4_1, sR4_2, sR4_4, sR7_0, sR7_1, sR13_1, sR13_2, sR13_4, sR16_0, sR16_1, sR19_1, sR19_2, sR19_4, sR22_0, sR22_1, sR25_0, sR25_2, sR25_3, sR25_4, sR25_5, sR25_6, sR25_7, sR25_8, sR25_10, sR27_1, sR27_2, sR27_4, sR30_0, sR30_1, sR33_0, sR35_0, sR35_1, sR38_0, sR38_1, sR38_2, sR42_0, sR42_5, sR42_7, sR42_11, sR42_12, sR42_13, sR53_0, sR53_1, sR53_2, sR53_3, sR54_1, sR56_1, sR58_1, sR60_1, sR65_0, sR65_1, sR65_2, sR66_0, sR66_1, sR69_0, sR69_1, sR72_0, sR72_1, ↓sB0_0, ↓sB0_2, ↓sB0_5, ↓sB0_6, ↓sB0_11, ↓sB2_5, ↓sB2_6, ↓sB2_7, ↓sB4_1, ↓sB4_2, ↓sB4_4, ↓sB7_0, ↓sB7_1, ↓sB13_1, ↓sB13_2, ↓sB13_4, ↓sB16_0, ↓sB16_1, ↓sB19_1, ↓sB19_2, ↓sB19_4, ↓sB22_0, ↓sB22_1, ↓sB25_0, ↓sB25_2, ↓sB25_3, ↓sB25_4, ↓sB25_5, ↓sB25_6, ↓sB25_7, ↓sB25_8, ↓sB25_10, ↓sB27_1, ↓sB27_2, ↓sB27_4, ↓sB30_0, ↓sB30_1, ↓sB33_0, ↓sB35_0, ↓sB35_1, ↓sB38_0, ↓sB38_1, ↓sB38_2, ↓sB42_0, ↓sB42_5, ↓sB42_7, ↓sB42_11, ↓sB42_12, ↓sB42_13, ↓sB53_0, ↓sB53_1, ↓sB53_2, ↓sB53_3, ↓sB54_1, ↓sB56_1, ↓sB58_1, ↓sB60_1, ↓sB65_0, ↓sB65_1, ↓sB65_2, ↓sB66_0, ↓sB66_1, ↓sB69_0, ↓sB69_1, ↓sB72_0, ↓sB72_1, ↓bd_of r3, t1, g4]
      all_goals rfl
    · obtain ⟨h2, e1, c2, f2, l2, l3⟩ := laid_c ok on k1 hb (by omega)
      obtain ⟨h3, e3, c3, f3, l4⟩ := apart_c ok on c2 ha hb (l3 a ha k3) l2
      have s2 := c2.1
      have hav := apv_le ok on a b
      have hP := hsc_P ok on (v := v) (a := a) (b := b) (st := hsI v a st b) (fun e => q e.symm)
      refine Or.inl ⟨(iI (hsc (hsI v a st (b + 1))).1, iI (hsc (hsI v a st (b + 1))).2, iI ((b + 1 : Nat) : Int), h3), ?_, h3, rfl, c3.mono (by omega), (k2.tr f2 (fun _ _ z => z)).tr f3 (fun _ _ z => z), l4 a ha (l3 a ha k3)⟩
      show bX10_hardest_66 g 0 (iI a) (54 + 2 * a) (iI (hsc (hsI v a st b)).1) (iI (hsc (hsI v a st b)).2) (iI b) h1 = some (0, (iI (hsc (hsP v a b (hsI v a st b))).1, iI (hsc (hsP v a b (hsI v a st b))).2, iI ((b + 1 : Nat) : Int), h3))
      rw [hP]
      generalize hsc (hsI v a st b) = w at *
      generalize apv v a b = n at *
      have qq : ¬ (b : Int) = (a : Nat) := by omega
      unfold bX10_hardest_66 jX10_hardest_106
      by_cases p : w.2 ≤ n
      · rw [if_pos p]
        simp (maxSteps := 1000000) (disch := (first | assumption | exact ne_b rfl | omega)) only [↓reduceIte, ↓zlet_eq, ↓bdR_sI, ↓bdR_sJ, ↓bdR_aI, zc2_some, Option.bind_some, ↓si_m1, ↓si_m2, ↓si_m3, iI_lit, iI_add, iI_sub, iI_mul, leT, leF, ltT, ltF, eqT, eqF, zinT, clI, Int.toNat_natCast, Int.reduceToNat, tN1, tNa, tN0, tNm, if_pos, if_neg, zI_sI, zI_sJ, zI_sR, zJ_sI, zJ_sJ, zJ_sR, zR_sI, zR_sJ, zR_sR, zK_sI, zK_sJ, zK_sR, zL_sI, zL_sJ, zL_sR, zI_aI, zJ_aI, zR_aI, zK_aI, zL_aI, z2_at, z2_a, z2_k, z1_self, z1_ne, true_and, and_true, bIt, bIf, Bool.false_eq_true, Bool.true_eq_false, eq_self, not_true_eq_false, not_false_eq_true, sK0, sK1, sK2, sK3, sK4, sK5, sK6, sK7, sK8, sK9, sK10, sK11, sK12, sK13, sK14, sK15, sK16, sK17, sK18, sK19, sK20, sK21, sK22, sK23, sK24, sK25, sK26, sK27, sK28, sK29, sK30, sK31, sK32, sK33, sK34, sK35, sK36, sK37, sK38, sK39, sK40, sK41, sK42, sK43, sK44, sK45, sK46, sK47, sK48, sK49, sK50, sK51, sK52, sK53, sK54, sK55, sK56, sK57, sK58, sK59, sK60, sK61, sK62, sK63, sK64, sK65, sK66, sK67, sK68, sK69, sK70, sK71, sK72, sK73, sK74, sK75, sL1, sL3, sL6, sL8, sL9, sL10, sL11, sL12, sL15, sL17, sL18, sL21, sL23, sL24, sL26, sL29, sL31, sL32, sL34, sL36, sL37, sL39, sL40, sL41, sL43, sL45, sL46, sL47, sL48, sL49, sL50, sL51, sL52, sL53, sL55, sL57, sL59, sL61, sL62, sL63, sL64, sL65, sL67, sL68, sL70, sL71, sL73, sL74, sL75, sR0_0, sR0_2, sR0_5, sR0_6, sR0_11, sR2_5, sR2_6, sR2_7, sR4_1, sR4_2, sR4_4, sR7_0, sR7_1, sR13_1, sR13_2, sR13_4, sR16_0, sR16_1, sR19_1, sR19_2, sR19_4, sR22_0, sR22_1, sR25_0, sR25_2, sR25_3, sR25_4, sR25_5, sR25_6, sR25_7, sR25_8, sR25_10, sR27_1, sR27_2, sR27_4, sR30_0, sR30_1, sR33_0, sR35_0, sR35_1, sR38_0, sR38_1, sR38_2, sR42_0, sR42_5, sR42_7, sR42_11, sR42_12, sR42_13, sR53_0, sR53_1, sR53_2, sR53_3, sR54_1, sR56_1, sR58_1, sR60_1, sR65_0, sR65_1, sR65_2, sR66_0, sR66_1, sR69_0, sR69_1, sR72_0, sR72_1, ↓sB0_0, ↓sB0_2, ↓sB0_5, ↓sB0_6, ↓sB0_11, ↓sB2_5, ↓sB2_6, ↓sB2_7, ↓sB4_1, ↓sB4_2, ↓sB4_4, ↓sB7_0, ↓sB7_1, ↓sB13_1, ↓sB13_2, ↓sB13_4, ↓sB16_0, ↓sB16_1, ↓sB19_1, ↓sB19_2, ↓sB19_4, ↓sB22_0, ↓sB22_1, ↓sB25_0, ↓sB25_2, ↓sB25_3, ↓sB25_4, ↓sB25_5, ↓sB25_6, ↓sB25_7, ↓sB25_8, ↓sB25_10, ↓sB27_1, ↓sB27_2, ↓sB27_4, ↓sB30_0, ↓sB30_1, ↓sB33_0, ↓sB35_0, ↓sB35_1, ↓sB38_0, ↓sB38_1, ↓sB38_2, ↓sB42_0, ↓sB42_5, ↓sB42_7, ↓sB42_11, ↓sB42_12, ↓sB42_13, ↓sB53_0, ↓sB53_1, ↓sB53_2, ↓sB53_3, ↓sB54_1, ↓sB56_1, ↓sB58_1, ↓sB60_1, ↓sB65_0, ↓sB65_1, ↓sB65_2, ↓sB66_0, ↓sB66_1, ↓sB69_0, ↓sB69_1, ↓sB72_0, ↓sB72_1, ↓bd_of r3, t1, g4, ↓zc_of e1, ↓zc_of e3]
        all_goals rfl
      · rw [if_neg p]
        simp (maxSteps := 1000000) (disch := (first | assumption | exact ne_b rfl | omega)) only [↓reduceIte, ↓zlet_eq, ↓bdR_sI, ↓bdR_sJ, ↓bdR_aI, zc2_some, Option.bind_some, ↓si_m1, ↓si_m2, ↓si_m3, iI_lit, iI_add, iI_sub, iI_mul, leT, leF, ltT, ltF, eqT, eqF, zinT, clI, Int.toNat_natCast, Int.reduceToNat, tN1, tNa, tN0, tNm, if_pos, if_neg, zI_sI, zI_sJ, zI_sR, zJ_sI, zJ_sJ, zJ_sR, zR_sI, zR_sJ, zR_sR, zK_sI, zK_sJ, zK_sR, zL_sI, zL_sJ, zL_sR, zI_aI, zJ_aI, zR_aI, zK_aI, zL_aI, z2_at, z2_a, z2_k, z1_self, z1_ne, true_and, and_true, bIt, bIf, Bool.false_eq_true, Bool.true_eq_false, eq_self, not_true_eq_false, not_false_eq_true, sK0, sK1, sK2, sK3, sK4, sK5, sK6, sK7, sK8, sK9, sK10, sK11, sK12, sK13, sK14, sK15, sK16, sK17, sK18, sK19, sK20, sK21, sK22, sK23, sK24, sK25, sK26, sK27, sK28, sK29, sK30, sK31, sK32, sK33, sK34, sK35, sK36, sK37, sK38, sK39, sK40, sK41, sK42, sK43, sK44, sK45, sK46, sK47, sK48, sK49, sK50, sK51, sK52, sK53, sK54, sK55, sK56, sK57, sK58, sK59, sK60, sK61, sK62, sK63, sK64, sK65, sK66, sK67, sK68, sK69, sK70, sK71, sK72, sK73, sK74, sK75, sL1, sL3, sL6, sL8, sL9, sL10, sL11, sL12, sL15, sL17, sL18, sL21, sL23, sL24, sL26, sL29, sL31, sL32, sL34, sL36, sL37, sL39, sL40, sL41, sL43, sL45, sL46, sL47, sL48, sL49, sL50, sL51, sL52, sL53, sL55, sL57, sL59, sL61, sL62, sL63, sL64, sL65, sL67, sL68, sL70, sL71, sL73, sL74, sL75, sR0_0, sR0_2, sR0_5, sR0_6, sR0_11, sR2_5, sR2_6, sR2_7, sR4_1, sR4_2, sR4_4, sR7_0, sR7_1, sR13_1, sR13_2, sR13_4, sR16_0, sR16_1, sR19_1, sR19_2, sR19_4, sR22_0, sR22_1, sR25_0, sR25_2, sR25_3, sR25_4, sR25_5, sR25_6, sR25_7, sR25_8, sR25_10, sR27_1, sR27_2, sR27_4, sR30_0, sR30_1, sR33_0, sR35_0, sR35_1, sR38_0, sR38_1, sR38_2, sR42_0, sR42_5, sR42_7, sR42_11, sR42_12, sR42_13, sR53_0, sR53_1, sR53_2, sR53_3, sR54_1, sR56_1, sR58_1, sR60_1, sR65_0, sR65_1, sR65_2, sR66_0, sR66_1, sR69_0, sR69_1, sR72_0, sR72_1, ↓sB0_0, ↓sB0_2, ↓sB0_5, ↓sB0_6, ↓sB0_11, ↓sB2_5, ↓sB2_6, ↓sB2_7, ↓sB4_1, ↓sB4_2, ↓sB4_4, ↓sB7_0, ↓sB7_1, ↓sB13_1, ↓sB13_2, ↓sB13_4, ↓sB16_0, ↓sB16_1, ↓sB19_1, ↓sB19_2, ↓sB19_4, ↓sB22_0, ↓sB22_1, ↓sB25_0, ↓sB25_2, ↓sB25_3, ↓sB25_4, ↓sB25_5, ↓sB25_6, ↓sB25_7, ↓sB25_8, ↓sB25_10, ↓sB27_1, ↓sB27_2, ↓sB27_4, ↓sB30_0, ↓sB30_1, ↓sB33_0, ↓sB35_0, ↓sB35_1, ↓sB38_0, ↓sB38_1, ↓sB38_2, ↓sB42_0, ↓sB42_5, ↓sB42_7, ↓sB42_11, ↓sB42_12, ↓sB42_13, ↓sB53_0, ↓sB53_1, ↓sB53_2, ↓sB53_3, ↓sB54_1, ↓sB56_1, ↓sB58_1, ↓sB60_1, ↓sB65_0, ↓sB65_1, ↓sB65_2, ↓sB66_0, ↓sB66_1, ↓sB69_0, ↓sB69_1, ↓sB72_0, ↓sB72_1, ↓bd_of r3, t1, g4, ↓zc_of e1, ↓zc_of e3]
        all_goals rfl
  · intro z ⟨h1, ez, k1, k2, k3⟩
    subst ez
    have s1 := k1.1
    obtain ⟨t1, -⟩ := tdS s1 ok.2.1
    have r3 := k1.2.2.2.2.2.1
    have g4 := k1.g.2.2.2
    rw [hRC] at g4
    refine ⟨0, _, ?_, rfl, h1, rfl, k1.mono (by omega), k2⟩
    show bX10_hardest_66 g 0 (iI a) (54 + 2 * a) (iI (hsc (hsI v a st v.rc)).1) (iI (hsc (hsI v a st v.rc)).2) (iI v.rc) h1 = _
    generalize hsc (hsI v a st v.rc) = w at *
    unfold bX10_hardest_66
    simp (maxSteps := 1000000) (disch := (first | assumption | exact ne_b rfl | omega)) only [↓reduceIte, ↓zlet_eq, ↓bdR_sI, ↓bdR_sJ, ↓bdR_aI, zc2_some, Option.bind_some, ↓si_m1, ↓si_m2, ↓si_m3, iI_lit, iI_add, iI_sub, iI_mul, leT, leF, ltT, ltF, eqT, eqF, zinT, clI, Int.toNat_natCast, Int.reduceToNat, tN1, tNa, tN0, tNm, if_pos, if_neg, zI_sI, zI_sJ, zI_sR, zJ_sI, zJ_sJ, zJ_sR, zR_sI, zR_sJ, zR_sR, zK_sI, zK_sJ, zK_sR, zL_sI, zL_sJ, zL_sR, zI_aI, zJ_aI, zR_aI, zK_aI, zL_aI, z2_at, z2_a, z2_k, z1_self, z1_ne, true_and, and_true, bIt, bIf, Bool.false_eq_true, Bool.true_eq_false, eq_self, not_true_eq_false, not_false_eq_true, sK0, sK1, sK2, sK3, sK4, sK5, sK6, sK7, sK8, sK9, sK10, sK11, sK12, sK13, sK14, sK15, sK16, sK17, sK18, sK19, sK20, sK21, sK22, sK23, sK24, sK25, sK26, sK27, sK28, sK29, sK30, sK31, sK32, sK33, sK34, sK35, sK36, sK37, sK38, sK39, sK40, sK41, sK42, sK43, sK44, sK45, sK46, sK47, sK48, sK49, sK50, sK51, sK52, sK53, sK54, sK55, sK56, sK57, sK58, sK59, sK60, sK61, sK62, sK63, sK64, sK65, sK66, sK67, sK68, sK69, sK70, sK71, sK72, sK73, sK74, sK75, sL1, sL3, sL6, sL8, sL9, sL10, sL11, sL12, sL15, sL17, sL18, sL21, sL23, sL24, sL26, sL29, sL31, sL32, sL34, sL36, sL37, sL39, sL40, sL41, sL43, sL45, sL46, sL47, sL48, sL49, sL50, sL51, sL52, sL53, sL55, sL57, sL59, sL61, sL62, sL63, sL64, sL65, sL67, sL68, sL70, sL71, sL73, sL74, sL75, sR0_0, sR0_2, sR0_5, sR0_6, sR0_11, sR2_5, sR2_6, sR2_7, sR4_1, sR4_2, sR4_4, sR7_0, sR7_1, sR13_1, sR13_2, sR13_4, sR16_0, sR16_1, sR19_1, sR19_2, sR19_4, sR22_0, sR22_1, sR25_0, sR25_2, sR25_3, sR25_4, sR25_5, sR25_6, sR25_7, sR25_8, sR25_10, sR27_1, sR27_2, sR27_4, sR30_0, sR30_1, sR33_0, sR35_0, sR35_1, sR38_0, sR38_1, sR38_2, sR42_0, sR42_5, sR42_7, sR42_11, sR42_12, sR42_13, sR53_0, sR53_1, sR53_2, sR53_3, sR54_1, sR56_1, sR58_1, sR60_1, sR65_0, sR65_1, sR65_2, sR66_0, sR66_1, sR69_0, sR69_1, sR72_0, sR72_1, ↓sB0_0, ↓sB0_2, ↓sB0_5, ↓sB0_6, ↓sB0_11, ↓sB2_5, ↓sB2_6, ↓sB2_7, ↓sB4_1, ↓sB4_2, ↓sB4_4, ↓sB7_0, ↓sB7_1, ↓sB13_1, ↓sB13_2, ↓sB13_4, ↓sB16_0, ↓sB16_1, ↓sB19_1, ↓sB19_2, ↓sB19_4, ↓sB22_0, ↓sB22_1, ↓sB25_0, ↓sB25_2, ↓sB25_3, ↓sB25_4, ↓sB25_5, ↓sB25_6, ↓sB25_7, ↓sB25_8, ↓sB25_10, ↓sB27_1, ↓sB27_2, ↓sB27_4, ↓sB30_0, ↓sB30_1, ↓sB33_0, ↓sB35_0, ↓sB35_1, ↓sB38_0, ↓sB38_1, ↓sB38_2, ↓sB42_0, ↓sB42_5, ↓sB42_7, ↓sB42_11, ↓sB42_12, ↓sB42_13, ↓sB53_0, ↓sB53_1, ↓sB53_2, ↓sB53_3, ↓sB54_1, ↓sB56_1, ↓sB58_1, ↓sB60_1, ↓sB65_0, ↓sB65_1, ↓sB65_2, ↓sB66_0, ↓sB66_1, ↓sB69_0, ↓sB69_1, ↓sB72_0, ↓sB72_1, ↓bd_of r3, t1, g4]
theorem hard_42 {g h0 : Zh} {v : Vw} {u tr ra : Nat} (ok : VOK v) (on : v.on = true) (c : KC h0 v u tr ra) (hu : u ≤ 59000) : ∃ x2 x3 h1, lp (fun q : Int32 × Int32 × Int32 × Zh => bX10_hardest_42 g 0 q.1 q.2.1 q.2.2.1 q.2.2.2) zB (iI 0, iI 2001, iI 0, h0) = some (1, (iI (hsc (hsO v v.rc)).1, x2, x3, h1)) ∧ KC h1 v (u + 36) tr ra ∧ Fc (CFr tr ra) h0 h1 := by
  have hrc := (ok.2.2.2.2.2.2 on).2.1
  have hRC : RCv v = v.rc := by unfold RCv; rw [on]; rfl
  have := lp_cnt (body := fun q : Int32 × Int32 × Int32 × Zh => bX10_hardest_42 g 0 q.1 q.2.1 q.2.2.1 q.2.2.2) v.rc (fun a z => ∃ h1, z = ((iI (hsc (hsO v a)).1, iI (hsc (hsO v a)).2, iI (a : Int), h1) : Int32 × Int32 × Int32 × Zh) ∧ KC h1 v (u + 9 * a) tr ra ∧ Fc (CFr tr ra) h0 h1) (fun e z => e = 1 ∧ z.1 = iI (hsc (hsO v v.rc)).1 ∧ KC z.2.2.2 v (u + 36) tr ra ∧ Fc (CFr tr ra) h0 z.2.2.2) ?_ ?_ (by omega) (s := (iI 0, iI 2001, iI 0, h0)) ⟨h0, rfl, c, Fc.rf⟩
  · obtain ⟨e, z, l1, l2, l3, l4, l5⟩ := this
    obtain ⟨z1, z2, z3, z4⟩ := z
    have e0 : e = 0 := by omega
    subst e0
    have l3' : z1 = iI (hsc (hsO v v.rc)).1 := l3
    rw [l3'] at l1
    exact ⟨z2, z3, z4, l1, l4, l5⟩
  · intro a z ha ⟨h1, ez, k1, k2⟩
    subst ez
    have s1 := k1.1
    obtain ⟨t1, -⟩ := tdS s1 ok.2.1
    have r3 := k1.2.2.2.2.2.1
    have g4 := k1.g.2.2.2
    rw [hRC] at g4
    obtain ⟨h2, e1, c2, f2, l2, -⟩ := laid_c ok on k1 ha (by omega)
    obtain ⟨h3, e3, c3, f3⟩ := hard_66 (g := g) (st := hsO v a) ok on c2 ha l2 (hsO_b ok on a (by omega)) (by omega)
    refine Or.inl ⟨(iI (hsc (hsO v (a + 1))).1, iI (hsc (hsO v (a + 1))).2, iI ((a + 1 : Nat) : Int), h3), ?_, h3, rfl, c3.mono (by omega), (k2.tr f2 (fun _ _ z => z)).tr f3 (fun _ _ z => z)⟩
    show bX10_hardest_42 g 0 (iI (hsc (hsO v a)).1) (iI (hsc (hsO v a)).2) (iI a) h1 = some (0, (iI (hsc (hsI v a (hsO v a) v.rc)).1, iI (hsc (hsI v a (hsO v a) v.rc)).2, iI ((a + 1 : Nat) : Int), h3))
    unfold bX10_hardest_42
    simp (maxSteps := 1000000) (disch := (first | assumption | exact ne_b rfl | omega)) only [↓reduceIte, ↓zlet_eq, ↓bdR_sI, ↓bdR_sJ, ↓bdR_aI, zc2_some, Option.bind_some, ↓si_m1, ↓si_m2, ↓si_m3, iI_lit, iI_add, iI_sub, iI_mul, leT, leF, ltT, ltF, eqT, eqF, zinT, clI, Int.toNat_natCast, Int.reduceToNat, tN1, tNa, tN0, tNm, if_pos, if_neg, zI_sI, zI_sJ, zI_sR, zJ_sI, zJ_sJ, zJ_sR, zR_sI, zR_sJ, zR_sR, zK_sI, zK_sJ, zK_sR, zL_sI, zL_sJ, zL_sR, zI_aI, zJ_aI, zR_aI, zK_aI, zL_aI, z2_at, z2_a, z2_k, z1_self, z1_ne, true_and, and_true, bIt, bIf, Bool.false_eq_true, Bool.true_eq_false, eq_self, not_true_eq_false, not_false_eq_true, sK0, sK1, sK2, sK3, sK4, sK5, sK6, sK7, sK8, sK9, sK10, sK11, sK12, sK13, sK14, sK15, sK16, sK17, sK18, sK19, sK20, sK21, sK22, sK23, sK24, sK25, sK26, sK27, sK28, sK29, sK30, sK31, sK32, sK33, sK34, sK35, sK36, sK37, sK38, sK39, sK40, sK41, sK42, sK43, sK44, sK45, sK46, sK47, sK48, sK49, sK50, sK51, sK52, sK53, sK54, sK55, sK56, sK57, sK58, sK59, sK60, sK61, sK62, sK63, sK64, sK65, sK66, sK67, sK68, sK69, sK70, sK71, sK72, sK73, sK74, sK75, sL1, sL3, sL6, sL8, sL9, sL10, sL11, sL12, sL15, sL17, sL18, sL21, sL23, sL24, sL26, sL29, sL31, sL32, sL34, sL36, sL37, sL39, sL40, sL41, sL43, sL45, sL46, sL47, sL48, sL49, sL50, sL51, sL52, sL53, sL55, sL57, sL59, sL61, sL62, sL63, sL64, sL65, sL67, sL68, sL70, sL71, sL73, sL74, sL75, sR0_0, sR0_2, sR0_5, sR0_6, sR0_11, sR2_5, sR2_6, sR2_7, sR4_1, sR4_2, sR4_4, sR7_0, sR7_1, sR13_1, sR13_2, sR13_4, sR16_0, sR16_1, sR19_1, sR19_2, sR19_4, sR22_0, sR22_1, sR25_0, sR25_2, sR25_3, sR25_4, sR25_5, sR25_6, sR25_7, sR25_8, sR25_10, sR27_1, sR27_2, sR27_4, sR30_0, sR30_1, sR33_0, sR35_0, sR35_1, sR38_0, sR38_1, sR38_2, sR42_0, sR42_5, sR42_7, sR42_11, sR42_12, sR42_13, sR53_0, sR53_1, sR53_2, sR53_3, sR54_1, sR56_1, sR58_1, sR60_1, sR65_0, sR65_1, sR65_2, sR66_0, sR66_1, sR69_0, sR69_1, sR72_0, sR72_1, ↓sB0_0, ↓sB0_2, ↓sB0_5, ↓sB0_6, ↓sB0_11, ↓sB2_5, ↓sB2_6, ↓sB2_7, ↓sB4_1, ↓sB4_2, ↓sB4_4, ↓sB7_0, ↓sB7_1, ↓sB13_1, ↓sB13_2, ↓sB13_4, ↓sB16_0, ↓sB16_1, ↓sB19_1, ↓sB19_2, ↓sB19_4, ↓sB22_0, ↓sB22_1, ↓sB25_0, ↓sB25_2, ↓sB25_3, ↓sB25_4, ↓sB25_5, ↓sB25_6, ↓sB25_7, ↓sB25_8, ↓sB25_10, ↓sB27_1, ↓sB27_2, ↓sB27_4, ↓sB30_0, ↓sB30_1, ↓sB33_0, ↓sB35_0, ↓sB35_1, ↓sB38_0, ↓sB38_1, ↓sB38_2, ↓sB42_0, ↓sB42_5, ↓sB42_7, ↓sB42_11, ↓sB42_12, ↓sB42_13, ↓sB53_0, ↓sB53_1, ↓sB53_2, ↓sB53_3, ↓sB54_1, ↓sB56_1, ↓sB58_1, ↓sB60_1, ↓sB65_0, ↓sB65_1, ↓sB65_2, ↓sB66_0, ↓sB66_1, ↓sB69_0, ↓sB69_1, ↓sB72_0, ↓sB72_1, ↓bd_of r3, t1, g4, ↓zc_of e1, ↓bd_of e3, kX10_hardest_66]
    all_goals rfl
  · intro z ⟨h1, ez, k1, k2⟩
    subst ez
    have s1 := k1.1
    obtain ⟨t1, -⟩ := tdS s1 ok.2.1
    have r3 := k1.2.2.2.2.2.1
    have g4 := k1.g.2.2.2
    rw [hRC] at g4
    refine ⟨0, (iI (hsc (hsO v v.rc)).1, iI (hsc (hsO v v.rc)).2, iI v.rc, h1), ?_, rfl, rfl, k1.mono (by omega), k2⟩
    show bX10_hardest_42 g 0 (iI (hsc (hsO v v.rc)).1) (iI (hsc (hsO v v.rc)).2) (iI v.rc) h1 = _
    unfold bX10_hardest_42
    simp (maxSteps := 1000000) (disch := (first | assumption | exact ne_b rfl | omega)) only [↓reduceIte, ↓zlet_eq, ↓bdR_sI, ↓bdR_sJ, ↓bdR_aI, zc2_some, Option.bind_some, ↓si_m1, ↓si_m2, ↓si_m3, iI_lit, iI_add, iI_sub, iI_mul, leT, leF, ltT, ltF, eqT, eqF, zinT, clI, Int.toNat_natCast, Int.reduceToNat, tN1, tNa, tN0, tNm, if_pos, if_neg, zI_sI, zI_sJ, zI_sR, zJ_sI, zJ_sJ, zJ_sR, zR_sI, zR_sJ, zR_sR, zK_sI, zK_sJ, zK_sR, zL_sI, zL_sJ, zL_sR, zI_aI, zJ_aI, zR_aI, zK_aI, zL_aI, z2_at, z2_a, z2_k, z1_self, z1_ne, true_and, and_true, bIt, bIf, Bool.false_eq_true, Bool.true_eq_false, eq_self, not_true_eq_false, not_false_eq_true, sK0, sK1, sK2, sK3, sK4, sK5, sK6, sK7, sK8, sK9, sK10, sK11, sK12, sK13, sK14, sK15, sK16, sK17, sK18, sK19, sK20, sK21, sK22, sK23, sK24, sK25, sK26, sK27, sK28, sK29, sK30, sK31, sK32, sK33, sK34, sK35, sK36, sK37, sK38, sK39, sK40, sK41, sK42, sK43, sK44, sK45, sK46, sK47, sK48, sK49, sK50, sK51, sK52, sK53, sK54, sK55, sK56, sK57, sK58, sK59, sK60, sK61, sK62, sK63, sK64, sK65, sK66, sK67, sK68, sK69, sK70, sK71, sK72, sK73, sK74, sK75, sL1, sL3, sL6, sL8, sL9, sL10, sL11, sL12, sL15, sL17, sL18, sL21, sL23, sL24, sL26, sL29, sL31, sL32, sL34, sL36, sL37, sL39, sL40, sL41, sL43, sL45, sL46, sL47, sL48, sL49, sL50, sL51, sL52, sL53, sL55, sL57, sL59, sL61, sL62, sL63, sL64, sL65, sL67, sL68, sL70, sL71, sL73, sL74, sL75, sR0_0, sR0_2, sR0_5, sR0_6, sR0_11, sR2_5, sR2_6, sR2_7, sR4_1, sR4_2, sR4_4, sR7_0, sR7_1, sR13_1, sR13_2, sR13_4, sR16_0, sR16_1, sR19_1, sR19_2, sR19_4, sR22_0, sR22_1, sR25_0, sR25_2, sR25_3, sR25_4, sR25_5, sR25_6, sR25_7, sR25_8, sR25_10, sR27_1, sR27_2, sR27_4, sR30_0, sR30_1, sR33_0, sR35_0, sR35_1, sR38_0, sR38_1, sR38_2, sR42_0, sR42_5, sR42_7, sR42_11, sR42_12, sR42_13, sR53_0, sR53_1, sR53_2, sR53_3, sR54_1, sR56_1, sR58_1, sR60_1, sR65_0, sR65_1, sR65_2, sR66_0, sR66_1, sR69_0, sR69_1, sR72_0, sR72_1, ↓sB0_0, ↓sB0_2, ↓sB0_5, ↓sB0_6, ↓sB0_11, ↓sB2_5, ↓sB2_6, ↓sB2_7, ↓sB4_1, ↓sB4_2, ↓sB4_4, ↓sB7_0, ↓sB7_1, ↓sB13_1, ↓sB13_2, ↓sB13_4, ↓sB16_0, ↓sB16_1, ↓sB19_1, ↓sB19_2, ↓sB19_4, ↓sB22_0, ↓sB22_1, ↓sB25_0, ↓sB25_2, ↓sB25_3, ↓sB25_4, ↓sB25_5, ↓sB25_6, ↓sB25_7, ↓sB25_8, ↓sB25_10, ↓sB27_1, ↓sB27_2, ↓sB27_4, ↓sB30_0, ↓sB30_1, ↓sB33_0, ↓sB35_0, ↓sB35_1, ↓sB38_0, ↓sB38_1, ↓sB38_2, ↓sB42_0, ↓sB42_5, ↓sB42_7, ↓sB42_11, ↓sB42_12, ↓sB42_13, ↓sB53_0, ↓sB53_1, ↓sB53_2, ↓sB53_3, ↓sB54_1, ↓sB56_1, ↓sB58_1, ↓sB60_1, ↓sB65_0, ↓sB65_1, ↓sB65_2, ↓sB66_0, ↓sB66_1, ↓sB69_0, ↓sB69_1, ↓sB72_0, ↓sB72_1, ↓bd_of r3, t1, g4]
theorem mard_56 {g h0 : Zh} {v : Vw} {tr ra a : Nat} {st : Option (Nat × Nat)} (ok : VOK v) (on : v.on = true) (kg : zK g tr = 11) (m : KM h0 v tr ra) (ha : a < v.rc) (hst : hsB st) : ∃ h1, lp (fun q : Int32 × Int32 × Int32 × Zh => bX12_hardest_56 g 76 (iI a) q.1 q.2.1 q.2.2.1 q.2.2.2) zB (iI (hsm st).1, iI (hsm st).2, iI 0, h0) = some (1, (iI (hsm (hsI v a st v.rc)).1, iI (hsm (hsI v a st v.rc)).2, iI v.rc, h1)) ∧ KM h1 v tr ra ∧ MFz h0 h1 := by
  have hrc := (ok.2.2.2.2.2.2 on).2.1
  have tok := (ok.2.2.2.2.2.2 on).1
  have := lp_cnt (body := fun q : Int32 × Int32 × Int32 × Zh => bX12_hardest_56 g 76 (iI a) q.1 q.2.1 q.2.2.1 q.2.2.2) v.rc (fun b z => ∃ h1, z = ((iI (hsm (hsI v a st b)).1, iI (hsm (hsI v a st b)).2, iI (b : Int), h1) : Int32 × Int32 × Int32 × Zh) ∧ KM h1 v tr ra ∧ MFz h0 h1) (fun e z => e = 1 ∧ ∃ h1, z = ((iI (hsm (hsI v a st v.rc)).1, iI (hsm (hsI v a st v.rc)).2, iI v.rc, h1) : Int32 × Int32 × Int32 × Zh) ∧ KM h1 v tr ra ∧ MFz h0 h1) ?_ ?_ (by omega) (s := (iI (hsm st).1, iI (hsm st).2, iI 0, h0)) ⟨h0, rfl, m, MFz.rf⟩
  · obtain ⟨e, z, l1, l2, h1, l3, l4, l5⟩ := this
    have e0 : e = 0 := by omega
    subst e0
    rw [l3] at l1
    exact ⟨h1, l1, l4, l5⟩
  · intro b z hb ⟨h1, ez, k1, k2⟩
    subst ez
    have r3 := k1.tr3
    rw [on, if_pos rfl] at r3
    have h5 := ((k1.2.2.2.2.2 on).1).2.2.2.2.2.1
    have hbd := hsm_b (hsI_b ok on (show a < 4 by omega) hst b)
    by_cases q : b = a
    · have e1 : hsI v a st (b + 1) = hsI v a st b := by
        show hsP v a b (hsI v a st b) = _
        unfold hsP
        rw [if_pos q.symm]
      refine Or.inl ⟨(iI (hsm (hsI v a st b)).1, iI (hsm (hsI v a st b)).2, iI ((b + 1 : Nat) : Int), h1), ?_, h1, by rw [e1], k1, k2⟩
      show bX12_hardest_56 g 76 (iI a) (iI (hsm (hsI v a st b)).1) (iI (hsm (hsI v a st b)).2) (iI b) h1 = _
      generalize hsm (hsI v a st b) = w at *
      have qq : (a : Int) = (b : Nat) := by omega
      unfold bX12_hardest_56
      simp (maxSteps := 1000000) (disch := (first | assumption | exact ne_b rfl | omega)) only [↓reduceIte, ↓zlet_eq, ↓bdR_sI, ↓bdR_sJ, ↓bdR_aI, zc2_some, Option.bind_some, ↓si_m1, ↓si_m2, ↓si_m3, iI_lit, iI_add, iI_sub, iI_mul, leT, leF, ltT, ltF, eqT, eqF, zinT, clI, Int.toNat_natCast, Int.reduceToNat, tN1, tNa, tN0, tNm, if_pos, if_neg, zI_sI, zI_sJ, zI_sR, zJ_sI, zJ_sJ, zJ_sR, zR_sI, zR_sJ, zR_sR, zK_sI, zK_sJ, zK_sR, zL_sI, zL_sJ, zL_sR, zI_aI, zJ_aI, zR_aI, zK_aI, zL_aI, z2_at, z2_a, z2_k, z1_self, z1_ne, true_and, and_true, bIt, bIf, Bool.false_eq_true, Bool.true_eq_false, eq_self, not_true_eq_false, not_false_eq_true, ↓bd_of r3, kg, h5]
      all_goals rfl
    · obtain ⟨h2, q1, q2, q3⟩ := fX12_apartNow_eq tok (k1.2.2.2.2.2 on).1 ha hb
      have q1' : fX12_apartNow 76 (iI a) (iI b) h1 = some (iI (apv v a b), h2) := q1
      have hav := apv_le ok on a b
      have hP := hsm_P (v := v) (a := a) (b := b) (st := hsI v a st b) (fun e => q e.symm)
      refine Or.inl ⟨(iI (hsm (hsI v a st (b + 1))).1, iI (hsm (hsI v a st (b + 1))).2, iI ((b + 1 : Nat) : Int), h2), ?_, h2, rfl, k1.mr on q2.r q3, k2.tr q2.z⟩
      show bX12_hardest_56 g 76 (iI a) (iI (hsm (hsI v a st b)).1) (iI (hsm (hsI v a st b)).2) (iI b) h1 = some (0, (iI (hsm (hsP v a b (hsI v a st b))).1, iI (hsm (hsP v a b (hsI v a st b))).2, iI ((b + 1 : Nat) : Int), h2))
      rw [hP]
      clear q1
      generalize hsm (hsI v a st b) = w at *
      generalize apv v a b = n at *
      have qq : ¬ (a : Int) = (b : Nat) := by omega
      unfold bX12_hardest_56 jX12_hardest_100
      by_cases p1 : w.1 = -1
      · rw [if_pos (show w.1 = -1 ∨ (n : Int) < w.2 from Or.inl p1)]
        simp (maxSteps := 1000000) (disch := (first | assumption | exact ne_b rfl | omega)) only [↓reduceIte, ↓zlet_eq, ↓bdR_sI, ↓bdR_sJ, ↓bdR_aI, zc2_some, Option.bind_some, ↓si_m1, ↓si_m2, ↓si_m3, iI_lit, iI_add, iI_sub, iI_mul, leT, leF, ltT, ltF, eqT, eqF, zinT, clI, Int.toNat_natCast, Int.reduceToNat, tN1, tNa, tN0, tNm, if_pos, if_neg, zI_sI, zI_sJ, zI_sR, zJ_sI, zJ_sJ, zJ_sR, zR_sI, zR_sJ, zR_sR, zK_sI, zK_sJ, zK_sR, zL_sI, zL_sJ, zL_sR, zI_aI, zJ_aI, zR_aI, zK_aI, zL_aI, z2_at, z2_a, z2_k, z1_self, z1_ne, true_and, and_true, bIt, bIf, Bool.false_eq_true, Bool.true_eq_false, eq_self, not_true_eq_false, not_false_eq_true, ↓bd_of r3, kg, h5, ↓zc_of q1']
        all_goals rfl
      · by_cases p2 : (n : Int) < w.2
        · rw [if_pos (show w.1 = -1 ∨ (n : Int) < w.2 from Or.inr p2)]
          simp (maxSteps := 1000000) (disch := (first | assumption | exact ne_b rfl | omega)) only [↓reduceIte, ↓zlet_eq, ↓bdR_sI, ↓bdR_sJ, ↓bdR_aI, zc2_some, Option.bind_some, ↓si_m1, ↓si_m2, ↓si_m3, iI_lit, iI_add, iI_sub, iI_mul, leT, leF, ltT, ltF, eqT, eqF, zinT, clI, Int.toNat_natCast, Int.reduceToNat, tN1, tNa, tN0, tNm, if_pos, if_neg, zI_sI, zI_sJ, zI_sR, zJ_sI, zJ_sJ, zJ_sR, zR_sI, zR_sJ, zR_sR, zK_sI, zK_sJ, zK_sR, zL_sI, zL_sJ, zL_sR, zI_aI, zJ_aI, zR_aI, zK_aI, zL_aI, z2_at, z2_a, z2_k, z1_self, z1_ne, true_and, and_true, bIt, bIf, Bool.false_eq_true, Bool.true_eq_false, eq_self, not_true_eq_false, not_false_eq_true, ↓bd_of r3, kg, h5, ↓zc_of q1']
          all_goals rfl
        · rw [if_neg (show ¬ (w.1 = -1 ∨ (n : Int) < w.2) from fun z => z.elim p1 p2)]
          simp (maxSteps := 1000000) (disch := (first | assumption | exact ne_b rfl | omega)) only [↓reduceIte, ↓zlet_eq, ↓bdR_sI, ↓bdR_sJ, ↓bdR_aI, zc2_some, Option.bind_some, ↓si_m1, ↓si_m2, ↓si_m3, iI_lit, iI_add, iI_sub, iI_mul, leT, leF, ltT, ltF, eqT, eqF, zinT, clI, Int.toNat_natCast, Int.reduceToNat, tN1, tNa, tN0, tNm, if_pos, if_neg, zI_sI, zI_sJ, zI_sR, zJ_sI, zJ_sJ, zJ_sR, zR_sI, zR_sJ, zR_sR, zK_sI, zK_sJ, zK_sR, zL_sI, zL_sJ, zL_sR, zI_aI, zJ_aI, zR_aI, zK_aI, zL_aI, z2_at, z2_a, z2_k, z1_self, z1_ne, true_and, and_true, bIt, bIf, Bool.false_eq_true, Bool.true_eq_false, eq_self, not_true_eq_false, not_false_eq_true, ↓bd_of r3, kg, h5, ↓zc_of q1']
          all_goals rfl
  · intro z ⟨h1, ez, k1, k2⟩
    subst ez
    have r3 := k1.tr3
    rw [on, if_pos rfl] at r3
    have h5 := ((k1.2.2.2.2.2 on).1).2.2.2.2.2.1
    refine ⟨0, _, ?_, rfl, h1, rfl, k1, k2⟩
    show bX12_hardest_56 g 76 (iI a) (iI (hsm (hsI v a st v.rc)).1) (iI (hsm (hsI v a st v.rc)).2) (iI v.rc) h1 = _
    generalize hsm (hsI v a st v.rc) = w at *
    unfold bX12_hardest_56
    simp (maxSteps := 1000000) (disch := (first | assumption | exact ne_b rfl | omega)) only [↓reduceIte, ↓zlet_eq, ↓bdR_sI, ↓bdR_sJ, ↓bdR_aI, zc2_some, Option.bind_some, ↓si_m1, ↓si_m2, ↓si_m3, iI_lit, iI_add, iI_sub, iI_mul, leT, leF, ltT, ltF, eqT, eqF, zinT, clI, Int.toNat_natCast, Int.reduceToNat, tN1, tNa, tN0, tNm, if_pos, if_neg, zI_sI, zI_sJ, zI_sR, zJ_sI, zJ_sJ, zJ_sR, zR_sI, zR_sJ, zR_sR, zK_sI, zK_sJ, zK_sR, zL_sI, zL_sJ, zL_sR, zI_aI, zJ_aI, zR_aI, zK_aI, zL_aI, z2_at, z2_a, z2_k, z1_self, z1_ne, true_and, and_true, bIt, bIf, Bool.false_eq_true, Bool.true_eq_false, eq_self, not_true_eq_false, not_false_eq_true, ↓bd_of r3, kg, h5]
theorem mard_42 {g h0 : Zh} {v : Vw} {tr ra : Nat} (ok : VOK v) (on : v.on = true) (kg : zK g tr = 11) (m : KM h0 v tr ra) : ∃ x2 x3 h1, lp (fun q : Int32 × Int32 × Int32 × Zh => bX12_hardest_42 g 76 q.1 q.2.1 q.2.2.1 q.2.2.2) zB (iI (-1), iI 0, iI 0, h0) = some (1, (iI (hsm (hsO v v.rc)).1, x2, x3, h1)) ∧ KM h1 v tr ra ∧ MFz h0 h1 := by
  have hrc := (ok.2.2.2.2.2.2 on).2.1
  have := lp_cnt (body := fun q : Int32 × Int32 × Int32 × Zh => bX12_hardest_42 g 76 q.1 q.2.1 q.2.2.1 q.2.2.2) v.rc (fun a z => ∃ h1, z = ((iI (hsm (hsO v a)).1, iI (hsm (hsO v a)).2, iI (a : Int), h1) : Int32 × Int32 × Int32 × Zh) ∧ KM h1 v tr ra ∧ MFz h0 h1) (fun e z => e = 1 ∧ z.1 = iI (hsm (hsO v v.rc)).1 ∧ KM z.2.2.2 v tr ra ∧ MFz h0 z.2.2.2) ?_ ?_ (by omega) (s := (iI (-1), iI 0, iI 0, h0)) ⟨h0, rfl, m, MFz.rf⟩
  · obtain ⟨e, z, l1, l2, l3, l4, l5⟩ := this
    obtain ⟨z1, z2, z3, z4⟩ := z
    have e0 : e = 0 := by omega
    subst e0
    have l3' : z1 = iI (hsm (hsO v v.rc)).1 := l3
    rw [l3'] at l1
    exact ⟨z2, z3, z4, l1, l4, l5⟩
  · intro a z ha ⟨h1, ez, k1, k2⟩
    subst ez
    have r3 := k1.tr3
    rw [on, if_pos rfl] at r3
    have h5 := ((k1.2.2.2.2.2 on).1).2.2.2.2.2.1
    obtain ⟨h3, e3, c3, f3⟩ := mard_56 (g := g) (st := hsO v a) ok on kg k1 ha (hsO_b ok on a (by omega))
    refine Or.inl ⟨(iI (hsm (hsO v (a + 1))).1, iI (hsm (hsO v (a + 1))).2, iI ((a + 1 : Nat) : Int), h3), ?_, h3, rfl, c3, k2.tr f3⟩
    show bX12_hardest_42 g 76 (iI (hsm (hsO v a)).1) (iI (hsm (hsO v a)).2) (iI a) h1 = some (0, (iI (hsm (hsI v a (hsO v a) v.rc)).1, iI (hsm (hsI v a (hsO v a) v.rc)).2, iI ((a + 1 : Nat) : Int), h3))
    unfold bX12_hardest_42
    simp (maxSteps := 1000000) (disch := (first | assumption | exact ne_b rfl | omega)) only [↓reduceIte, ↓zlet_eq, ↓bdR_sI, ↓bdR_sJ, ↓bdR_aI, zc2_some, Option.bind_some, ↓si_m1, ↓si_m2, ↓si_m3, iI_lit, iI_add, iI_sub, iI_mul, leT, leF, ltT, ltF, eqT, eqF, zinT, clI, Int.toNat_natCast, Int.reduceToNat, tN1, tNa, tN0, tNm, if_pos, if_neg, zI_sI, zI_sJ, zI_sR, zJ_sI, zJ_sJ, zJ_sR, zR_sI, zR_sJ, zR_sR, zK_sI, zK_sJ, zK_sR, zL_sI, zL_sJ, zL_sR, zI_aI, zJ_aI, zR_aI, zK_aI, zL_aI, z2_at, z2_a, z2_k, z1_self, z1_ne, true_and, and_true, bIt, bIf, Bool.false_eq_true, Bool.true_eq_false, eq_self, not_true_eq_false, not_false_eq_true, ↓bd_of r3, kg, h5, ↓bd_of e3, kX12_hardest_56]
    all_goals rfl
  · intro z ⟨h1, ez, k1, k2⟩
    subst ez
    have r3 := k1.tr3
    rw [on, if_pos rfl] at r3
    have h5 := ((k1.2.2.2.2.2 on).1).2.2.2.2.2.1
    refine ⟨0, (iI (hsm (hsO v v.rc)).1, iI (hsm (hsO v v.rc)).2, iI v.rc, h1), ?_, rfl, rfl, k1, k2⟩
    show bX12_hardest_42 g 76 (iI (hsm (hsO v v.rc)).1) (iI (hsm (hsO v v.rc)).2) (iI v.rc) h1 = _
    unfold bX12_hardest_42
    simp (maxSteps := 1000000) (disch := (first | assumption | exact ne_b rfl | omega)) only [↓reduceIte, ↓zlet_eq, ↓bdR_sI, ↓bdR_sJ, ↓bdR_aI, zc2_some, Option.bind_some, ↓si_m1, ↓si_m2, ↓si_m3, iI_lit, iI_add, iI_sub, iI_mul, leT, leF, ltT, ltF, eqT, eqF, zinT, clI, Int.toNat_natCast, Int.reduceToNat, tN1, tNa, tN0, tNm, if_pos, if_neg, zI_sI, zI_sJ, zI_sR, zJ_sI, zJ_sJ, zJ_sR, zR_sI, zR_sJ, zR_sR, zK_sI, zK_sJ, zK_sR, zL_sI, zL_sJ, zL_sR, zI_aI, zJ_aI, zR_aI, zK_aI, zL_aI, z2_at, z2_a, z2_k, z1_self, z1_ne, true_and, and_true, bIt, bIf, Bool.false_eq_true, Bool.true_eq_false, eq_self, not_true_eq_false, not_false_eq_true, ↓bd_of r3, kg, h5]
theorem hs_same {st : Option (Nat × Nat)} (h : st.isSome = true) : (hsc st).1 = (hsm st).1 := by
  cases st with
  | none => cases h
  | some q => rfl
theorem op_hardest {h : Zh} {u : Nat} (inv : Inv h u) (hu : u ≤ 59000) : OpR (fX10_hardest 0) (fX12_hardest 76) h u := by
  obtain ⟨v, tb, tr, ra, ok, c, m, -⟩ := inv
  have s := c.1
  by_cases on : v.on = true
  · obtain ⟨g1, -, -, -⟩ := c.g
    obtain ⟨t1, t2, t3, t4, t5, t6, t7, -⟩ := tdS s ok.2.1
    have r3 := c.2.2.2.2.2.1
    have g1' : zI h v.td 0 = iI 1 := by rw [g1, on]; rfl
    have tok := (ok.2.2.2.2.2.2 on).1
    obtain ⟨CR, OW, se, sp, rdy, lg, b1, b2, b3, b4, b5⟩ := c.lg on
    have dk := lg.2.2.1.2.2.1
    have hrc := (ok.2.2.2.2.2.2 on).2.1
    have g4 := c.g.2.2.2
    have hRC : RCv v = v.rc := by unfold RCv; rw [on]; rfl
    rw [hRC] at g4
    by_cases p : 2 ≤ v.rc
    · obtain ⟨x2, x3, h1, l1, c1, f1⟩ := hard_42 (g := h) ok on c hu
      have s1 := c1.1
      have a1 := answer_c s1 (iI (hsc (hsO v v.rc)).1)
      refine OpR.mk (r := iI (hsc (hsO v v.rc)).1) (k := 0) ok ok c m (by decide) ⟨h1, ?_, c1.mono (by omega), f1⟩ ?_
      · unfold fX10_hardest
        simp (maxSteps := 1000000) (disch := (first | assumption | exact ne_b rfl | omega)) only [↓reduceIte, ↓zlet_eq, ↓bdR_sI, ↓bdR_sJ, ↓bdR_aI, zc2_some, Option.bind_some, ↓si_m1, ↓si_m2, ↓si_m3, iI_lit, iI_add, iI_sub, iI_mul, leT, leF, ltT, ltF, eqT, eqF, zinT, clI, Int.toNat_natCast, Int.reduceToNat, tN1, tNa, tN0, tNm, if_pos, if_neg, zI_sI, zI_sJ, zI_sR, zJ_sI, zJ_sJ, zJ_sR, zR_sI, zR_sJ, zR_sR, zK_sI, zK_sJ, zK_sR, zL_sI, zL_sJ, zL_sR, zI_aI, zJ_aI, zR_aI, zK_aI, zL_aI, z2_at, z2_a, z2_k, z1_self, z1_ne, true_and, and_true, bIt, bIf, Bool.false_eq_true, Bool.true_eq_false, eq_self, not_true_eq_false, not_false_eq_true, sK0, sK1, sK2, sK3, sK4, sK5, sK6, sK7, sK8, sK9, sK10, sK11, sK12, sK13, sK14, sK15, sK16, sK17, sK18, sK19, sK20, sK21, sK22, sK23, sK24, sK25, sK26, sK27, sK28, sK29, sK30, sK31, sK32, sK33, sK34, sK35, sK36, sK37, sK38, sK39, sK40, sK41, sK42, sK43, sK44, sK45, sK46, sK47, sK48, sK49, sK50, sK51, sK52, sK53, sK54, sK55, sK56, sK57, sK58, sK59, sK60, sK61, sK62, sK63, sK64, sK65, sK66, sK67, sK68, sK69, sK70, sK71, sK72, sK73, sK74, sK75, sL1, sL3, sL6, sL8, sL9, sL10, sL11, sL12, sL15, sL17, sL18, sL21, sL23, sL24, sL26, sL29, sL31, sL32, sL34, sL36, sL37, sL39, sL40, sL41, sL43, sL45, sL46, sL47, sL48, sL49, sL50, sL51, sL52, sL53, sL55, sL57, sL59, sL61, sL62, sL63, sL64, sL65, sL67, sL68, sL70, sL71, sL73, sL74, sL75, sR0_0, sR0_2, sR0_5, sR0_6, sR0_11, sR2_5, sR2_6, sR2_7, sR4_1, sR4_2, sR4_4, sR7_0, sR7_1, sR13_1, sR13_2, sR13_4, sR16_0, sR16_1, sR19_1, sR19_2, sR19_4, sR22_0, sR22_1, sR25_0, sR25_2, sR25_3, sR25_4, sR25_5, sR25_6, sR25_7, sR25_8, sR25_10, sR27_1, sR27_2, sR27_4, sR30_0, sR30_1, sR33_0, sR35_0, sR35_1, sR38_0, sR38_1, sR38_2, sR42_0, sR42_5, sR42_7, sR42_11, sR42_12, sR42_13, sR53_0, sR53_1, sR53_2, sR53_3, sR54_1, sR56_1, sR58_1, sR60_1, sR65_0, sR65_1, sR65_2, sR66_0, sR66_1, sR69_0, sR69_1, sR72_0, sR72_1, ↓sB0_0, ↓sB0_2, ↓sB0_5, ↓sB0_6, ↓sB0_11, ↓sB2_5, ↓sB2_6, ↓sB2_7, ↓sB4_1, ↓sB4_2, ↓sB4_4, ↓sB7_0, ↓sB7_1, ↓sB13_1, ↓sB13_2, ↓sB13_4, ↓sB16_0, ↓sB16_1, ↓sB19_1, ↓sB19_2, ↓sB19_4, ↓sB22_0, ↓sB22_1, ↓sB25_0, ↓sB25_2, ↓sB25_3, ↓sB25_4, ↓sB25_5, ↓sB25_6, ↓sB25_7, ↓sB25_8, ↓sB25_10, ↓sB27_1, ↓sB27_2, ↓sB27_4, ↓sB30_0, ↓sB30_1, ↓sB33_0, ↓sB35_0, ↓sB35_1, ↓sB38_0, ↓sB38_1, ↓sB38_2, ↓sB42_0, ↓sB42_5, ↓sB42_7, ↓sB42_11, ↓sB42_12, ↓sB42_13, ↓sB53_0, ↓sB53_1, ↓sB53_2, ↓sB53_3, ↓sB54_1, ↓sB56_1, ↓sB58_1, ↓sB60_1, ↓sB65_0, ↓sB65_1, ↓sB65_2, ↓sB66_0, ↓sB66_1, ↓sB69_0, ↓sB69_1, ↓sB72_0, ↓sB72_1, ↓bd_of r3, t1, g1', g4, ↓bd_of l1, kX10_hardest_42, ↓zc_of a1]
        all_goals rfl
      · intro hm mm
        have m0 := mm.s76 (j := 0) (x := iI 0) (by decide)
        have sm := mm.1
        have q3 := mm.tr3
        rw [on, if_pos rfl] at q3
        have ris : (zR hm 76 3).isSome = true := by rw [q3]; rfl
        have md0 := (m0.2.2.2.2.2 on).1
        have mx0 := md0.1
        have s0 := m0.1
        have h5 : zI hm tr 5 = iI v.rc := ((mm.2.2.2.2.2 on).1).2.2.2.2.2.1
        have kt : zK hm tr = 11 := ((mm.2.2.2.2.2 on).1).1.2.2.2.1.fK
        have ntr : tr ≠ 76 := by have := mx0.2.1; omega
        obtain ⟨y2, y3, h2, l4, l5, l6⟩ := mard_42 (g := hm) ok on kt m0
        have hsame := hs_same (hsO_s p v.rc (by omega))
        rw [hsame]
        have g2 := good_m l5.1 (iI (hsm (hsO v v.rc)).1)
        refine ⟨h2, ?_, l5, (MFz.sI _ _).tr l6⟩
        unfold fX12_hardest
        simp (maxSteps := 1000000) (disch := (first | assumption | exact ne_b rfl | omega)) only [↓reduceIte, ↓zlet_eq, ↓bdR_sI, ↓bdR_sJ, ↓bdR_aI, zc2_some, Option.bind_some, ↓si_m1, ↓si_m2, ↓si_m3, iI_lit, iI_add, iI_sub, iI_mul, leT, leF, ltT, ltF, eqT, eqF, zinT, clI, Int.toNat_natCast, Int.reduceToNat, tN1, tNa, tN0, tNm, if_pos, if_neg, zI_sI, zI_sJ, zI_sR, zJ_sI, zJ_sJ, zJ_sR, zR_sI, zR_sJ, zR_sR, zK_sI, zK_sJ, zK_sR, zL_sI, zL_sJ, zL_sR, zI_aI, zJ_aI, zR_aI, zK_aI, zL_aI, z2_at, z2_a, z2_k, z1_self, z1_ne, true_and, and_true, bIt, bIf, Bool.false_eq_true, Bool.true_eq_false, eq_self, not_true_eq_false, not_false_eq_true, sK76, sK77, sK78, sK79, sK80, sK81, sK82, sK83, sK84, sK85, sK86, sK87, sK88, sK89, sK90, sK91, sK92, sK93, sK94, sK95, sK96, sK97, sK98, sK99, sK100, sL77, sL78, sL79, sL80, sL81, sL82, sL83, sL84, sL85, sL86, sL87, sL88, sL89, sL90, sL91, sL92, sL93, sL94, sL95, sL96, sL97, sL98, sL99, sL100, sR76_5, sR76_16, sR76_18, sR76_19, sR76_20, sR76_21, sR76_23, sR76_25, sR76_26, sR76_27, sR76_28, sR76_29, sR76_30, sR76_31, sR76_32, sR76_33, sR76_34, sR76_37, sR76_38, sR76_39, sR76_40, sR76_41, sR76_42, ↓sB76_5, ↓sB76_16, ↓sB76_18, ↓sB76_19, ↓sB76_20, ↓sB76_21, ↓sB76_23, ↓sB76_25, ↓sB76_26, ↓sB76_27, ↓sB76_28, ↓sB76_29, ↓sB76_30, ↓sB76_31, ↓sB76_32, ↓sB76_33, ↓sB76_34, ↓sB76_37, ↓sB76_38, ↓sB76_39, ↓sB76_40, ↓sB76_41, ↓sB76_42, ris, ↓bd_of q3, kt, h5, ↓bd_of l4, kX12_hardest_42, ↓zc_of g2]
        all_goals rfl
    · have r1 := refuse_c s 6
      refine OpR.mk (r := iI (-1)) (k := 6) ok ok c m (by decide) (COp.ref c ?_) (MOp.ref (fun hm mm => ?_))
      · unfold fX10_hardest
        simp (maxSteps := 1000000) (disch := (first | assumption | exact ne_b rfl | omega)) only [↓reduceIte, ↓zlet_eq, ↓bdR_sI, ↓bdR_sJ, ↓bdR_aI, zc2_some, Option.bind_some, ↓si_m1, ↓si_m2, ↓si_m3, iI_lit, iI_add, iI_sub, iI_mul, leT, leF, ltT, ltF, eqT, eqF, zinT, clI, Int.toNat_natCast, Int.reduceToNat, tN1, tNa, tN0, tNm, if_pos, if_neg, zI_sI, zI_sJ, zI_sR, zJ_sI, zJ_sJ, zJ_sR, zR_sI, zR_sJ, zR_sR, zK_sI, zK_sJ, zK_sR, zL_sI, zL_sJ, zL_sR, zI_aI, zJ_aI, zR_aI, zK_aI, zL_aI, z2_at, z2_a, z2_k, z1_self, z1_ne, true_and, and_true, bIt, bIf, Bool.false_eq_true, Bool.true_eq_false, eq_self, not_true_eq_false, not_false_eq_true, sK0, sK1, sK2, sK3, sK4, sK5, sK6, sK7, sK8, sK9, sK10, sK11, sK12, sK13, sK14, sK15, sK16, sK17, sK18, sK19, sK20, sK21, sK22, sK23, sK24, sK25, sK26, sK27, sK28, sK29, sK30, sK31, sK32, sK33, sK34, sK35, sK36, sK37, sK38, sK39, sK40, sK41, sK42, sK43, sK44, sK45, sK46, sK47, sK48, sK49, sK50, sK51, sK52, sK53, sK54, sK55, sK56, sK57, sK58, sK59, sK60, sK61, sK62, sK63, sK64, sK65, sK66, sK67, sK68, sK69, sK70, sK71, sK72, sK73, sK74, sK75, sL1, sL3, sL6, sL8, sL9, sL10, sL11, sL12, sL15, sL17, sL18, sL21, sL23, sL24, sL26, sL29, sL31, sL32, sL34, sL36, sL37, sL39, sL40, sL41, sL43, sL45, sL46, sL47, sL48, sL49, sL50, sL51, sL52, sL53, sL55, sL57, sL59, sL61, sL62, sL63, sL64, sL65, sL67, sL68, sL70, sL71, sL73, sL74, sL75, sR0_0, sR0_2, sR0_5, sR0_6, sR0_11, sR2_5, sR2_6, sR2_7, sR4_1, sR4_2, sR4_4, sR7_0, sR7_1, sR13_1, sR13_2, sR13_4, sR16_0, sR16_1, sR19_1, sR19_2, sR19_4, sR22_0, sR22_1, sR25_0, sR25_2, sR25_3, sR25_4, sR25_5, sR25_6, sR25_7, sR25_8, sR25_10, sR27_1, sR27_2, sR27_4, sR30_0, sR30_1, sR33_0, sR35_0, sR35_1, sR38_0, sR38_1, sR38_2, sR42_0, sR42_5, sR42_7, sR42_11, sR42_12, sR42_13, sR53_0, sR53_1, sR53_2, sR53_3, sR54_1, sR56_1, sR58_1, sR60_1, sR65_0, sR65_1, sR65_2, sR66_0, sR66_1, sR69_0, sR69_1, sR72_0, sR72_1, ↓sB0_0, ↓sB0_2, ↓sB0_5, ↓sB0_6, ↓sB0_11, ↓sB2_5, ↓sB2_6, ↓sB2_7, ↓sB4_1, ↓sB4_2, ↓sB4_4, ↓sB7_0, ↓sB7_1, ↓sB13_1, ↓sB13_2, ↓sB13_4, ↓sB16_0, ↓sB16_1, ↓sB19_1, ↓sB19_2, ↓sB19_4, ↓sB22_0, ↓sB22_1, ↓sB25_0, ↓sB25_2, ↓sB25_3, ↓sB25_4, ↓sB25_5, ↓sB25_6, ↓sB25_7, ↓sB25_8, ↓sB25_10, ↓sB27_1, ↓sB27_2, ↓sB27_4, ↓sB30_0, ↓sB30_1, ↓sB33_0, ↓sB35_0, ↓sB35_1, ↓sB38_0, ↓sB38_1, ↓sB38_2, ↓sB42_0, ↓sB42_5, ↓sB42_7, ↓sB42_11, ↓sB42_12, ↓sB42_13, ↓sB53_0, ↓sB53_1, ↓sB53_2, ↓sB53_3, ↓sB54_1, ↓sB56_1, ↓sB58_1, ↓sB60_1, ↓sB65_0, ↓sB65_1, ↓sB65_2, ↓sB66_0, ↓sB66_1, ↓sB69_0, ↓sB69_1, ↓sB72_0, ↓sB72_1, ↓bd_of r3, t1, g1', g4, ↓zc_of r1]
        all_goals rfl
      · have m0 := mm.s76 (j := 0) (x := iI 0) (by decide)
        have sm := mm.1
        have q3 := mm.tr3
        rw [on, if_pos rfl] at q3
        have ris : (zR hm 76 3).isSome = true := by rw [q3]; rfl
        have h5 : zI hm tr 5 = iI v.rc := ((mm.2.2.2.2.2 on).1).2.2.2.2.2.1
        have kt : zK hm tr = 11 := ((mm.2.2.2.2.2 on).1).1.2.2.2.1.fK
        have ntr : tr ≠ 76 := by have := ((mm.2.2.2.2.2 on).1).1.2.1; omega
        have g2 := refused_m m0.1 6
        unfold fX12_hardest
        simp (maxSteps := 1000000) (disch := (first | assumption | exact ne_b rfl | omega)) only [↓reduceIte, ↓zlet_eq, ↓bdR_sI, ↓bdR_sJ, ↓bdR_aI, zc2_some, Option.bind_some, ↓si_m1, ↓si_m2, ↓si_m3, iI_lit, iI_add, iI_sub, iI_mul, leT, leF, ltT, ltF, eqT, eqF, zinT, clI, Int.toNat_natCast, Int.reduceToNat, tN1, tNa, tN0, tNm, if_pos, if_neg, zI_sI, zI_sJ, zI_sR, zJ_sI, zJ_sJ, zJ_sR, zR_sI, zR_sJ, zR_sR, zK_sI, zK_sJ, zK_sR, zL_sI, zL_sJ, zL_sR, zI_aI, zJ_aI, zR_aI, zK_aI, zL_aI, z2_at, z2_a, z2_k, z1_self, z1_ne, true_and, and_true, bIt, bIf, Bool.false_eq_true, Bool.true_eq_false, eq_self, not_true_eq_false, not_false_eq_true, sK76, sK77, sK78, sK79, sK80, sK81, sK82, sK83, sK84, sK85, sK86, sK87, sK88, sK89, sK90, sK91, sK92, sK93, sK94, sK95, sK96, sK97, sK98, sK99, sK100, sL77, sL78, sL79, sL80, sL81, sL82, sL83, sL84, sL85, sL86, sL87, sL88, sL89, sL90, sL91, sL92, sL93, sL94, sL95, sL96, sL97, sL98, sL99, sL100, sR76_5, sR76_16, sR76_18, sR76_19, sR76_20, sR76_21, sR76_23, sR76_25, sR76_26, sR76_27, sR76_28, sR76_29, sR76_30, sR76_31, sR76_32, sR76_33, sR76_34, sR76_37, sR76_38, sR76_39, sR76_40, sR76_41, sR76_42, ↓sB76_5, ↓sB76_16, ↓sB76_18, ↓sB76_19, ↓sB76_20, ↓sB76_21, ↓sB76_23, ↓sB76_25, ↓sB76_26, ↓sB76_27, ↓sB76_28, ↓sB76_29, ↓sB76_30, ↓sB76_31, ↓sB76_32, ↓sB76_33, ↓sB76_34, ↓sB76_37, ↓sB76_38, ↓sB76_39, ↓sB76_40, ↓sB76_41, ↓sB76_42, ris, ↓bd_of q3, kt, h5, ↓zc_of g2]
        all_goals rfl
  · obtain ⟨g1, -, -, -⟩ := c.g
    obtain ⟨t1, t2, t3, t4, t5, t6, t7, -⟩ := tdS s ok.2.1
    have r3 := c.2.2.2.2.2.1
    have on' : v.on = false := Bool.eq_false_iff.mpr on
    rw [on'] at g1
    have g1' : zI h v.td 0 = iI 0 := g1
    have r1 := refuse_c s 1
    refine OpR.mk (r := iI (-1)) (k := 1) ok ok c m (by decide) (COp.ref c ?_) (MOp.ref (fun hm mm => ?_))
    · unfold fX10_hardest
      simp (maxSteps := 1000000) (disch := (first | assumption | exact ne_b rfl | omega)) only [↓reduceIte, ↓zlet_eq, ↓bdR_sI, ↓bdR_sJ, ↓bdR_aI, zc2_some, Option.bind_some, ↓si_m1, ↓si_m2, ↓si_m3, iI_lit, iI_add, iI_sub, iI_mul, leT, leF, ltT, ltF, eqT, eqF, zinT, clI, Int.toNat_natCast, Int.reduceToNat, tN1, tNa, tN0, tNm, if_pos, if_neg, zI_sI, zI_sJ, zI_sR, zJ_sI, zJ_sJ, zJ_sR, zR_sI, zR_sJ, zR_sR, zK_sI, zK_sJ, zK_sR, zL_sI, zL_sJ, zL_sR, zI_aI, zJ_aI, zR_aI, zK_aI, zL_aI, z2_at, z2_a, z2_k, z1_self, z1_ne, true_and, and_true, bIt, bIf, Bool.false_eq_true, Bool.true_eq_false, eq_self, not_true_eq_false, not_false_eq_true, sK0, sK1, sK2, sK3, sK4, sK5, sK6, sK7, sK8, sK9, sK10, sK11, sK12, sK13, sK14, sK15, sK16, sK17, sK18, sK19, sK20, sK21, sK22, sK23, sK24, sK25, sK26, sK27, sK28, sK29, sK30, sK31, sK32, sK33, sK34, sK35, sK36, sK37, sK38, sK39, sK40, sK41, sK42, sK43, sK44, sK45, sK46, sK47, sK48, sK49, sK50, sK51, sK52, sK53, sK54, sK55, sK56, sK57, sK58, sK59, sK60, sK61, sK62, sK63, sK64, sK65, sK66, sK67, sK68, sK69, sK70, sK71, sK72, sK73, sK74, sK75, sL1, sL3, sL6, sL8, sL9, sL10, sL11, sL12, sL15, sL17, sL18, sL21, sL23, sL24, sL26, sL29, sL31, sL32, sL34, sL36, sL37, sL39, sL40, sL41, sL43, sL45, sL46, sL47, sL48, sL49, sL50, sL51, sL52, sL53, sL55, sL57, sL59, sL61, sL62, sL63, sL64, sL65, sL67, sL68, sL70, sL71, sL73, sL74, sL75, sR0_0, sR0_2, sR0_5, sR0_6, sR0_11, sR2_5, sR2_6, sR2_7, sR4_1, sR4_2, sR4_4, sR7_0, sR7_1, sR13_1, sR13_2, sR13_4, sR16_0, sR16_1, sR19_1, sR19_2, sR19_4, sR22_0, sR22_1, sR25_0, sR25_2, sR25_3, sR25_4, sR25_5, sR25_6, sR25_7, sR25_8, sR25_10, sR27_1, sR27_2, sR27_4, sR30_0, sR30_1, sR33_0, sR35_0, sR35_1, sR38_0, sR38_1, sR38_2, sR42_0, sR42_5, sR42_7, sR42_11, sR42_12, sR42_13, sR53_0, sR53_1, sR53_2, sR53_3, sR54_1, sR56_1, sR58_1, sR60_1, sR65_0, sR65_1, sR65_2, sR66_0, sR66_1, sR69_0, sR69_1, sR72_0, sR72_1, ↓sB0_0, ↓sB0_2, ↓sB0_5, ↓sB0_6, ↓sB0_11, ↓sB2_5, ↓sB2_6, ↓sB2_7, ↓sB4_1, ↓sB4_2, ↓sB4_4, ↓sB7_0, ↓sB7_1, ↓sB13_1, ↓sB13_2, ↓sB13_4, ↓sB16_0, ↓sB16_1, ↓sB19_1, ↓sB19_2, ↓sB19_4, ↓sB22_0, ↓sB22_1, ↓sB25_0, ↓sB25_2, ↓sB25_3, ↓sB25_4, ↓sB25_5, ↓sB25_6, ↓sB25_7, ↓sB25_8, ↓sB25_10, ↓sB27_1, ↓sB27_2, ↓sB27_4, ↓sB30_0, ↓sB30_1, ↓sB33_0, ↓sB35_0, ↓sB35_1, ↓sB38_0, ↓sB38_1, ↓sB38_2, ↓sB42_0, ↓sB42_5, ↓sB42_7, ↓sB42_11, ↓sB42_12, ↓sB42_13, ↓sB53_0, ↓sB53_1, ↓sB53_2, ↓sB53_3, ↓sB54_1, ↓sB56_1, ↓sB58_1, ↓sB60_1, ↓sB65_0, ↓sB65_1, ↓sB65_2, ↓sB66_0, ↓sB66_1, ↓sB69_0, ↓sB69_1, ↓sB72_0, ↓sB72_1, ↓bd_of r3, t1, g1', ↓zc_of r1]
      all_goals rfl
    · have m0 := mm.s76 (j := 0) (x := iI 0) (by decide)
      have sm := mm.1
      have q3 := mm.tr3
      rw [on', if_neg (by decide)] at q3
      have ris : (zR hm 76 3).isSome = false := by rw [q3]; rfl
      have g2 := refused_m m0.1 1
      unfold fX12_hardest
      simp (maxSteps := 1000000) (disch := (first | assumption | exact ne_b rfl | omega)) only [↓reduceIte, ↓zlet_eq, ↓bdR_sI, ↓bdR_sJ, ↓bdR_aI, zc2_some, Option.bind_some, ↓si_m1, ↓si_m2, ↓si_m3, iI_lit, iI_add, iI_sub, iI_mul, leT, leF, ltT, ltF, eqT, eqF, zinT, clI, Int.toNat_natCast, Int.reduceToNat, tN1, tNa, tN0, tNm, if_pos, if_neg, zI_sI, zI_sJ, zI_sR, zJ_sI, zJ_sJ, zJ_sR, zR_sI, zR_sJ, zR_sR, zK_sI, zK_sJ, zK_sR, zL_sI, zL_sJ, zL_sR, zI_aI, zJ_aI, zR_aI, zK_aI, zL_aI, z2_at, z2_a, z2_k, z1_self, z1_ne, true_and, and_true, bIt, bIf, Bool.false_eq_true, Bool.true_eq_false, eq_self, not_true_eq_false, not_false_eq_true, sK76, sK77, sK78, sK79, sK80, sK81, sK82, sK83, sK84, sK85, sK86, sK87, sK88, sK89, sK90, sK91, sK92, sK93, sK94, sK95, sK96, sK97, sK98, sK99, sK100, sL77, sL78, sL79, sL80, sL81, sL82, sL83, sL84, sL85, sL86, sL87, sL88, sL89, sL90, sL91, sL92, sL93, sL94, sL95, sL96, sL97, sL98, sL99, sL100, sR76_5, sR76_16, sR76_18, sR76_19, sR76_20, sR76_21, sR76_23, sR76_25, sR76_26, sR76_27, sR76_28, sR76_29, sR76_30, sR76_31, sR76_32, sR76_33, sR76_34, sR76_37, sR76_38, sR76_39, sR76_40, sR76_41, sR76_42, ↓sB76_5, ↓sB76_16, ↓sB76_18, ↓sB76_19, ↓sB76_20, ↓sB76_21, ↓sB76_23, ↓sB76_25, ↓sB76_26, ↓sB76_27, ↓sB76_28, ↓sB76_29, ↓sB76_30, ↓sB76_31, ↓sB76_32, ↓sB76_33, ↓sB76_34, ↓sB76_37, ↓sB76_38, ↓sB76_39, ↓sB76_40, ↓sB76_41, ↓sB76_42, ris, ↓zc_of g2]
      all_goals rfl
