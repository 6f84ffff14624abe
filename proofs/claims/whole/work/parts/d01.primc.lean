/-! the class's reader: what a method of it answers, by a piece of the text -/
def RD (h : Zh) (tx : Nat → Int) (n p : Nat) : Prop := St h ∧ RdC h tx n p ∧ zI h 2 0 = iI 0 ∧ zI h 2 1 = iI 0
theorem RD.fm {S : List Nat} {h h' : Zh} {tx : Nat → Int} {n p : Nat} (q : RD h tx n p) (f : Fm S h h') (h1 : 1 ∉ S) (h2 : 2 ∉ S) : RD h' tx n p := by
  obtain ⟨s, ⟨a, ⟨b1, b2, b3, b4⟩, c⟩, d⟩ := q
  refine ⟨s.fm f, ⟨a, ⟨b1, ?_, ?_, ?_⟩, ?_⟩, ?_⟩
  · rw [f.I h2]; exact b2
  · rw [f.R]; exact b3
  · rw [f.I h1]; exact b4
  · rw [f.I h2]; exact c
  · rw [f.I h2]; exact d
theorem RD.p {h : Zh} {tx : Nat → Int} {n p : Nat} (q : RD h tx n p) : p ≤ n ∧ n ≤ 900 := ⟨q.2.1.1, q.2.1.2.1.1⟩
def CRt {α : Type} (o : Option (Int32 × Zh)) (h : Zh) (S : List Nat) (bad : Int) (r : PR α) (G : α → Nat → Int32 → Zh → Prop) : Prop := ∃ w h', o = some (w, h') ∧ Fm S h h' ∧ ((∃ f q, r = er f q ∧ w = iI bad ∧ zI h' 2 0 = iI f ∧ zI h' 2 1 = iI q) ∨ ∃ a p, r = rt a p ∧ G a p w h')
theorem CRt.er {α : Type} {o : Option (Int32 × Zh)} {h h' : Zh} {S : List Nat} {bad : Int} {f q : Nat} {G : α → Nat → Int32 → Zh → Prop} (e : o = some (iI bad, h')) (fm : Fm S h h') (h0 : zI h' 2 0 = iI f) (h1 : zI h' 2 1 = iI q) : CRt o h S bad (er f q : PR α) G := ⟨_, h', e, fm, Or.inl ⟨f, q, rfl, rfl, h0, h1⟩⟩
theorem CRt.rt {α : Type} {o : Option (Int32 × Zh)} {h h' : Zh} {S : List Nat} {bad : Int} {a : α} {p : Nat} {w : Int32} {G : α → Nat → Int32 → Zh → Prop} (e : o = some (w, h')) (fm : Fm S h h') (g : G a p w h') : CRt o h S bad (rt a p) G := ⟨w, h', e, fm, Or.inr ⟨a, p, rfl, g⟩⟩
theorem step_c {h : Zh} {tx : Nat → Int} {n p : Nat} (q : RD h tx n p) : ∃ h', fX7_step 2 h = some h' ∧ Fm [2] h h' ∧ RD h' tx n (tkN tx n p) := by
  obtain ⟨s, rd, d0, d1⟩ := q
  have hb := nx_b tx rd.1
  obtain ⟨h', e1, e2, e3, e4⟩ := fX7_step_eq s rd.2.1 hb.2 rd.2.2.2.2.1
  exact ⟨h', e1, e2, s.fm e2, e4, by rw [e3 0 (by unfold R4; omega)]; exact d0, by rw [e3 1 (by unfold R4; omega)]; exact d1⟩
theorem fail_c {h : Zh} {tx : Nat → Int} {n p : Nat} (q : RD h tx n p) (f : Nat) : ∃ h', fX7_fail 2 (iI f) h = some (iI 0, h') ∧ Fm [2] h h' ∧ zI h' 2 0 = iI f ∧ zI h' 2 1 = iI (skp tx n p) := by
  obtain ⟨s, rd, d0, d1⟩ := q
  have r9 := rd.2.2.2.1
  refine ⟨zsI (zsI h 2 0 (iI f)) 2 1 (iI (skp tx n p)), ?_, (Fm_sI _ _ _ (by simp)).tr (Fm_sI _ _ _ (by simp)), by rw [zI_sI, z2_k _ _ _ (by decide), zI_sI, z2_at], by rw [zI_sI, z2_at]⟩
  unfold fX7_fail
  generalize skp tx n p = y at *
  simp (maxSteps := 1000000) (disch := (first | assumption | exact ne_b rfl | omega)) only [↓reduceIte, ↓zlet_eq, ↓bdR_sI, ↓bdR_sJ, ↓bdR_aI, zc2_some, Option.bind_some, ↓si_m1, ↓si_m2, ↓si_m3, iI_lit, iI_add, iI_sub, iI_mul, leT, leF, ltT, ltF, eqT, eqF, zinT, clI, Int.toNat_natCast, Int.reduceToNat, tN1, tNa, tN0, tNm, if_pos, if_neg, zI_sI, zI_sJ, zI_sR, zJ_sI, zJ_sJ, zJ_sR, zR_sI, zR_sJ, zR_sR, zK_sI, zK_sJ, zK_sR, zL_sI, zL_sJ, zL_sR, zI_aI, zJ_aI, zR_aI, zK_aI, zL_aI, z2_at, z2_a, z2_k, z1_self, z1_ne, true_and, and_true, bIt, bIf, Bool.false_eq_true, Bool.true_eq_false, eq_self, not_true_eq_false, not_false_eq_true, sK0, sK1, sK2, sK3, sK4, sK5, sK6, sK7, sK8, sK9, sK10, sK11, sK12, sK13, sK14, sK15, sK16, sK17, sK18, sK19, sK20, sK21, sK22, sK23, sK24, sK25, sK26, sK27, sK28, sK29, sK30, sK31, sK32, sK33, sK34, sK35, sK36, sK37, sK38, sK39, sK40, sK41, sK42, sK43, sK44, sK45, sK46, sK47, sK48, sK49, sK50, sK51, sK52, sK53, sK54, sK55, sK56, sK57, sK58, sK59, sK60, sK61, sK62, sK63, sK64, sK65, sK66, sK67, sK68, sK69, sK70, sK71, sK72, sK73, sK74, sK75, sL1, sL3, sL6, sL8, sL9, sL10, sL11, sL12, sL15, sL17, sL18, sL21, sL23, sL24, sL26, sL29, sL31, sL32, sL34, sL36, sL37, sL39, sL40, sL41, sL43, sL45, sL46, sL47, sL48, sL49, sL50, sL51, sL52, sL53, sL55, sL57, sL59, sL61, sL62, sL63, sL64, sL65, sL67, sL68, sL70, sL71, sL73, sL74, sL75, sR0_0, sR0_2, sR0_5, sR0_6, sR0_11, sR2_5, sR2_6, sR2_7, sR4_1, sR4_2, sR4_4, sR7_0, sR7_1, sR13_1, sR13_2, sR13_4, sR16_0, sR16_1, sR19_1, sR19_2, sR19_4, sR22_0, sR22_1, sR25_0, sR25_2, sR25_3, sR25_4, sR25_5, sR25_6, sR25_7, sR25_8, sR25_10, sR27_1, sR27_2, sR27_4, sR30_0, sR30_1, sR33_0, sR35_0, sR35_1, sR38_0, sR38_1, sR38_2, sR42_0, sR42_5, sR42_7, sR42_11, sR42_12, sR42_13, sR53_0, sR53_1, sR53_2, sR53_3, sR54_1, sR56_1, sR58_1, sR60_1, sR65_0, sR65_1, sR65_2, sR66_0, sR66_1, sR69_0, sR69_1, sR72_0, sR72_1, ↓sB0_0, ↓sB0_2, ↓sB0_5, ↓sB0_6, ↓sB0_11, ↓sB2_5, ↓sB2_6, ↓sB2_7, ↓sB4_1, ↓sB4_2, ↓sB4_4, ↓sB7_0, ↓sB7_1, ↓sB13_1, ↓sB13_2, ↓sB13_4, ↓sB16_0, ↓sB16_1, ↓sB19_1, ↓sB19_2, ↓sB19_4, ↓sB22_0, ↓sB22_1, ↓sB25_0, ↓sB25_2, ↓sB25_3, ↓sB25_4, ↓sB25_5, ↓sB25_6, ↓sB25_7, ↓sB25_8, ↓sB25_10, ↓sB27_1, ↓sB27_2, ↓sB27_4, ↓sB30_0, ↓sB30_1, ↓sB33_0, ↓sB35_0, ↓sB35_1, ↓sB38_0, ↓sB38_1, ↓sB38_2, ↓sB42_0, ↓sB42_5, ↓sB42_7, ↓sB42_11, ↓sB42_12, ↓sB42_13, ↓sB53_0, ↓sB53_1, ↓sB53_2, ↓sB53_3, ↓sB54_1, ↓sB56_1, ↓sB58_1, ↓sB60_1, ↓sB65_0, ↓sB65_1, ↓sB65_2, ↓sB66_0, ↓sB66_1, ↓sB69_0, ↓sB69_1, ↓sB72_0, ↓sB72_1, r9]
  all_goals rfl
theorem is_c {h : Zh} {tx : Nat → Int} {n p s : Nat} (q : RD h tx n p) (hs : s < 25) : fX7_is 2 s h = some (iI (bI (isw tx n p s)), h) := by
  have hk : ∀ s : Nat, s < 25 → s < ztxt.length ∧ wln s ≤ 8 := by decide +kernel
  exact fX7_is_eq q.1 q.2.1 (hk s hs).1 (hk s hs).2
theorem pass_c {h : Zh} {tx : Nat → Int} {n p s : Nat} (q : RD h tx n p) (hs : s < 25) : CRt (fX7_pass 2 s h) h [2] 0 (pP tx n s p) (fun _ p' w h' => w = iI 1 ∧ RD h' tx n p') := by
  have e1 := is_c q hs
  have k2 := sK2 q.1
  unfold pP
  cases e : isw tx n p s
  · rw [e] at e1
    obtain ⟨h', f1, f2, f3, f4⟩ := fail_c q 1
    rw [if_neg (by decide)]
    refine CRt.er (h' := h') ?_ f2 f3 f4
    unfold fX7_pass
    rw [zlet_eq, if_pos k2]
    refine (zc_of e1 _).trans ((if_pos (show iI (bI false) = 0 by decide)).trans ?_)
    refine (zc_of f1 _).trans ?_
    rfl
  · rw [e] at e1
    obtain ⟨h', f1, f2, f3⟩ := step_c q
    rw [if_pos rfl]
    refine CRt.rt (h' := h') (w := iI 1) ?_ f2 ⟨rfl, f3⟩
    unfold fX7_pass
    rw [zlet_eq, if_pos k2]
    refine (zc_of e1 _).trans ?_
    exact bd_of f1 _
theorem isWhole_c {h : Zh} {tx : Nat → Int} {n p lo hi : Nat} (q : RD h tx n p) (hlo : lo < 1000) (hhi : hi < 1000) : CRt (fX7_isWhole 2 (iI lo) (iI hi) h) h [2] 0 (cN tx n lo hi p) (fun _ _ w h' => w = iI 1 ∧ h' = h ∧ zI h 2 11 = iI (tkW tx n p)) := by
  have k2 := sK2 q.1
  have r8 := q.2.1.2.2.1
  have r11 := q.2.1.2.2.2.2.2
  have hb := tkK_b tx n p
  unfold cN
  by_cases c : tkK tx n p = 2
  · rw [if_pos c]
    obtain ⟨v1, v2⟩ := tkV_W c
    have r11' := r11 c
    rw [v1] at r11'
    have r8' : zI h 2 8 = iI 2 := by rw [r8, c]; rfl
    by_cases c2 : lo ≤ tkW tx n p ∧ tkW tx n p ≤ hi
    · rw [if_pos c2]
      refine CRt.rt (h' := h) (w := iI 1) ?_ Fm.rf ⟨rfl, rfl, r11'⟩
      obtain ⟨c3, c4⟩ := c2
      generalize tkW tx n p = y at *
      unfold fX7_isWhole
      simp (maxSteps := 1000000) (disch := (first | assumption | exact ne_b rfl | omega)) only [↓reduceIte, ↓zlet_eq, ↓bdR_sI, ↓bdR_sJ, ↓bdR_aI, zc2_some, Option.bind_some, ↓si_m1, ↓si_m2, ↓si_m3, iI_lit, iI_add, iI_sub, iI_mul, leT, leF, ltT, ltF, eqT, eqF, zinT, clI, Int.toNat_natCast, Int.reduceToNat, tN1, tNa, tN0, tNm, if_pos, if_neg, zI_sI, zI_sJ, zI_sR, zJ_sI, zJ_sJ, zJ_sR, zR_sI, zR_sJ, zR_sR, zK_sI, zK_sJ, zK_sR, zL_sI, zL_sJ, zL_sR, zI_aI, zJ_aI, zR_aI, zK_aI, zL_aI, z2_at, z2_a, z2_k, z1_self, z1_ne, true_and, and_true, bIt, bIf, Bool.false_eq_true, Bool.true_eq_false, eq_self, not_true_eq_false, not_false_eq_true, k2, r8', r11']
      all_goals rfl
    · rw [if_neg c2]
      obtain ⟨h', f1, f2, f3, f4⟩ := fail_c q 4
      refine CRt.er (h' := h') ?_ f2 f3 f4
      have e30 : jX7_isWhole_30 h 2 h = some (iI 0, h') := by
        unfold jX7_isWhole_30
        refine (zc_of f1 _).trans ?_
        rfl
      generalize tkW tx n p = y at *
      unfold fX7_isWhole
      by_cases c3 : y < lo
      · simp (maxSteps := 1000000) (disch := (first | assumption | exact ne_b rfl | omega)) only [↓reduceIte, ↓zlet_eq, ↓bdR_sI, ↓bdR_sJ, ↓bdR_aI, zc2_some, Option.bind_some, ↓si_m1, ↓si_m2, ↓si_m3, iI_lit, iI_add, iI_sub, iI_mul, leT, leF, ltT, ltF, eqT, eqF, zinT, clI, Int.toNat_natCast, Int.reduceToNat, tN1, tNa, tN0, tNm, if_pos, if_neg, zI_sI, zI_sJ, zI_sR, zJ_sI, zJ_sJ, zJ_sR, zR_sI, zR_sJ, zR_sR, zK_sI, zK_sJ, zK_sR, zL_sI, zL_sJ, zL_sR, zI_aI, zJ_aI, zR_aI, zK_aI, zL_aI, z2_at, z2_a, z2_k, z1_self, z1_ne, true_and, and_true, bIt, bIf, Bool.false_eq_true, Bool.true_eq_false, eq_self, not_true_eq_false, not_false_eq_true, k2, r8', r11', e30]
      · simp (maxSteps := 1000000) (disch := (first | assumption | exact ne_b rfl | omega)) only [↓reduceIte, ↓zlet_eq, ↓bdR_sI, ↓bdR_sJ, ↓bdR_aI, zc2_some, Option.bind_some, ↓si_m1, ↓si_m2, ↓si_m3, iI_lit, iI_add, iI_sub, iI_mul, leT, leF, ltT, ltF, eqT, eqF, zinT, clI, Int.toNat_natCast, Int.reduceToNat, tN1, tNa, tN0, tNm, if_pos, if_neg, zI_sI, zI_sJ, zI_sR, zJ_sI, zJ_sJ, zJ_sR, zR_sI, zR_sJ, zR_sR, zK_sI, zK_sJ, zK_sR, zL_sI, zL_sJ, zL_sR, zI_aI, zJ_aI, zR_aI, zK_aI, zL_aI, z2_at, z2_a, z2_k, z1_self, z1_ne, true_and, and_true, bIt, bIf, Bool.false_eq_true, Bool.true_eq_false, eq_self, not_true_eq_false, not_false_eq_true, k2, r8', r11', e30]
  · rw [if_neg c]
    obtain ⟨h', f1, f2, f3, f4⟩ := fail_c q 1
    refine CRt.er (h' := h') ?_ f2 f3 f4
    have r8' : ¬ zI h 2 8 = (2 : Int32) := by
      rw [r8, show (2 : Int32) = iI 2 from rfl, iI_eq ⟨by omega, by omega⟩ ⟨by decide, by decide⟩]; omega
    unfold fX7_isWhole
    rw [zlet_eq, if_pos k2, if_neg r8']
    refine (zc_of f1 _).trans ?_
    rfl
theorem passWhole_c {h : Zh} {tx : Nat → Int} {n p s lo hi : Nat} (q : RD h tx n p) (hs : s < 25) (hlo : lo < 1000) (hhi : hi < 1000) : CRt (fX7_passWhole 2 s (iI lo) (iI hi) h) h [2] (-1) (pQ tx n s lo hi p) (fun v p' w h' => w = iI v ∧ RD h' tx n p') := by
  have e1 := is_c q hs
  have k2 := sK2 q.1
  unfold pQ pP
  cases e : isw tx n p s
  · rw [e] at e1
    obtain ⟨h', f1, f2, f3, f4⟩ := fail_c q 1
    rw [if_neg (by decide), bn_er]
    refine CRt.er (h' := h') ?_ f2 f3 f4
    unfold fX7_passWhole
    rw [zlet_eq, if_pos k2]
    refine (zc_of e1 _).trans ((if_pos (show iI (bI false) = 0 by decide)).trans ?_)
    refine (zc_of f1 _).trans ?_
    rfl
  · rw [e] at e1
    obtain ⟨h3, f1, f2, f3⟩ := step_c q
    rw [if_pos rfl, bn_rt]
    obtain ⟨w, h4, g1, g2, g3⟩ := isWhole_c (lo := lo) (hi := hi) f3 hlo hhi
    have ee : fX7_passWhole 2 s (iI lo) (iI hi) h = if w = 0 then some ((-1 : Int32), h4) else zlet (zI h4 2 11) fun y7 => (fX7_step 2 h4).bind fun h8 => some (y7, h8) := by
      unfold fX7_passWhole
      rw [zlet_eq, if_pos k2]
      refine (zc_of e1 _).trans ?_
      refine (bd_of f1 _).trans ?_
      exact zc_of g1 _
    rw [ee]
    unfold pN
    rcases g3 with ⟨f, y, z1, z2, z3, z4⟩ | ⟨a, y, z1, z2, z3, z4⟩
    · rw [z1, bn_er]
      refine CRt.er (h' := h4) ?_ (f2.tr g2) z3 z4
      rw [z2, if_pos (by decide)]
      rfl
    · rw [z1, bn_rt]
      subst z3
      obtain ⟨h5, i1, i2, i3⟩ := step_c f3
      have hz : tkW tx n (tkN tx n p) = a ∧ tkN tx n p = y := by
        unfold cN at z1
        by_cases c : tkK tx n (tkN tx n p) = 2
        · rw [if_pos c] at z1
          by_cases c2 : lo ≤ tkW tx n (tkN tx n p) ∧ tkW tx n (tkN tx n p) ≤ hi
          · rw [if_pos c2] at z1; exact rt_in z1
          · rw [if_neg c2] at z1; exact (er_rt z1).elim
        · rw [if_neg c] at z1; exact (er_rt z1).elim
      unfold pS
      rw [← hz.2]
      refine CRt.rt (h' := h5) (w := iI a) ?_ (f2.tr i2) ⟨rfl, i3⟩
      rw [z2, if_neg (by decide), zlet_eq, z4, hz.1]
      exact bd_of i1 _
