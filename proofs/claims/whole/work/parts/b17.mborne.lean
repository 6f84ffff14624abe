/-! the model: rows by which a change is seen, or borne -/
noncomputable def mof (ρ : Nat → Int) (x : Nat) (r : Nat) : Option Int := if (fsw ρ x r).isSome = true then some (r : Int) else none
theorem mof_0 (ρ : Nat → Int) : mof ρ 0 = fun _ => none := by
  funext r
  unfold mof
  rw [fsw_0]
  rfl
theorem mof_neg {ρ : Nat → Int} {x : Nat} (h : ρ x < 0) : mof ρ (x + 1) = mof ρ x := by
  funext r
  unfold mof
  rw [fsw_neg h]
theorem mof_s {ρ : Nat → Int} {x : Nat} (h : 0 ≤ ρ x) : updO (mof ρ x) (ρ x).toNat (ρ x) = mof ρ (x + 1) := by
  have ht : ((ρ x).toNat : Int) = ρ x := Int.toNat_of_nonneg h
  funext r
  unfold updO mof
  rw [fsw_ext]
  by_cases c : r = (ρ x).toNat
  · have c2 : ρ x = (r : Int) := by omega
    rw [if_pos c, if_pos c2]
    cases q : fsw ρ x r with
    | none => rw [← c2]; rfl
    | some v => rw [← c2]; rfl
  · have c2 : ¬ ρ x = (r : Int) := by omega
    rw [if_neg c, if_neg c2]
    cases fsw ρ x r <;> rfl
theorem mof_some {ρ : Nat → Int} {x r : Nat} : (mof ρ x r).isSome = (fsw ρ x r).isSome := by
  unfold mof
  cases fsw ρ x r <;> rfl
theorem ownsLaid_6 {g h0 : Zh} {H : Nat} {ρ : Nat → Int} (sg : St g) (s0 : St h0) (h17 : zI h0 76 17 = iI H) (hH : H ≤ 2000) (hb : ∀ x, x < H → ρ x = -2 ∨ (0 ≤ ρ x ∧ ρ x < 2147483648)) (hρ : ∀ x, x < H → zI h0 84 x = iI (ρ x)) (mo : MO h0 (fun _ => none) 0) : ∃ e x' h' c, lp (fun q : Int32 × Zh => bX12_ownsLaid_6 g 76 q.1 q.2) zB (iI 0, h0) = some (e, (x', h')) ∧ Fm [86, 87] h0 h' ∧ c ≤ H ∧ MO h' (mof ρ H) c := by
  have := lp_cnt (body := fun q : Int32 × Zh => bX12_ownsLaid_6 g 76 q.1 q.2) H (fun x z => ∃ h c, z = ((iI (x : Int), h) : Int32 × Zh) ∧ Fm [86, 87] h0 h ∧ c ≤ x ∧ MO h (mof ρ x) c) (fun e z => Fm [86, 87] h0 z.2 ∧ ∃ c, c ≤ H ∧ MO z.2 (mof ρ H) c) ?_ ?_ (by omega) (s := (iI 0, h0)) ⟨h0, 0, rfl, Fm.rf, Nat.le_refl _, by rw [mof_0]; exact mo⟩
  · obtain ⟨e, z, l1, l2, c, l3, l4⟩ := this
    exact ⟨e + 1, z.1, z.2, c, l1, l2, l3, l4⟩
  · intro x z hx ⟨h, c, ez, fm, k2, k3⟩
    subst ez
    have s1 := s0.fm fm
    have i17 : zI h 76 17 = iI H := by rw [fm.I (by decide)]; exact h17
    have hv : zI h 84 x = iI (ρ x) := by rw [fm.I (by decide)]; exact hρ x hx
    show (∃ s', bX12_ownsLaid_6 g 76 (iI x) h = some (0, s') ∧ _) ∨ (∃ e s', bX12_ownsLaid_6 g 76 (iI x) h = some (e + 1, s') ∧ _)
    rcases hb x hx with hm | ⟨hp, hp2⟩
    · rw [hm] at hv
      refine Or.inl ⟨(iI ((x + 1 : Nat) : Int), h), ?_, h, c, rfl, fm, by omega, by rw [mof_neg (by omega)]; exact k3⟩
      unfold bX12_ownsLaid_6
      simp (maxSteps := 1000000) (disch := (first | assumption | exact ne_b rfl | omega)) only [↓reduceIte, ↓zlet_eq, ↓bdR_sI, ↓bdR_sJ, ↓bdR_aI, zc2_some, Option.bind_some, ↓si_m1, ↓si_m2, ↓si_m3, iI_lit, iI_add, iI_sub, iI_mul, leT, leF, ltT, ltF, eqT, eqF, zinT, clI, Int.toNat_natCast, Int.reduceToNat, tN1, tNa, tN0, tNm, if_pos, if_neg, zI_sI, zI_sJ, zI_sR, zJ_sI, zJ_sJ, zJ_sR, zR_sI, zR_sJ, zR_sR, zK_sI, zK_sJ, zK_sR, zL_sI, zL_sJ, zL_sR, zI_aI, zJ_aI, zR_aI, zK_aI, zL_aI, z2_at, z2_a, z2_k, z1_self, z1_ne, true_and, and_true, bIt, bIf, Bool.false_eq_true, Bool.true_eq_false, eq_self, not_true_eq_false, not_false_eq_true, sK76, sK77, sK78, sK79, sK80, sK81, sK82, sK83, sK84, sK85, sK86, sK87, sK88, sK89, sK90, sK91, sK92, sK93, sK94, sK95, sK96, sK97, sK98, sK99, sK100, sL77, sL78, sL79, sL80, sL81, sL82, sL83, sL84, sL85, sL86, sL87, sL88, sL89, sL90, sL91, sL92, sL93, sL94, sL95, sL96, sL97, sL98, sL99, sL100, sR76_5, sR76_16, sR76_18, sR76_19, sR76_20, sR76_21, sR76_23, sR76_25, sR76_26, sR76_27, sR76_28, sR76_29, sR76_30, sR76_31, sR76_32, sR76_33, sR76_34, sR76_37, sR76_38, sR76_39, sR76_40, sR76_41, sR76_42, ↓sB76_5, ↓sB76_16, ↓sB76_18, ↓sB76_19, ↓sB76_20, ↓sB76_21, ↓sB76_23, ↓sB76_25, ↓sB76_26, ↓sB76_27, ↓sB76_28, ↓sB76_29, ↓sB76_30, ↓sB76_31, ↓sB76_32, ↓sB76_33, ↓sB76_34, ↓sB76_37, ↓sB76_38, ↓sB76_39, ↓sB76_40, ↓sB76_41, ↓sB76_42, i17, hv]
      all_goals rfl
    · have ht : ((ρ x).toNat : Int) = ρ x := Int.toNat_of_nonneg hp
      obtain ⟨h3, c', e1, e2, e3, e4⟩ := fX12_owns_eq (r := (ρ x).toNat) (w := ρ x) s1 k3 (by omega) (Or.inr (by omega))
      rw [mof_s hp] at e4
      rw [ht] at e1
      have hne : ¬ ρ x = -2 := by omega
      refine Or.inl ⟨(iI ((x + 1 : Nat) : Int), h3), ?_, h3, c', rfl, fm.tr e2, by rw [e3]; split <;> omega, e4⟩
      unfold bX12_ownsLaid_6
      simp (maxSteps := 1000000) (disch := (first | assumption | exact ne_b rfl | omega)) only [↓reduceIte, ↓zlet_eq, ↓bdR_sI, ↓bdR_sJ, ↓bdR_aI, zc2_some, Option.bind_some, ↓si_m1, ↓si_m2, ↓si_m3, iI_lit, iI_add, iI_sub, iI_mul, leT, leF, ltT, ltF, eqT, eqF, zinT, clI, Int.toNat_natCast, Int.reduceToNat, tN1, tNa, tN0, tNm, if_pos, if_neg, zI_sI, zI_sJ, zI_sR, zJ_sI, zJ_sJ, zJ_sR, zR_sI, zR_sJ, zR_sR, zK_sI, zK_sJ, zK_sR, zL_sI, zL_sJ, zL_sR, zI_aI, zJ_aI, zR_aI, zK_aI, zL_aI, z2_at, z2_a, z2_k, z1_self, z1_ne, true_and, and_true, bIt, bIf, Bool.false_eq_true, Bool.true_eq_false, eq_self, not_true_eq_false, not_false_eq_true, sK76, sK77, sK78, sK79, sK80, sK81, sK82, sK83, sK84, sK85, sK86, sK87, sK88, sK89, sK90, sK91, sK92, sK93, sK94, sK95, sK96, sK97, sK98, sK99, sK100, sL77, sL78, sL79, sL80, sL81, sL82, sL83, sL84, sL85, sL86, sL87, sL88, sL89, sL90, sL91, sL92, sL93, sL94, sL95, sL96, sL97, sL98, sL99, sL100, sR76_5, sR76_16, sR76_18, sR76_19, sR76_20, sR76_21, sR76_23, sR76_25, sR76_26, sR76_27, sR76_28, sR76_29, sR76_30, sR76_31, sR76_32, sR76_33, sR76_34, sR76_37, sR76_38, sR76_39, sR76_40, sR76_41, sR76_42, ↓sB76_5, ↓sB76_16, ↓sB76_18, ↓sB76_19, ↓sB76_20, ↓sB76_21, ↓sB76_23, ↓sB76_25, ↓sB76_26, ↓sB76_27, ↓sB76_28, ↓sB76_29, ↓sB76_30, ↓sB76_31, ↓sB76_32, ↓sB76_33, ↓sB76_34, ↓sB76_37, ↓sB76_38, ↓sB76_39, ↓sB76_40, ↓sB76_41, ↓sB76_42, i17, hv, ↓bd_of e1]
      all_goals rfl
  · intro z ⟨h, c, ez, fm, k2, k3⟩
    subst ez
    have s1 := s0.fm fm
    have i17 : zI h 76 17 = iI H := by rw [fm.I (by decide)]; exact h17
    refine ⟨0, (iI H, h), ?_, fm, c, k2, k3⟩
    show bX12_ownsLaid_6 g 76 (iI H) h = _
    unfold bX12_ownsLaid_6
    simp (maxSteps := 1000000) (disch := (first | assumption | exact ne_b rfl | omega)) only [↓reduceIte, ↓zlet_eq, ↓bdR_sI, ↓bdR_sJ, ↓bdR_aI, zc2_some, Option.bind_some, ↓si_m1, ↓si_m2, ↓si_m3, iI_lit, iI_add, iI_sub, iI_mul, leT, leF, ltT, ltF, eqT, eqF, zinT, clI, Int.toNat_natCast, Int.reduceToNat, tN1, tNa, tN0, tNm, if_pos, if_neg, zI_sI, zI_sJ, zI_sR, zJ_sI, zJ_sJ, zJ_sR, zR_sI, zR_sJ, zR_sR, zK_sI, zK_sJ, zK_sR, zL_sI, zL_sJ, zL_sR, zI_aI, zJ_aI, zR_aI, zK_aI, zL_aI, z2_at, z2_a, z2_k, z1_self, z1_ne, true_and, and_true, bIt, bIf, Bool.false_eq_true, Bool.true_eq_false, eq_self, not_true_eq_false, not_false_eq_true, sK76, sK77, sK78, sK79, sK80, sK81, sK82, sK83, sK84, sK85, sK86, sK87, sK88, sK89, sK90, sK91, sK92, sK93, sK94, sK95, sK96, sK97, sK98, sK99, sK100, sL77, sL78, sL79, sL80, sL81, sL82, sL83, sL84, sL85, sL86, sL87, sL88, sL89, sL90, sL91, sL92, sL93, sL94, sL95, sL96, sL97, sL98, sL99, sL100, sR76_5, sR76_16, sR76_18, sR76_19, sR76_20, sR76_21, sR76_23, sR76_25, sR76_26, sR76_27, sR76_28, sR76_29, sR76_30, sR76_31, sR76_32, sR76_33, sR76_34, sR76_37, sR76_38, sR76_39, sR76_40, sR76_41, sR76_42, ↓sB76_5, ↓sB76_16, ↓sB76_18, ↓sB76_19, ↓sB76_20, ↓sB76_21, ↓sB76_23, ↓sB76_25, ↓sB76_26, ↓sB76_27, ↓sB76_28, ↓sB76_29, ↓sB76_30, ↓sB76_31, ↓sB76_32, ↓sB76_33, ↓sB76_34, ↓sB76_37, ↓sB76_38, ↓sB76_39, ↓sB76_40, ↓sB76_41, ↓sB76_42, i17]
theorem fX12_ownsLaid_eq {h : Zh} {H : Nat} {ρ : Nat → Int} (s : St h) (h17 : zI h 76 17 = iI H) (hH : H ≤ 2000) (hb : ∀ x, x < H → ρ x = -2 ∨ (0 ≤ ρ x ∧ ρ x < 2147483648)) (hρ : ∀ x, x < H → zI h 84 x = iI (ρ x)) : ∃ h' c, fX12_ownsLaid 76 h = some h' ∧ Fm [86, 87] h h' ∧ c ≤ H ∧ MO h' (mof ρ H) c := by
  obtain ⟨h2, e1, e2, e3⟩ := fX12_clearOwners_eq s
  have s2 := s.fm e2
  obtain ⟨e, x', h', c, l1, l2, l3, l4⟩ := ownsLaid_6 (g := h) s s2 (by rw [e2.I (by decide)]; exact h17) hH hb (fun x hx => by rw [e2.I (by decide)]; exact hρ x hx) e3
  refine ⟨h', c, ?_, (e2.mono (by simp)).tr l2, l3, l4⟩
  unfold fX12_ownsLaid
  simp (maxSteps := 1000000) (disch := (first | assumption | exact ne_b rfl | omega)) only [↓reduceIte, ↓zlet_eq, ↓bdR_sI, ↓bdR_sJ, ↓bdR_aI, zc2_some, Option.bind_some, ↓si_m1, ↓si_m2, ↓si_m3, iI_lit, iI_add, iI_sub, iI_mul, leT, leF, ltT, ltF, eqT, eqF, zinT, clI, Int.toNat_natCast, Int.reduceToNat, tN1, tNa, tN0, tNm, if_pos, if_neg, zI_sI, zI_sJ, zI_sR, zJ_sI, zJ_sJ, zJ_sR, zR_sI, zR_sJ, zR_sR, zK_sI, zK_sJ, zK_sR, zL_sI, zL_sJ, zL_sR, zI_aI, zJ_aI, zR_aI, zK_aI, zL_aI, z2_at, z2_a, z2_k, z1_self, z1_ne, true_and, and_true, bIt, bIf, Bool.false_eq_true, Bool.true_eq_false, eq_self, not_true_eq_false, not_false_eq_true, sK76, sK77, sK78, sK79, sK80, sK81, sK82, sK83, sK84, sK85, sK86, sK87, sK88, sK89, sK90, sK91, sK92, sK93, sK94, sK95, sK96, sK97, sK98, sK99, sK100, sL77, sL78, sL79, sL80, sL81, sL82, sL83, sL84, sL85, sL86, sL87, sL88, sL89, sL90, sL91, sL92, sL93, sL94, sL95, sL96, sL97, sL98, sL99, sL100, sR76_5, sR76_16, sR76_18, sR76_19, sR76_20, sR76_21, sR76_23, sR76_25, sR76_26, sR76_27, sR76_28, sR76_29, sR76_30, sR76_31, sR76_32, sR76_33, sR76_34, sR76_37, sR76_38, sR76_39, sR76_40, sR76_41, sR76_42, ↓sB76_5, ↓sB76_16, ↓sB76_18, ↓sB76_19, ↓sB76_20, ↓sB76_21, ↓sB76_23, ↓sB76_25, ↓sB76_26, ↓sB76_27, ↓sB76_28, ↓sB76_29, ↓sB76_30, ↓sB76_31, ↓sB76_32, ↓sB76_33, ↓sB76_34, ↓sB76_37, ↓sB76_38, ↓sB76_39, ↓sB76_40, ↓sB76_41, ↓sB76_42, ↓bd_of e1, ↓bd_of l1]
  all_goals rfl
/-- whether one becomes a row of the owners -/
theorem seen_12 {g h0 : Zh} {t : Tk} {tr x c : Nat} {f : Nat → Option Int} {v : Int} (tok : Tok t) (sg : St g) (kg : zK g tr = 11) (s0 : St h0) (htr : 101 ≤ tr) (r3 : zR h0 76 3 = some tr) (qt : Tr h0 tr t) (hx : x < 2000) (hv : zI h0 84 x = iI v) (hb : v = -2 ∨ (0 ≤ v ∧ v < 2147483648)) (mo : MO h0 f c) : ∃ e x' h', lp (fun q : Int32 × Zh => bX12_isSeen_12 g 76 (iI x) q.1 q.2) zB (iI 0, h0) = some (e, (x', h')) ∧ Fm [81, 85] h0 h' ∧ ((e = 1 ∧ 0 ≤ v ∧ ∃ i, i + 1 < tsh t ∧ (f (swR t v.toNat i)).isSome = true) ∨ (e = 2 ∧ (0 ≤ v → ∀ i, i + 1 < tsh t → f (swR t v.toNat i) = none))) := by
  obtain ⟨bn4, bn12, bu1, bu4, bnu, bk2, bk5, bkn, bp1, bp2, bpk, bH, bsp, bs1, bs4, bT1, bT16, bR1, bR2, bH1, bff, bff1⟩ := tok.b
  have := lp_cnt (body := fun q : Int32 × Zh => bX12_isSeen_12 g 76 (iI x) q.1 q.2) (tsh t - 1) (fun i z => ∃ h, z = ((iI (i : Int), h) : Int32 × Zh) ∧ Fm [81, 85] h0 h ∧ (0 ≤ v → ∀ j, j < i → f (swR t v.toNat j) = none)) (fun e z => Fm [81, 85] h0 z.2 ∧ ((e = 1 ∧ 0 ≤ v ∧ ∃ i, i + 1 < tsh t ∧ (f (swR t v.toNat i)).isSome = true) ∨ (e = 2 ∧ (0 ≤ v → ∀ i, i + 1 < tsh t → f (swR t v.toNat i) = none)))) ?_ ?_ (by omega) (s := (iI 0, h0)) ⟨h0, rfl, Fm.rf, fun _ j hj => by omega⟩
  · obtain ⟨e, z, l1, l2, l3⟩ := this
    exact ⟨e + 1, z.1, z.2, l1, l2, l3⟩
  · intro i z hi ⟨h, ez, fm, k2⟩
    subst ez
    have s1 := s0.fm fm
    have r31 : zR h 76 3 = some tr := by rw [fm.R]; exact r3
    have q1 : Tr h tr t := qt.fm fm (by simp; omega)
    have hv1 : zI h 84 x = iI v := by rw [fm.I (by decide)]; exact hv
    have hf4 := q1.f4
    show (∃ s', bX12_isSeen_12 g 76 (iI x) (iI i) h = some (0, s') ∧ _) ∨ (∃ e s', bX12_isSeen_12 g 76 (iI x) (iI i) h = some (e + 1, s') ∧ _)
    rcases hb with hm | ⟨hp, hp2⟩
    · rw [hm] at hv1
      refine Or.inl ⟨(iI ((i + 1 : Nat) : Int), h), ?_, h, rfl, fm, fun q => by omega⟩
      unfold bX12_isSeen_12
      simp (maxSteps := 1000000) (disch := (first | assumption | exact ne_b rfl | omega)) only [↓reduceIte, ↓zlet_eq, ↓bdR_sI, ↓bdR_sJ, ↓bdR_aI, zc2_some, Option.bind_some, ↓si_m1, ↓si_m2, ↓si_m3, iI_lit, iI_add, iI_sub, iI_mul, leT, leF, ltT, ltF, eqT, eqF, zinT, clI, Int.toNat_natCast, Int.reduceToNat, tN1, tNa, tN0, tNm, if_pos, if_neg, zI_sI, zI_sJ, zI_sR, zJ_sI, zJ_sJ, zJ_sR, zR_sI, zR_sJ, zR_sR, zK_sI, zK_sJ, zK_sR, zL_sI, zL_sJ, zL_sR, zI_aI, zJ_aI, zR_aI, zK_aI, zL_aI, z2_at, z2_a, z2_k, z1_self, z1_ne, true_and, and_true, bIt, bIf, Bool.false_eq_true, Bool.true_eq_false, eq_self, not_true_eq_false, not_false_eq_true, sK76, sK77, sK78, sK79, sK80, sK81, sK82, sK83, sK84, sK85, sK86, sK87, sK88, sK89, sK90, sK91, sK92, sK93, sK94, sK95, sK96, sK97, sK98, sK99, sK100, sL77, sL78, sL79, sL80, sL81, sL82, sL83, sL84, sL85, sL86, sL87, sL88, sL89, sL90, sL91, sL92, sL93, sL94, sL95, sL96, sL97, sL98, sL99, sL100, sR76_5, sR76_16, sR76_18, sR76_19, sR76_20, sR76_21, sR76_23, sR76_25, sR76_26, sR76_27, sR76_28, sR76_29, sR76_30, sR76_31, sR76_32, sR76_33, sR76_34, sR76_37, sR76_38, sR76_39, sR76_40, sR76_41, sR76_42, ↓sB76_5, ↓sB76_16, ↓sB76_18, ↓sB76_19, ↓sB76_20, ↓sB76_21, ↓sB76_23, ↓sB76_25, ↓sB76_26, ↓sB76_27, ↓sB76_28, ↓sB76_29, ↓sB76_30, ↓sB76_31, ↓sB76_32, ↓sB76_33, ↓sB76_34, ↓sB76_37, ↓sB76_38, ↓sB76_39, ↓sB76_40, ↓sB76_41, ↓sB76_42, ↓bd_of r31, kg, hf4, hv1]
      all_goals rfl
    · have ht : (v.toNat : Int) = v := Int.toNat_of_nonneg hp
      obtain ⟨h2, p1, p2⟩ := fX12_becomes_eq (r := v.toNat) tok s1 htr r31 q1 (show i + 1 < tsh t by omega) (by omega)
      rw [ht] at p1
      have s2 := s1.fm p2
      have fm2 := fm.tr p2
      have mo2 := mo.fm fm2 (by decide) (by decide)
      have hlt := swR_lt tok (r := v.toNat) (show i + 1 < tsh t by omega)
      have e1 := fX12_isOwned_eq (r := swR t v.toNat i) s2 mo2 (by omega)
      have hne : ¬ v = -2 := by omega
      cases q : f (swR t v.toNat i) with
      | none =>
        rw [q] at e1
        have e1' : fX12_isOwned 76 (iI (swR t v.toNat i : Nat)) h2 = some (iI 0, h2) := e1
        refine Or.inl ⟨(iI ((i + 1 : Nat) : Int), h2), ?_, h2, rfl, fm2, fun h0 j hj => ?_⟩
        · unfold bX12_isSeen_12
          simp (maxSteps := 1000000) (disch := (first | assumption | exact ne_b rfl | omega)) only [↓reduceIte, ↓zlet_eq, ↓bdR_sI, ↓bdR_sJ, ↓bdR_aI, zc2_some, Option.bind_some, ↓si_m1, ↓si_m2, ↓si_m3, iI_lit, iI_add, iI_sub, iI_mul, leT, leF, ltT, ltF, eqT, eqF, zinT, clI, Int.toNat_natCast, Int.reduceToNat, tN1, tNa, tN0, tNm, if_pos, if_neg, zI_sI, zI_sJ, zI_sR, zJ_sI, zJ_sJ, zJ_sR, zR_sI, zR_sJ, zR_sR, zK_sI, zK_sJ, zK_sR, zL_sI, zL_sJ, zL_sR, zI_aI, zJ_aI, zR_aI, zK_aI, zL_aI, z2_at, z2_a, z2_k, z1_self, z1_ne, true_and, and_true, bIt, bIf, Bool.false_eq_true, Bool.true_eq_false, eq_self, not_true_eq_false, not_false_eq_true, sK76, sK77, sK78, sK79, sK80, sK81, sK82, sK83, sK84, sK85, sK86, sK87, sK88, sK89, sK90, sK91, sK92, sK93, sK94, sK95, sK96, sK97, sK98, sK99, sK100, sL77, sL78, sL79, sL80, sL81, sL82, sL83, sL84, sL85, sL86, sL87, sL88, sL89, sL90, sL91, sL92, sL93, sL94, sL95, sL96, sL97, sL98, sL99, sL100, sR76_5, sR76_16, sR76_18, sR76_19, sR76_20, sR76_21, sR76_23, sR76_25, sR76_26, sR76_27, sR76_28, sR76_29, sR76_30, sR76_31, sR76_32, sR76_33, sR76_34, sR76_37, sR76_38, sR76_39, sR76_40, sR76_41, sR76_42, ↓sB76_5, ↓sB76_16, ↓sB76_18, ↓sB76_19, ↓sB76_20, ↓sB76_21, ↓sB76_23, ↓sB76_25, ↓sB76_26, ↓sB76_27, ↓sB76_28, ↓sB76_29, ↓sB76_30, ↓sB76_31, ↓sB76_32, ↓sB76_33, ↓sB76_34, ↓sB76_37, ↓sB76_38, ↓sB76_39, ↓sB76_40, ↓sB76_41, ↓sB76_42, ↓bd_of r31, kg, hf4, hv1, ↓zc_of p1, ↓zc_of e1']
          all_goals rfl
        · by_cases c : j = i
          · rw [c]; exact q
          · exact k2 h0 j (by omega)
      | some w =>
        rw [q] at e1
        have e1' : fX12_isOwned 76 (iI (swR t v.toNat i : Nat)) h2 = some (iI 1, h2) := e1
        refine Or.inr ⟨0, (iI i, h2), ?_, fm2, Or.inl ⟨rfl, hp, i, by omega, by rw [q]; rfl⟩⟩
        unfold bX12_isSeen_12
        simp (maxSteps := 1000000) (disch := (first | assumption | exact ne_b rfl | omega)) only [↓reduceIte, ↓zlet_eq, ↓bdR_sI, ↓bdR_sJ, ↓bdR_aI, zc2_some, Option.bind_some, ↓si_m1, ↓si_m2, ↓si_m3, iI_lit, iI_add, iI_sub, iI_mul, leT, leF, ltT, ltF, eqT, eqF, zinT, clI, Int.toNat_natCast, Int.reduceToNat, tN1, tNa, tN0, tNm, if_pos, if_neg, zI_sI, zI_sJ, zI_sR, zJ_sI, zJ_sJ, zJ_sR, zR_sI, zR_sJ, zR_sR, zK_sI, zK_sJ, zK_sR, zL_sI, zL_sJ, zL_sR, zI_aI, zJ_aI, zR_aI, zK_aI, zL_aI, z2_at, z2_a, z2_k, z1_self, z1_ne, true_and, and_true, bIt, bIf, Bool.false_eq_true, Bool.true_eq_false, eq_self, not_true_eq_false, not_false_eq_true, sK76, sK77, sK78, sK79, sK80, sK81, sK82, sK83, sK84, sK85, sK86, sK87, sK88, sK89, sK90, sK91, sK92, sK93, sK94, sK95, sK96, sK97, sK98, sK99, sK100, sL77, sL78, sL79, sL80, sL81, sL82, sL83, sL84, sL85, sL86, sL87, sL88, sL89, sL90, sL91, sL92, sL93, sL94, sL95, sL96, sL97, sL98, sL99, sL100, sR76_5, sR76_16, sR76_18, sR76_19, sR76_20, sR76_21, sR76_23, sR76_25, sR76_26, sR76_27, sR76_28, sR76_29, sR76_30, sR76_31, sR76_32, sR76_33, sR76_34, sR76_37, sR76_38, sR76_39, sR76_40, sR76_41, sR76_42, ↓sB76_5, ↓sB76_16, ↓sB76_18, ↓sB76_19, ↓sB76_20, ↓sB76_21, ↓sB76_23, ↓sB76_25, ↓sB76_26, ↓sB76_27, ↓sB76_28, ↓sB76_29, ↓sB76_30, ↓sB76_31, ↓sB76_32, ↓sB76_33, ↓sB76_34, ↓sB76_37, ↓sB76_38, ↓sB76_39, ↓sB76_40, ↓sB76_41, ↓sB76_42, ↓bd_of r31, kg, hf4, hv1, ↓zc_of p1, ↓zc_of e1']
  · intro z ⟨h, ez, fm, k2⟩
    subst ez
    have s1 := s0.fm fm
    have r31 : zR h 76 3 = some tr := by rw [fm.R]; exact r3
    have hf4 := (qt.fm fm (by simp; omega)).f4
    have ee : ((tsh t - 1 : Nat) : Int) + 1 = tsh t := by omega
    refine ⟨1, (iI ((tsh t - 1 : Nat) : Int), h), ?_, fm, Or.inr ⟨rfl, fun h0 j hj => k2 h0 j (by omega)⟩⟩
    show bX12_isSeen_12 g 76 (iI x) (iI ((tsh t - 1 : Nat) : Int)) h = _
    unfold bX12_isSeen_12
    simp (maxSteps := 1000000) (disch := (first | assumption | exact ne_b rfl | omega)) only [↓reduceIte, ↓zlet_eq, ↓bdR_sI, ↓bdR_sJ, ↓bdR_aI, zc2_some, Option.bind_some, ↓si_m1, ↓si_m2, ↓si_m3, iI_lit, iI_add, iI_sub, iI_mul, leT, leF, ltT, ltF, eqT, eqF, zinT, clI, Int.toNat_natCast, Int.reduceToNat, tN1, tNa, tN0, tNm, if_pos, if_neg, zI_sI, zI_sJ, zI_sR, zJ_sI, zJ_sJ, zJ_sR, zR_sI, zR_sJ, zR_sR, zK_sI, zK_sJ, zK_sR, zL_sI, zL_sJ, zL_sR, zI_aI, zJ_aI, zR_aI, zK_aI, zL_aI, z2_at, z2_a, z2_k, z1_self, z1_ne, true_and, and_true, bIt, bIf, Bool.false_eq_true, Bool.true_eq_false, eq_self, not_true_eq_false, not_false_eq_true, sK76, sK77, sK78, sK79, sK80, sK81, sK82, sK83, sK84, sK85, sK86, sK87, sK88, sK89, sK90, sK91, sK92, sK93, sK94, sK95, sK96, sK97, sK98, sK99, sK100, sL77, sL78, sL79, sL80, sL81, sL82, sL83, sL84, sL85, sL86, sL87, sL88, sL89, sL90, sL91, sL92, sL93, sL94, sL95, sL96, sL97, sL98, sL99, sL100, sR76_5, sR76_16, sR76_18, sR76_19, sR76_20, sR76_21, sR76_23, sR76_25, sR76_26, sR76_27, sR76_28, sR76_29, sR76_30, sR76_31, sR76_32, sR76_33, sR76_34, sR76_37, sR76_38, sR76_39, sR76_40, sR76_41, sR76_42, ↓sB76_5, ↓sB76_16, ↓sB76_18, ↓sB76_19, ↓sB76_20, ↓sB76_21, ↓sB76_23, ↓sB76_25, ↓sB76_26, ↓sB76_27, ↓sB76_28, ↓sB76_29, ↓sB76_30, ↓sB76_31, ↓sB76_32, ↓sB76_33, ↓sB76_34, ↓sB76_37, ↓sB76_38, ↓sB76_39, ↓sB76_40, ↓sB76_41, ↓sB76_42, ↓bd_of r31, kg, hf4, ee]
theorem fX12_isSeen_eq {h : Zh} {t : Tk} {tr c : Nat} {ρ : Nat → Int} (tok : Tok t) (s : St h) (htr : 101 ≤ tr) (r3 : zR h 76 3 = some tr) (qt : Tr h tr t) (h17 : zI h 76 17 = iI (tH t)) (hb : ∀ x, x < tH t → ρ x = -2 ∨ (0 ≤ ρ x ∧ ρ x < 2147483648)) (hρ : ∀ x, x < tH t → zI h 84 x = iI (ρ x)) (mo : MO h (mof ρ (tH t)) c) : ∃ h', fX12_isSeen 76 h = some (iI (bI (snS t ρ)), h') ∧ Fm [81, 85] h h' := by
  obtain ⟨bn4, bn12, bu1, bu4, bnu, bk2, bk5, bkn, bp1, bp2, bpk, bH, bsp, bs1, bs4, bT1, bT16, bR1, bR2, bH1, bff, bff1⟩ := tok.b
  have := lp_cnt (body := fun q : Int32 × Zh => bX12_isSeen_2 h 76 q.1 q.2) (tH t) (fun x z => ∃ h1, z = ((iI (x : Int), h1) : Int32 × Zh) ∧ Fm [81, 85] h h1 ∧ ∀ y, y < x → 0 ≤ ρ y → ∀ j, j + 1 < tsh t → mof ρ (tH t) (swR t (ρ y).toNat j) = none) (fun e z => Fm [81, 85] h z.2 ∧ ((e = 1 ∧ ¬ snP t ρ) ∨ (e = 2 ∧ snP t ρ))) ?_ ?_ (by omega) (s := (iI 0, h)) ⟨h, rfl, Fm.rf, fun y hy => by omega⟩
  · obtain ⟨e, z, l1, l2, l3⟩ := this
    refine ⟨z.2, ?_, l2⟩
    unfold fX12_isSeen
    rw [zlet_eq]
    refine (lp_bd l1).trans ?_
    show kX12_isSeen_2 h (e + 1) z.1 z.2 = _
    unfold kX12_isSeen_2
    rcases l3 with ⟨l3, l4⟩ | ⟨l3, l4⟩
    · rw [if_pos l3, snS_f l4]; rfl
    · rw [if_neg (by omega), snS_t l4]; rfl
  · intro x z hx ⟨h1, ez, fm, k2⟩
    subst ez
    have s1 := s.fm fm
    have r31 : zR h1 76 3 = some tr := by rw [fm.R]; exact r3
    have q1 : Tr h1 tr t := qt.fm fm (by simp; omega)
    have i17 : zI h1 76 17 = iI (tH t) := by rw [fm.I (by decide)]; exact h17
    have hv1 : zI h1 84 x = iI (ρ x) := by rw [fm.I (by decide)]; exact hρ x hx
    obtain ⟨e, x', h', l1, l2, l3⟩ := seen_12 (g := h) (x := x) tok s qt.fK s1 htr r31 q1 (by omega) hv1 (hb x hx) (mo.fm fm (by decide) (by decide))
    have fm' := fm.tr l2
    show (∃ s', bX12_isSeen_2 h 76 (iI x) h1 = some (0, s') ∧ _) ∨ (∃ e s', bX12_isSeen_2 h 76 (iI x) h1 = some (e + 1, s') ∧ _)
    rcases l3 with ⟨l3, hp, j, j1, j2⟩ | ⟨l3, l4⟩
    · subst l3
      refine Or.inr ⟨0, (0, h'), ?_, fm', Or.inl ⟨rfl, fun hs => ?_⟩⟩
      · unfold bX12_isSeen_2 kX12_isSeen_12
        simp (maxSteps := 1000000) (disch := (first | assumption | exact ne_b rfl | omega)) only [↓reduceIte, ↓zlet_eq, ↓bdR_sI, ↓bdR_sJ, ↓bdR_aI, zc2_some, Option.bind_some, ↓si_m1, ↓si_m2, ↓si_m3, iI_lit, iI_add, iI_sub, iI_mul, leT, leF, ltT, ltF, eqT, eqF, zinT, clI, Int.toNat_natCast, Int.reduceToNat, tN1, tNa, tN0, tNm, if_pos, if_neg, zI_sI, zI_sJ, zI_sR, zJ_sI, zJ_sJ, zJ_sR, zR_sI, zR_sJ, zR_sR, zK_sI, zK_sJ, zK_sR, zL_sI, zL_sJ, zL_sR, zI_aI, zJ_aI, zR_aI, zK_aI, zL_aI, z2_at, z2_a, z2_k, z1_self, z1_ne, true_and, and_true, bIt, bIf, Bool.false_eq_true, Bool.true_eq_false, eq_self, not_true_eq_false, not_false_eq_true, sK76, sK77, sK78, sK79, sK80, sK81, sK82, sK83, sK84, sK85, sK86, sK87, sK88, sK89, sK90, sK91, sK92, sK93, sK94, sK95, sK96, sK97, sK98, sK99, sK100, sL77, sL78, sL79, sL80, sL81, sL82, sL83, sL84, sL85, sL86, sL87, sL88, sL89, sL90, sL91, sL92, sL93, sL94, sL95, sL96, sL97, sL98, sL99, sL100, sR76_5, sR76_16, sR76_18, sR76_19, sR76_20, sR76_21, sR76_23, sR76_25, sR76_26, sR76_27, sR76_28, sR76_29, sR76_30, sR76_31, sR76_32, sR76_33, sR76_34, sR76_37, sR76_38, sR76_39, sR76_40, sR76_41, sR76_42, ↓sB76_5, ↓sB76_16, ↓sB76_18, ↓sB76_19, ↓sB76_20, ↓sB76_21, ↓sB76_23, ↓sB76_25, ↓sB76_26, ↓sB76_27, ↓sB76_28, ↓sB76_29, ↓sB76_30, ↓sB76_31, ↓sB76_32, ↓sB76_33, ↓sB76_34, ↓sB76_37, ↓sB76_38, ↓sB76_39, ↓sB76_40, ↓sB76_41, ↓sB76_42, i17, ↓bd_of l1]
      · rw [mof_some] at j2
        obtain ⟨y, y1, y2⟩ := fsw_some.mp j2
        exact hs x hx hp j j1 y y1 y2
    · subst l3
      refine Or.inl ⟨(iI ((x + 1 : Nat) : Int), h'), ?_, h', rfl, fm', fun y hy h0 j hj => ?_⟩
      · unfold bX12_isSeen_2 kX12_isSeen_12
        simp (maxSteps := 1000000) (disch := (first | assumption | exact ne_b rfl | omega)) only [↓reduceIte, ↓zlet_eq, ↓bdR_sI, ↓bdR_sJ, ↓bdR_aI, zc2_some, Option.bind_some, ↓si_m1, ↓si_m2, ↓si_m3, iI_lit, iI_add, iI_sub, iI_mul, leT, leF, ltT, ltF, eqT, eqF, zinT, clI, Int.toNat_natCast, Int.reduceToNat, tN1, tNa, tN0, tNm, if_pos, if_neg, zI_sI, zI_sJ, zI_sR, zJ_sI, zJ_sJ, zJ_sR, zR_sI, zR_sJ, zR_sR, zK_sI, zK_sJ, zK_sR, zL_sI, zL_sJ, zL_sR, zI_aI, zJ_aI, zR_aI, zK_aI, zL_aI, z2_at, z2_a, z2_k, z1_self, z1_ne, true_and, and_true, bIt, bIf, Bool.false_eq_true, Bool.true_eq_false, eq_self, not_true_eq_false, not_false_eq_true, sK76, sK77, sK78, sK79, sK80, sK81, sK82, sK83, sK84, sK85, sK86, sK87, sK88, sK89, sK90, sK91, sK92, sK93, sK94, sK95, sK96, sK97, sK98, sK99, sK100, sL77, sL78, sL79, sL80, sL81, sL82, sL83, sL84, sL85, sL86, sL87, sL88, sL89, sL90, sL91, sL92, sL93, sL94, sL95, sL96, sL97, sL98, sL99, sL100, sR76_5, sR76_16, sR76_18, sR76_19, sR76_20, sR76_21, sR76_23, sR76_25, sR76_26, sR76_27, sR76_28, sR76_29, sR76_30, sR76_31, sR76_32, sR76_33, sR76_34, sR76_37, sR76_38, sR76_39, sR76_40, sR76_41, sR76_42, ↓sB76_5, ↓sB76_16, ↓sB76_18, ↓sB76_19, ↓sB76_20, ↓sB76_21, ↓sB76_23, ↓sB76_25, ↓sB76_26, ↓sB76_27, ↓sB76_28, ↓sB76_29, ↓sB76_30, ↓sB76_31, ↓sB76_32, ↓sB76_33, ↓sB76_34, ↓sB76_37, ↓sB76_38, ↓sB76_39, ↓sB76_40, ↓sB76_41, ↓sB76_42, i17, ↓bd_of l1]
        all_goals rfl
      · by_cases c2 : y = x
        · rw [c2] at h0 ⊢; exact l4 h0 j hj
        · exact k2 y (by omega) h0 j hj
  · intro z ⟨h1, ez, fm, k2⟩
    subst ez
    have s1 := s.fm fm
    have i17 : zI h1 76 17 = iI (tH t) := by rw [fm.I (by decide)]; exact h17
    refine ⟨1, (iI (tH t), h1), ?_, fm, Or.inr ⟨rfl, fun x hx h0 j hj y hy e => ?_⟩⟩
    · show bX12_isSeen_2 h 76 (iI (tH t)) h1 = _
      unfold bX12_isSeen_2
      simp (maxSteps := 1000000) (disch := (first | assumption | exact ne_b rfl | omega)) only [↓reduceIte, ↓zlet_eq, ↓bdR_sI, ↓bdR_sJ, ↓bdR_aI, zc2_some, Option.bind_some, ↓si_m1, ↓si_m2, ↓si_m3, iI_lit, iI_add, iI_sub, iI_mul, leT, leF, ltT, ltF, eqT, eqF, zinT, clI, Int.toNat_natCast, Int.reduceToNat, tN1, tNa, tN0, tNm, if_pos, if_neg, zI_sI, zI_sJ, zI_sR, zJ_sI, zJ_sJ, zJ_sR, zR_sI, zR_sJ, zR_sR, zK_sI, zK_sJ, zK_sR, zL_sI, zL_sJ, zL_sR, zI_aI, zJ_aI, zR_aI, zK_aI, zL_aI, z2_at, z2_a, z2_k, z1_self, z1_ne, true_and, and_true, bIt, bIf, Bool.false_eq_true, Bool.true_eq_false, eq_self, not_true_eq_false, not_false_eq_true, sK76, sK77, sK78, sK79, sK80, sK81, sK82, sK83, sK84, sK85, sK86, sK87, sK88, sK89, sK90, sK91, sK92, sK93, sK94, sK95, sK96, sK97, sK98, sK99, sK100, sL77, sL78, sL79, sL80, sL81, sL82, sL83, sL84, sL85, sL86, sL87, sL88, sL89, sL90, sL91, sL92, sL93, sL94, sL95, sL96, sL97, sL98, sL99, sL100, sR76_5, sR76_16, sR76_18, sR76_19, sR76_20, sR76_21, sR76_23, sR76_25, sR76_26, sR76_27, sR76_28, sR76_29, sR76_30, sR76_31, sR76_32, sR76_33, sR76_34, sR76_37, sR76_38, sR76_39, sR76_40, sR76_41, sR76_42, ↓sB76_5, ↓sB76_16, ↓sB76_18, ↓sB76_19, ↓sB76_20, ↓sB76_21, ↓sB76_23, ↓sB76_25, ↓sB76_26, ↓sB76_27, ↓sB76_28, ↓sB76_29, ↓sB76_30, ↓sB76_31, ↓sB76_32, ↓sB76_33, ↓sB76_34, ↓sB76_37, ↓sB76_38, ↓sB76_39, ↓sB76_40, ↓sB76_41, ↓sB76_42, i17]
    · have := k2 x hx h0 j hj
      have h3 := fsw_some.mpr ⟨y, hy, e⟩
      rw [← mof_some, this] at h3
      cases h3
