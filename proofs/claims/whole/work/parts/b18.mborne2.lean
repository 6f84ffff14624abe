/-! the model: changes borne; hands apart -/
theorem borne_12 {g h0 : Zh} {t : Tk} {tr x c0 : Nat} {ρ : Nat → Int} {f0 : Nat → Option Int} (tok : Tok t) (sg : St g) (kg : zK g tr = 11) (s0 : St h0) (htr : 101 ≤ tr) (r3 : zR h0 76 3 = some tr) (qt : Tr h0 tr t) (hx : x < tH t) (hv : zI h0 84 x = iI (ρ x)) (hb : ρ x = -2 ∨ (0 ≤ ρ x ∧ ρ x < 2147483648)) (mo : MO h0 f0 c0) (mb : MBI t ρ f0 x 0) (hc0 : c0 + 4 < 32768) : ∃ e x' h', lp (fun q : Int32 × Zh => bX12_isBorne_12 g 76 (iI x) q.1 q.2) zB (iI 0, h0) = some (e, (x', h')) ∧ Fm [81, 85, 86, 87] h0 h' ∧ ((e = 1 ∧ ¬ (snP t ρ ∧ boP t ρ)) ∨ (e = 2 ∧ ∃ f c, MBI t ρ f (x + 1) 0 ∧ MO h' f c ∧ c ≤ c0 + 3)) := by
  obtain ⟨bn4, bn12, bu1, bu4, bnu, bk2, bk5, bkn, bp1, bp2, bpk, bH, bsp, bs1, bs4, bT1, bT16, bR1, bR2, bH1, bff, bff1⟩ := tok.b
  have := lp_cnt (body := fun q : Int32 × Zh => bX12_isBorne_12 g 76 (iI x) q.1 q.2) (tsh t - 1) (fun i z => ∃ h f c, z = ((iI (i : Int), h) : Int32 × Zh) ∧ Fm [81, 85, 86, 87] h0 h ∧ MBI t ρ f x i ∧ MO h f c ∧ c ≤ c0 + i) (fun e z => Fm [81, 85, 86, 87] h0 z.2 ∧ ((e = 1 ∧ ¬ (snP t ρ ∧ boP t ρ)) ∨ (e = 2 ∧ ∃ f c, MBI t ρ f (x + 1) 0 ∧ MO z.2 f c ∧ c ≤ c0 + 3))) ?_ ?_ (by omega) (s := (iI 0, h0)) ⟨h0, f0, c0, rfl, Fm.rf, mb, mo, Nat.le_refl _⟩
  · obtain ⟨e, z, l1, l2, l3⟩ := this
    exact ⟨e + 1, z.1, z.2, l1, l2, l3⟩
  · intro i z hi ⟨h, f, c, ez, fm, k2, k3, k4⟩
    subst ez
    have s1 := s0.fm fm
    have r31 : zR h 76 3 = some tr := by rw [fm.R]; exact r3
    have q1 : Tr h tr t := qt.fm fm (by simp; omega)
    have hv1 : zI h 84 x = iI (ρ x) := by rw [fm.I (by decide)]; exact hv
    have hf4 := q1.f4
    show (∃ s', bX12_isBorne_12 g 76 (iI x) (iI i) h = some (0, s') ∧ _) ∨ (∃ e s', bX12_isBorne_12 g 76 (iI x) (iI i) h = some (e + 1, s') ∧ _)
    rcases hb with hm | ⟨hp, hp2⟩
    · rw [hm] at hv1
      refine Or.inr ⟨1, (iI i, h), ?_, fm, Or.inr ⟨rfl, f, c, k2.next (Or.inl (by omega)) (by omega), k3, by omega⟩⟩
      unfold bX12_isBorne_12
      simp (maxSteps := 1000000) (disch := (first | assumption | exact ne_b rfl | omega)) only [↓reduceIte, ↓zlet_eq, ↓bdR_sI, ↓bdR_sJ, ↓bdR_aI, zc2_some, Option.bind_some, ↓si_m1, ↓si_m2, ↓si_m3, iI_lit, iI_add, iI_sub, iI_mul, leT, leF, ltT, ltF, eqT, eqF, zinT, clI, Int.toNat_natCast, Int.reduceToNat, tN1, tNa, tN0, tNm, if_pos, if_neg, zI_sI, zI_sJ, zI_sR, zJ_sI, zJ_sJ, zJ_sR, zR_sI, zR_sJ, zR_sR, zK_sI, zK_sJ, zK_sR, zL_sI, zL_sJ, zL_sR, zI_aI, zJ_aI, zR_aI, zK_aI, zL_aI, z2_at, z2_a, z2_k, z1_self, z1_ne, true_and, and_true, bIt, bIf, Bool.false_eq_true, Bool.true_eq_false, eq_self, not_true_eq_false, not_false_eq_true, sK76, sK77, sK78, sK79, sK80, sK81, sK82, sK83, sK84, sK85, sK86, sK87, sK88, sK89, sK90, sK91, sK92, sK93, sK94, sK95, sK96, sK97, sK98, sK99, sK100, sL77, sL78, sL79, sL80, sL81, sL82, sL83, sL84, sL85, sL86, sL87, sL88, sL89, sL90, sL91, sL92, sL93, sL94, sL95, sL96, sL97, sL98, sL99, sL100, sR76_5, sR76_16, sR76_18, sR76_19, sR76_20, sR76_21, sR76_23, sR76_25, sR76_26, sR76_27, sR76_28, sR76_29, sR76_30, sR76_31, sR76_32, sR76_33, sR76_34, sR76_37, sR76_38, sR76_39, sR76_40, sR76_41, sR76_42, ↓sB76_5, ↓sB76_16, ↓sB76_18, ↓sB76_19, ↓sB76_20, ↓sB76_21, ↓sB76_23, ↓sB76_25, ↓sB76_26, ↓sB76_27, ↓sB76_28, ↓sB76_29, ↓sB76_30, ↓sB76_31, ↓sB76_32, ↓sB76_33, ↓sB76_34, ↓sB76_37, ↓sB76_38, ↓sB76_39, ↓sB76_40, ↓sB76_41, ↓sB76_42, ↓bd_of r31, kg, hf4, hv1]
    · have ht : ((ρ x).toNat : Int) = ρ x := Int.toNat_of_nonneg hp
      obtain ⟨h2, p1, p2⟩ := fX12_becomes_eq (r := (ρ x).toNat) tok s1 htr r31 q1 (show i + 1 < tsh t by omega) (by omega)
      rw [ht] at p1
      have s2 := s1.fm p2
      have mo2 := k3.fm p2 (by decide) (by decide)
      have hlt := swR_lt tok (r := (ρ x).toNat) (show i + 1 < tsh t by omega)
      have e1 := fX12_ownerOf_eq (r := swR t (ρ x).toNat i) s2 mo2 (by omega)
      obtain ⟨h3, c', o1, o2, o3, o4⟩ := fX12_owns_eq (r := swR t (ρ x).toNat i) (w := ρ x) s2 mo2 (by omega) (Or.inr (by omega))
      have fm3 : Fm [81, 85, 86, 87] h0 h3 := (fm.tr (p2.mono (by simp))).tr (o2.mono (by simp))
      have fm2 : Fm [81, 85, 86, 87] h0 h2 := fm.tr (p2.mono (by simp))
      have hv2 : zI h2 84 x = iI (ρ x) := by rw [p2.I (by decide)]; exact hv1
      have hne : ¬ ρ x = -2 := by omega
      have hc' : c' ≤ c0 + (i + 1) := by rw [o3]; split <;> omega
      cases q : f (swR t (ρ x).toNat i) with
      | none =>
        rw [q] at e1
        have e1' : fX12_ownerOf 76 (iI (swR t (ρ x).toNat i : Nat)) h2 = some (iI (-1), h2) := e1
        refine Or.inl ⟨(iI ((i + 1 : Nat) : Int), h3), ?_, h3, _, c', rfl, fm3, k2.step (by omega) hp hp2 (Or.inl q), o4, hc'⟩
        unfold bX12_isBorne_12
        simp (maxSteps := 1000000) (disch := (first | assumption | exact ne_b rfl | omega)) only [↓reduceIte, ↓zlet_eq, ↓bdR_sI, ↓bdR_sJ, ↓bdR_aI, zc2_some, Option.bind_some, ↓si_m1, ↓si_m2, ↓si_m3, iI_lit, iI_add, iI_sub, iI_mul, leT, leF, ltT, ltF, eqT, eqF, zinT, clI, Int.toNat_natCast, Int.reduceToNat, tN1, tNa, tN0, tNm, if_pos, if_neg, zI_sI, zI_sJ, zI_sR, zJ_sI, zJ_sJ, zJ_sR, zR_sI, zR_sJ, zR_sR, zK_sI, zK_sJ, zK_sR, zL_sI, zL_sJ, zL_sR, zI_aI, zJ_aI, zR_aI, zK_aI, zL_aI, z2_at, z2_a, z2_k, z1_self, z1_ne, true_and, and_true, bIt, bIf, Bool.false_eq_true, Bool.true_eq_false, eq_self, not_true_eq_false, not_false_eq_true, sK76, sK77, sK78, sK79, sK80, sK81, sK82, sK83, sK84, sK85, sK86, sK87, sK88, sK89, sK90, sK91, sK92, sK93, sK94, sK95, sK96, sK97, sK98, sK99, sK100, sL77, sL78, sL79, sL80, sL81, sL82, sL83, sL84, sL85, sL86, sL87, sL88, sL89, sL90, sL91, sL92, sL93, sL94, sL95, sL96, sL97, sL98, sL99, sL100, sR76_5, sR76_16, sR76_18, sR76_19, sR76_20, sR76_21, sR76_23, sR76_25, sR76_26, sR76_27, sR76_28, sR76_29, sR76_30, sR76_31, sR76_32, sR76_33, sR76_34, sR76_37, sR76_38, sR76_39, sR76_40, sR76_41, sR76_42, ↓sB76_5, ↓sB76_16, ↓sB76_18, ↓sB76_19, ↓sB76_20, ↓sB76_21, ↓sB76_23, ↓sB76_25, ↓sB76_26, ↓sB76_27, ↓sB76_28, ↓sB76_29, ↓sB76_30, ↓sB76_31, ↓sB76_32, ↓sB76_33, ↓sB76_34, ↓sB76_37, ↓sB76_38, ↓sB76_39, ↓sB76_40, ↓sB76_41, ↓sB76_42, ↓bd_of r31, kg, hf4, hv1, hv2, ↓zc_of p1, ↓zc_of e1', ↓bd_of o1]
        all_goals rfl
      | some w =>
        have hw := k2.2.2 _ _ q
        rw [q] at e1
        have e1' : fX12_ownerOf 76 (iI (swR t (ρ x).toNat i : Nat)) h2 = some (iI w, h2) := e1
        have hw1 : ¬ w = -1 := by omega
        by_cases cw : w = ρ x
        · refine Or.inl ⟨(iI ((i + 1 : Nat) : Int), h3), ?_, h3, _, c', rfl, fm3, k2.step (by omega) hp hp2 (Or.inr (by rw [q, cw])), o4, hc'⟩
          unfold bX12_isBorne_12
          simp (maxSteps := 1000000) (disch := (first | assumption | exact ne_b rfl | omega)) only [↓reduceIte, ↓zlet_eq, ↓bdR_sI, ↓bdR_sJ, ↓bdR_aI, zc2_some, Option.bind_some, ↓si_m1, ↓si_m2, ↓si_m3, iI_lit, iI_add, iI_sub, iI_mul, leT, leF, ltT, ltF, eqT, eqF, zinT, clI, Int.toNat_natCast, Int.reduceToNat, tN1, tNa, tN0, tNm, if_pos, if_neg, zI_sI, zI_sJ, zI_sR, zJ_sI, zJ_sJ, zJ_sR, zR_sI, zR_sJ, zR_sR, zK_sI, zK_sJ, zK_sR, zL_sI, zL_sJ, zL_sR, zI_aI, zJ_aI, zR_aI, zK_aI, zL_aI, z2_at, z2_a, z2_k, z1_self, z1_ne, true_and, and_true, bIt, bIf, Bool.false_eq_true, Bool.true_eq_false, eq_self, not_true_eq_false, not_false_eq_true, sK76, sK77, sK78, sK79, sK80, sK81, sK82, sK83, sK84, sK85, sK86, sK87, sK88, sK89, sK90, sK91, sK92, sK93, sK94, sK95, sK96, sK97, sK98, sK99, sK100, sL77, sL78, sL79, sL80, sL81, sL82, sL83, sL84, sL85, sL86, sL87, sL88, sL89, sL90, sL91, sL92, sL93, sL94, sL95, sL96, sL97, sL98, sL99, sL100, sR76_5, sR76_16, sR76_18, sR76_19, sR76_20, sR76_21, sR76_23, sR76_25, sR76_26, sR76_27, sR76_28, sR76_29, sR76_30, sR76_31, sR76_32, sR76_33, sR76_34, sR76_37, sR76_38, sR76_39, sR76_40, sR76_41, sR76_42, ↓sB76_5, ↓sB76_16, ↓sB76_18, ↓sB76_19, ↓sB76_20, ↓sB76_21, ↓sB76_23, ↓sB76_25, ↓sB76_26, ↓sB76_27, ↓sB76_28, ↓sB76_29, ↓sB76_30, ↓sB76_31, ↓sB76_32, ↓sB76_33, ↓sB76_34, ↓sB76_37, ↓sB76_38, ↓sB76_39, ↓sB76_40, ↓sB76_41, ↓sB76_42, ↓bd_of r31, kg, hf4, hv1, hv2, ↓zc_of p1, ↓zc_of e1', ↓bd_of o1]
          all_goals rfl
        · refine Or.inr ⟨0, (iI i, h2), ?_, fm2, Or.inl ⟨rfl, k2.bad (by omega) hp hx q cw⟩⟩
          unfold bX12_isBorne_12
          simp (maxSteps := 1000000) (disch := (first | assumption | exact ne_b rfl | omega)) only [↓reduceIte, ↓zlet_eq, ↓bdR_sI, ↓bdR_sJ, ↓bdR_aI, zc2_some, Option.bind_some, ↓si_m1, ↓si_m2, ↓si_m3, iI_lit, iI_add, iI_sub, iI_mul, leT, leF, ltT, ltF, eqT, eqF, zinT, clI, Int.toNat_natCast, Int.reduceToNat, tN1, tNa, tN0, tNm, if_pos, if_neg, zI_sI, zI_sJ, zI_sR, zJ_sI, zJ_sJ, zJ_sR, zR_sI, zR_sJ, zR_sR, zK_sI, zK_sJ, zK_sR, zL_sI, zL_sJ, zL_sR, zI_aI, zJ_aI, zR_aI, zK_aI, zL_aI, z2_at, z2_a, z2_k, z1_self, z1_ne, true_and, and_true, bIt, bIf, Bool.false_eq_true, Bool.true_eq_false, eq_self, not_true_eq_false, not_false_eq_true, sK76, sK77, sK78, sK79, sK80, sK81, sK82, sK83, sK84, sK85, sK86, sK87, sK88, sK89, sK90, sK91, sK92, sK93, sK94, sK95, sK96, sK97, sK98, sK99, sK100, sL77, sL78, sL79, sL80, sL81, sL82, sL83, sL84, sL85, sL86, sL87, sL88, sL89, sL90, sL91, sL92, sL93, sL94, sL95, sL96, sL97, sL98, sL99, sL100, sR76_5, sR76_16, sR76_18, sR76_19, sR76_20, sR76_21, sR76_23, sR76_25, sR76_26, sR76_27, sR76_28, sR76_29, sR76_30, sR76_31, sR76_32, sR76_33, sR76_34, sR76_37, sR76_38, sR76_39, sR76_40, sR76_41, sR76_42, ↓sB76_5, ↓sB76_16, ↓sB76_18, ↓sB76_19, ↓sB76_20, ↓sB76_21, ↓sB76_23, ↓sB76_25, ↓sB76_26, ↓sB76_27, ↓sB76_28, ↓sB76_29, ↓sB76_30, ↓sB76_31, ↓sB76_32, ↓sB76_33, ↓sB76_34, ↓sB76_37, ↓sB76_38, ↓sB76_39, ↓sB76_40, ↓sB76_41, ↓sB76_42, ↓bd_of r31, kg, hf4, hv1, hv2, ↓zc_of p1, ↓zc_of e1']
  · intro z ⟨h, f, c, ez, fm, k2, k3, k4⟩
    subst ez
    have s1 := s0.fm fm
    have r31 : zR h 76 3 = some tr := by rw [fm.R]; exact r3
    have hf4 := (qt.fm fm (by simp; omega)).f4
    have ee : ((tsh t - 1 : Nat) : Int) + 1 = tsh t := by omega
    refine ⟨1, (iI ((tsh t - 1 : Nat) : Int), h), ?_, fm, Or.inr ⟨rfl, f, c, k2.next (Or.inr (by omega)) (Or.inl (by omega)), k3, by omega⟩⟩
    show bX12_isBorne_12 g 76 (iI x) (iI ((tsh t - 1 : Nat) : Int)) h = _
    unfold bX12_isBorne_12
    simp (maxSteps := 1000000) (disch := (first | assumption | exact ne_b rfl | omega)) only [↓reduceIte, ↓zlet_eq, ↓bdR_sI, ↓bdR_sJ, ↓bdR_aI, zc2_some, Option.bind_some, ↓si_m1, ↓si_m2, ↓si_m3, iI_lit, iI_add, iI_sub, iI_mul, leT, leF, ltT, ltF, eqT, eqF, zinT, clI, Int.toNat_natCast, Int.reduceToNat, tN1, tNa, tN0, tNm, if_pos, if_neg, zI_sI, zI_sJ, zI_sR, zJ_sI, zJ_sJ, zJ_sR, zR_sI, zR_sJ, zR_sR, zK_sI, zK_sJ, zK_sR, zL_sI, zL_sJ, zL_sR, zI_aI, zJ_aI, zR_aI, zK_aI, zL_aI, z2_at, z2_a, z2_k, z1_self, z1_ne, true_and, and_true, bIt, bIf, Bool.false_eq_true, Bool.true_eq_false, eq_self, not_true_eq_false, not_false_eq_true, sK76, sK77, sK78, sK79, sK80, sK81, sK82, sK83, sK84, sK85, sK86, sK87, sK88, sK89, sK90, sK91, sK92, sK93, sK94, sK95, sK96, sK97, sK98, sK99, sK100, sL77, sL78, sL79, sL80, sL81, sL82, sL83, sL84, sL85, sL86, sL87, sL88, sL89, sL90, sL91, sL92, sL93, sL94, sL95, sL96, sL97, sL98, sL99, sL100, sR76_5, sR76_16, sR76_18, sR76_19, sR76_20, sR76_21, sR76_23, sR76_25, sR76_26, sR76_27, sR76_28, sR76_29, sR76_30, sR76_31, sR76_32, sR76_33, sR76_34, sR76_37, sR76_38, sR76_39, sR76_40, sR76_41, sR76_42, ↓sB76_5, ↓sB76_16, ↓sB76_18, ↓sB76_19, ↓sB76_20, ↓sB76_21, ↓sB76_23, ↓sB76_25, ↓sB76_26, ↓sB76_27, ↓sB76_28, ↓sB76_29, ↓sB76_30, ↓sB76_31, ↓sB76_32, ↓sB76_33, ↓sB76_34, ↓sB76_37, ↓sB76_38, ↓sB76_39, ↓sB76_40, ↓sB76_41, ↓sB76_42, ↓bd_of r31, kg, hf4, ee]
theorem fX12_isBorne_eq {h : Zh} {t : Tk} {tr c0 : Nat} {ρ : Nat → Int} (tok : Tok t) (s : St h) (htr : 101 ≤ tr) (r3 : zR h 76 3 = some tr) (qt : Tr h tr t) (h17 : zI h 76 17 = iI (tH t)) (hb : ∀ x, x < tH t → ρ x = -2 ∨ (0 ≤ ρ x ∧ ρ x < 2147483648)) (hρ : ∀ x, x < tH t → zI h 84 x = iI (ρ x)) (mo : MO h (mof ρ (tH t)) c0) (hc0 : c0 ≤ tH t) (hsn : snP t ρ) : ∃ h', fX12_isBorne 76 h = some (iI (bI (boS t ρ)), h') ∧ Fm [81, 85, 86, 87] h h' := by
  obtain ⟨bn4, bn12, bu1, bu4, bnu, bk2, bk5, bkn, bp1, bp2, bpk, bH, bsp, bs1, bs4, bT1, bT16, bR1, bR2, bH1, bff, bff1⟩ := tok.b
  have m0 : MBI t ρ (mof ρ (tH t)) 0 0 := ⟨fun r q => Or.inl (fsw_some.mp (by rw [← mof_some]; exact q)), fun y j h1 => by obtain ⟨_, _, q⟩ := h1; omega, fun r v q => by
    have q2 : (fsw ρ (tH t) r).isSome = true := by rw [← mof_some, q]; rfl
    obtain ⟨y, hy, e⟩ := fsw_some.mp q2
    unfold mof at q
    rw [if_pos q2] at q
    have := Option.some.inj q
    have h2 := hb y hy
    omega⟩
  have := lp_cnt (body := fun q : Int32 × Zh => bX12_isBorne_2 h 76 q.1 q.2) (tH t) (fun x z => ∃ h1 f c, z = ((iI (x : Int), h1) : Int32 × Zh) ∧ Fm [81, 85, 86, 87] h h1 ∧ MBI t ρ f x 0 ∧ MO h1 f c ∧ c ≤ tH t + 3 * x) (fun e z => Fm [81, 85, 86, 87] h z.2 ∧ ((e = 1 ∧ ¬ (snP t ρ ∧ boP t ρ)) ∨ (e = 2 ∧ boP t ρ))) ?_ ?_ (by omega) (s := (iI 0, h)) ⟨h, _, c0, rfl, Fm.rf, m0, mo, by omega⟩
  · obtain ⟨e, z, l1, l2, l3⟩ := this
    refine ⟨z.2, ?_, l2⟩
    unfold fX12_isBorne
    rw [zlet_eq]
    refine (lp_bd l1).trans ?_
    show kX12_isBorne_2 h (e + 1) z.1 z.2 = _
    unfold kX12_isBorne_2
    rcases l3 with ⟨l3, l4⟩ | ⟨l3, l4⟩
    · rw [if_pos l3, boS_f l4]; rfl
    · rw [if_neg (by omega), boS_t ⟨hsn, l4⟩]; rfl
  · intro x z hx ⟨h1, f, c, ez, fm, k2, k3, k4⟩
    subst ez
    have s1 := s.fm fm
    have r31 : zR h1 76 3 = some tr := by rw [fm.R]; exact r3
    have q1 : Tr h1 tr t := qt.fm fm (by simp; omega)
    have i17 : zI h1 76 17 = iI (tH t) := by rw [fm.I (by decide)]; exact h17
    have hv1 : zI h1 84 x = iI (ρ x) := by rw [fm.I (by decide)]; exact hρ x hx
    obtain ⟨e, x', h', l1, l2, l3⟩ := borne_12 (g := h) tok s qt.fK s1 htr r31 q1 hx hv1 (hb x hx) k3 k2 (by omega)
    have fm' := fm.tr l2
    show (∃ s', bX12_isBorne_2 h 76 (iI x) h1 = some (0, s') ∧ _) ∨ (∃ e s', bX12_isBorne_2 h 76 (iI x) h1 = some (e + 1, s') ∧ _)
    rcases l3 with ⟨l3, l4⟩ | ⟨l3, f', c', l4, l5, l6⟩
    · subst l3
      refine Or.inr ⟨0, (0, h'), ?_, fm', Or.inl ⟨rfl, l4⟩⟩
      unfold bX12_isBorne_2 kX12_isBorne_12
      simp (maxSteps := 1000000) (disch := (first | assumption | exact ne_b rfl | omega)) only [↓reduceIte, ↓zlet_eq, ↓bdR_sI, ↓bdR_sJ, ↓bdR_aI, zc2_some, Option.bind_some, ↓si_m1, ↓si_m2, ↓si_m3, iI_lit, iI_add, iI_sub, iI_mul, leT, leF, ltT, ltF, eqT, eqF, zinT, clI, Int.toNat_natCast, Int.reduceToNat, tN1, tNa, tN0, tNm, if_pos, if_neg, zI_sI, zI_sJ, zI_sR, zJ_sI, zJ_sJ, zJ_sR, zR_sI, zR_sJ, zR_sR, zK_sI, zK_sJ, zK_sR, zL_sI, zL_sJ, zL_sR, zI_aI, zJ_aI, zR_aI, zK_aI, zL_aI, z2_at, z2_a, z2_k, z1_self, z1_ne, true_and, and_true, bIt, bIf, Bool.false_eq_true, Bool.true_eq_false, eq_self, not_true_eq_false, not_false_eq_true, sK76, sK77, sK78, sK79, sK80, sK81, sK82, sK83, sK84, sK85, sK86, sK87, sK88, sK89, sK90, sK91, sK92, sK93, sK94, sK95, sK96, sK97, sK98, sK99, sK100, sL77, sL78, sL79, sL80, sL81, sL82, sL83, sL84, sL85, sL86, sL87, sL88, sL89, sL90, sL91, sL92, sL93, sL94, sL95, sL96, sL97, sL98, sL99, sL100, sR76_5, sR76_16, sR76_18, sR76_19, sR76_20, sR76_21, sR76_23, sR76_25, sR76_26, sR76_27, sR76_28, sR76_29, sR76_30, sR76_31, sR76_32, sR76_33, sR76_34, sR76_37, sR76_38, sR76_39, sR76_40, sR76_41, sR76_42, ↓sB76_5, ↓sB76_16, ↓sB76_18, ↓sB76_19, ↓sB76_20, ↓sB76_21, ↓sB76_23, ↓sB76_25, ↓sB76_26, ↓sB76_27, ↓sB76_28, ↓sB76_29, ↓sB76_30, ↓sB76_31, ↓sB76_32, ↓sB76_33, ↓sB76_34, ↓sB76_37, ↓sB76_38, ↓sB76_39, ↓sB76_40, ↓sB76_41, ↓sB76_42, i17, ↓bd_of l1]
    · subst l3
      refine Or.inl ⟨(iI ((x + 1 : Nat) : Int), h'), ?_, h', f', c', rfl, fm', l4, l5, by omega⟩
      unfold bX12_isBorne_2 kX12_isBorne_12
      simp (maxSteps := 1000000) (disch := (first | assumption | exact ne_b rfl | omega)) only [↓reduceIte, ↓zlet_eq, ↓bdR_sI, ↓bdR_sJ, ↓bdR_aI, zc2_some, Option.bind_some, ↓si_m1, ↓si_m2, ↓si_m3, iI_lit, iI_add, iI_sub, iI_mul, leT, leF, ltT, ltF, eqT, eqF, zinT, clI, Int.toNat_natCast, Int.reduceToNat, tN1, tNa, tN0, tNm, if_pos, if_neg, zI_sI, zI_sJ, zI_sR, zJ_sI, zJ_sJ, zJ_sR, zR_sI, zR_sJ, zR_sR, zK_sI, zK_sJ, zK_sR, zL_sI, zL_sJ, zL_sR, zI_aI, zJ_aI, zR_aI, zK_aI, zL_aI, z2_at, z2_a, z2_k, z1_self, z1_ne, true_and, and_true, bIt, bIf, Bool.false_eq_true, Bool.true_eq_false, eq_self, not_true_eq_false, not_false_eq_true, sK76, sK77, sK78, sK79, sK80, sK81, sK82, sK83, sK84, sK85, sK86, sK87, sK88, sK89, sK90, sK91, sK92, sK93, sK94, sK95, sK96, sK97, sK98, sK99, sK100, sL77, sL78, sL79, sL80, sL81, sL82, sL83, sL84, sL85, sL86, sL87, sL88, sL89, sL90, sL91, sL92, sL93, sL94, sL95, sL96, sL97, sL98, sL99, sL100, sR76_5, sR76_16, sR76_18, sR76_19, sR76_20, sR76_21, sR76_23, sR76_25, sR76_26, sR76_27, sR76_28, sR76_29, sR76_30, sR76_31, sR76_32, sR76_33, sR76_34, sR76_37, sR76_38, sR76_39, sR76_40, sR76_41, sR76_42, ↓sB76_5, ↓sB76_16, ↓sB76_18, ↓sB76_19, ↓sB76_20, ↓sB76_21, ↓sB76_23, ↓sB76_25, ↓sB76_26, ↓sB76_27, ↓sB76_28, ↓sB76_29, ↓sB76_30, ↓sB76_31, ↓sB76_32, ↓sB76_33, ↓sB76_34, ↓sB76_37, ↓sB76_38, ↓sB76_39, ↓sB76_40, ↓sB76_41, ↓sB76_42, i17, ↓bd_of l1]
      all_goals rfl
  · intro z ⟨h1, f, c, ez, fm, k2, k3, k4⟩
    subst ez
    have s1 := s.fm fm
    have i17 : zI h1 76 17 = iI (tH t) := by rw [fm.I (by decide)]; exact h17
    refine ⟨1, (iI (tH t), h1), ?_, fm, Or.inr ⟨rfl, k2.done⟩⟩
    show bX12_isBorne_2 h 76 (iI (tH t)) h1 = _
    unfold bX12_isBorne_2
    simp (maxSteps := 1000000) (disch := (first | assumption | exact ne_b rfl | omega)) only [↓reduceIte, ↓zlet_eq, ↓bdR_sI, ↓bdR_sJ, ↓bdR_aI, zc2_some, Option.bind_some, ↓si_m1, ↓si_m2, ↓si_m3, iI_lit, iI_add, iI_sub, iI_mul, leT, leF, ltT, ltF, eqT, eqF, zinT, clI, Int.toNat_natCast, Int.reduceToNat, tN1, tNa, tN0, tNm, if_pos, if_neg, zI_sI, zI_sJ, zI_sR, zJ_sI, zJ_sJ, zJ_sR, zR_sI, zR_sJ, zR_sR, zK_sI, zK_sJ, zK_sR, zL_sI, zL_sJ, zL_sR, zI_aI, zJ_aI, zR_aI, zK_aI, zL_aI, z2_at, z2_a, z2_k, z1_self, z1_ne, true_and, and_true, bIt, bIf, Bool.false_eq_true, Bool.true_eq_false, eq_self, not_true_eq_false, not_false_eq_true, sK76, sK77, sK78, sK79, sK80, sK81, sK82, sK83, sK84, sK85, sK86, sK87, sK88, sK89, sK90, sK91, sK92, sK93, sK94, sK95, sK96, sK97, sK98, sK99, sK100, sL77, sL78, sL79, sL80, sL81, sL82, sL83, sL84, sL85, sL86, sL87, sL88, sL89, sL90, sL91, sL92, sL93, sL94, sL95, sL96, sL97, sL98, sL99, sL100, sR76_5, sR76_16, sR76_18, sR76_19, sR76_20, sR76_21, sR76_23, sR76_25, sR76_26, sR76_27, sR76_28, sR76_29, sR76_30, sR76_31, sR76_32, sR76_33, sR76_34, sR76_37, sR76_38, sR76_39, sR76_40, sR76_41, sR76_42, ↓sB76_5, ↓sB76_16, ↓sB76_18, ↓sB76_19, ↓sB76_20, ↓sB76_21, ↓sB76_23, ↓sB76_25, ↓sB76_26, ↓sB76_27, ↓sB76_28, ↓sB76_29, ↓sB76_30, ↓sB76_31, ↓sB76_32, ↓sB76_33, ↓sB76_34, ↓sB76_37, ↓sB76_38, ↓sB76_39, ↓sB76_40, ↓sB76_41, ↓sB76_42, i17]
