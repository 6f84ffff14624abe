/-! the model's pairsNow -/
theorem PN_clr {g h0 : Zh} {H : Nat} (sg : St g) (s0 : St h0) (h17 : zI h0 76 17 = iI H) (hH : H ≤ 2000) : ∃ h', lp (fun q : Int32 × Zh => bX12_pairsNow_8 g 76 q.1 q.2) zB (iI 0, h0) = some (1, (iI H, h')) ∧ Fm [88, 91] h0 h' ∧ ∀ y, y < H → zI h' 88 y = iI (-1) ∧ zI h' 91 y = iI 0 := by
  have := lp_cnt (body := fun q : Int32 × Zh => bX12_pairsNow_8 g 76 q.1 q.2) H (fun j z => ∃ h, z = ((iI (j : Int), h) : Int32 × Zh) ∧ Fm [88, 91] h0 h ∧ ∀ y, y < j → zI h 88 y = iI (-1) ∧ zI h 91 y = iI 0) (fun e z => e = 1 ∧ ∃ h, z = ((iI H, h) : Int32 × Zh) ∧ Fm [88, 91] h0 h ∧ ∀ y, y < H → zI h 88 y = iI (-1) ∧ zI h 91 y = iI 0) ?_ ?_ (by omega) (s := (iI 0, h0)) ⟨h0, rfl, Fm.rf, fun y hy => by omega⟩
  · obtain ⟨e, z, l1, l2, h, l3, l4, l5⟩ := this
    have e0 : e = 0 := by omega
    subst e0
    subst l3
    exact ⟨h, l1, l4, l5⟩
  · intro j z hj ⟨h, ez, fm, k1⟩
    subst ez
    have s1 := s0.fm fm
    have h17' : zI h 76 17 = iI H := by rw [fm.I (by simp)]; exact h17
    refine Or.inl ⟨(iI ((j + 1 : Nat) : Int), zsI (zsI h 88 j (iI (-1))) 91 j (iI 0)), ?_, _, rfl, (fm.tr (Fm_sI _ _ _ (by simp))).tr (Fm_sI _ _ _ (by simp)), fun y hy => ?_⟩
    · show bX12_pairsNow_8 g 76 (iI j) h = _
      have s2 : St (zsI h 88 j (iI (-1))) := s1.sI _ _ _
      unfold bX12_pairsNow_8
      simp (maxSteps := 1000000) (disch := (first | assumption | exact ne_b rfl | omega)) only [↓reduceIte, ↓zlet_eq, ↓bdR_sI, ↓bdR_sJ, ↓bdR_aI, zc2_some, Option.bind_some, ↓si_m1, ↓si_m2, ↓si_m3, iI_lit, iI_add, iI_sub, iI_mul, leT, leF, ltT, ltF, eqT, eqF, zinT, clI, Int.toNat_natCast, Int.reduceToNat, tN1, tNa, tN0, tNm, if_pos, if_neg, zI_sI, zI_sJ, zI_sR, zJ_sI, zJ_sJ, zJ_sR, zR_sI, zR_sJ, zR_sR, zK_sI, zK_sJ, zK_sR, zL_sI, zL_sJ, zL_sR, zI_aI, zJ_aI, zR_aI, zK_aI, zL_aI, z2_at, z2_a, z2_k, z1_self, z1_ne, true_and, and_true, bIt, bIf, Bool.false_eq_true, Bool.true_eq_false, eq_self, not_true_eq_false, not_false_eq_true, sK76, sK77, sK78, sK79, sK80, sK81, sK82, sK83, sK84, sK85, sK86, sK87, sK88, sK89, sK90, sK91, sK92, sK93, sK94, sK95, sK96, sK97, sK98, sK99, sK100, sL77, sL78, sL79, sL80, sL81, sL82, sL83, sL84, sL85, sL86, sL87, sL88, sL89, sL90, sL91, sL92, sL93, sL94, sL95, sL96, sL97, sL98, sL99, sL100, sR76_5, sR76_16, sR76_18, sR76_19, sR76_20, sR76_21, sR76_23, sR76_25, sR76_26, sR76_27, sR76_28, sR76_29, sR76_30, sR76_31, sR76_32, sR76_33, sR76_34, sR76_37, sR76_38, sR76_39, sR76_40, sR76_41, sR76_42, ↓sB76_5, ↓sB76_16, ↓sB76_18, ↓sB76_19, ↓sB76_20, ↓sB76_21, ↓sB76_23, ↓sB76_25, ↓sB76_26, ↓sB76_27, ↓sB76_28, ↓sB76_29, ↓sB76_30, ↓sB76_31, ↓sB76_32, ↓sB76_33, ↓sB76_34, ↓sB76_37, ↓sB76_38, ↓sB76_39, ↓sB76_40, ↓sB76_41, ↓sB76_42, h17']
      all_goals rfl
    · by_cases c : y = j
      · rw [c]
        exact ⟨by rw [zI_sI, z2_a _ _ _ _ (by decide), zI_sI, z2_at], by rw [zI_sI, z2_at]⟩
      · obtain ⟨a, b⟩ := k1 y (by omega)
        exact ⟨by rw [zI_sI, z2_a _ _ _ _ (by decide), zI_sI, z2_k _ _ _ c]; exact a, by rw [zI_sI, z2_k _ _ _ c, zI_sI, z2_a _ _ _ _ (by decide)]; exact b⟩
  · intro z ⟨h, ez, fm, k1⟩
    subst ez
    have h17' : zI h 76 17 = iI H := by rw [fm.I (by simp)]; exact h17
    refine ⟨0, (iI H, h), ?_, rfl, h, rfl, fm, k1⟩
    show bX12_pairsNow_8 g 76 (iI H) h = _
    unfold bX12_pairsNow_8
    simp (maxSteps := 1000000) (disch := (first | assumption | exact ne_b rfl | omega)) only [↓reduceIte, ↓zlet_eq, ↓bdR_sI, ↓bdR_sJ, ↓bdR_aI, zc2_some, Option.bind_some, ↓si_m1, ↓si_m2, ↓si_m3, iI_lit, iI_add, iI_sub, iI_mul, leT, leF, ltT, ltF, eqT, eqF, zinT, clI, Int.toNat_natCast, Int.reduceToNat, tN1, tNa, tN0, tNm, if_pos, if_neg, zI_sI, zI_sJ, zI_sR, zJ_sI, zJ_sJ, zJ_sR, zR_sI, zR_sJ, zR_sR, zK_sI, zK_sJ, zK_sR, zL_sI, zL_sJ, zL_sR, zI_aI, zJ_aI, zR_aI, zK_aI, zL_aI, z2_at, z2_a, z2_k, z1_self, z1_ne, true_and, and_true, bIt, bIf, Bool.false_eq_true, Bool.true_eq_false, eq_self, not_true_eq_false, not_false_eq_true, h17']
theorem fX12_pairsNow_eq {h : Zh} {t : Tk} {tr : Nat} (tok : Tok t) (hH : tH t ≤ 2000) (mx : MX h t tr) : ∃ k h', fX12_pairsNow 76 h = some (iI (k : Nat), h') ∧ Fm [76, 80, 82, 86, 87, 88, 89, 90, 91] h h' ∧ (∀ j, j ≠ 22 → zI h' 76 j = zI h 76 j) ∧ PNx h' t (tH t) k := by
  have mS : ∀ x, x ∈ [86, 88, 91] → x < 101 ∧ x ≠ 78 ∧ x ≠ 83 := by simp
  have m3 : ∀ x, x ∈ [86, 88, 91] → x ∈ [76, 80, 82, 86, 87, 88, 89, 90, 91] := by simp
  obtain ⟨h1, c1, c2, c3⟩ := fX12_clearOwners_eq mx.1
  have s1 := mx.1.fm c2
  have h17 : zI h1 76 17 = iI (tH t) := by rw [c2.I (by simp)]; exact mx.2.2.2.2.1.1
  obtain ⟨h2, l1, l2, l3⟩ := PN_clr (g := h) mx.1 s1 h17 hH
  have fm2 : Fm [86, 88, 91] h h2 := (c2.mono (by simp)).tr (l2.mono (by simp))
  have k2 : ∀ j, j ≠ 22 → zI h2 76 j = zI h 76 j := fun j _ => by rw [fm2.I (by simp)]
  have mx2 := mx.fm fm2 k2 mS
  have pn0 : PNx h2 t 0 0 := ⟨fun _ => none, fun _ => none, fun _ => none, 0, fun _ => false, ⟨fun y hy _ => (l3 y hy).1, c3.fm l2 (by simp) (by simp), fun r => rfl⟩, ⟨fun y r _ q => (by cases q), fun r y q => (by cases q)⟩, fun y hy => (l3 y hy).2, fun y q => (by cases q), Nat.le_refl _, fun _ _ => rfl, fun y hy => by omega, fun y q => (by cases q), fun y q => (by cases q), rfl⟩
  obtain ⟨k, x', h3, r1, r2, r3, r4⟩ := PN_run (g := h) tok hH mx2 pn0
  refine ⟨k, h3, ?_, (fm2.mono m3).tr r2, fun j hj => by rw [r3 j hj, k2 j hj], r4⟩
  have sK := sK76 mx.1
  unfold fX12_pairsNow
  rw [zlet_eq, if_pos sK, bd_of c1]
  refine (lp_bd l1).trans ?_
  show kX12_pairsNow_8 h 76 (iI 0) 1 (iI (tH t)) h2 = _
  unfold kX12_pairsNow_8
  exact (lp_bd r1).trans rfl
