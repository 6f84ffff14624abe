/-! the model's knowsTable -/
theorem fX12_knowsTable_eq {h : Zh} {t : Tk} {tr : Nat} (tok : Tok t) (hH : tH t ≤ 300) (mx : MX h t tr) (h35 : zI h 76 35 = iI 0) : ∃ wh h', fX12_knowsTable 76 h = some h' ∧ Fm [76, 80, 82, 86, 87, 88, 89, 90, 91, 92, 93] h h' ∧ (∀ j, j ≠ 22 → j ≠ 35 → j ≠ 36 → zI h' 76 j = zI h 76 j) ∧ zI h' 76 35 = iI 1 ∧ zI h' 76 36 = iI (bI wh) ∧ (wh = true → (∃ M, Lst t M) ∧ ∀ x, x < tH t → zI h' 92 x = iI (tabR t x)) ∧ (wh = false → ∀ x, tabR t x = -2) := by
  obtain ⟨bn4, bn12, bu1, bu4, bnu, bk2, bk5, bkn, bp1, bp2, bpk, bH, bsp, bs1, bs4, bT1, bT16, bR1, bR2, bH1, bff, bff1⟩ := tok.b
  have mS : ∀ x, x ∈ [76, 80, 82, 86, 87, 88, 89, 90, 91] → x < 101 ∧ x ≠ 78 ∧ x ≠ 83 := by simp
  have mS1 : ∀ x, x ∈ [76] → x < 101 ∧ x ≠ 78 ∧ x ≠ 83 := by simp
  have m9 : ∀ x, x ∈ [76, 80, 82, 86, 87, 88, 89, 90, 91] → x ∈ [76, 80, 82, 86, 87, 88, 89, 90, 91, 92, 93] := by simp
  have m1 : ∀ x, x ∈ [76] → x ∈ [76, 80, 82, 86, 87, 88, 89, 90, 91, 92, 93] := by simp
  have s0 := mx.1
  have fm1 : Fm [76] h (zsI h 76 35 (iI 1)) := Fm_sI _ _ _ (by simp)
  have k1 : ∀ j, j ≠ 35 → zI (zsI h 76 35 (iI 1)) 76 j = zI h 76 j := fun j hj => by rw [zI_sI, z2_k _ _ _ hj]
  have mx1 := mx.fm2 fm1 (k1 17 (by decide)) (k1 24 (by decide)) mS1
  obtain ⟨k, h2, p1, p2, p3, p4⟩ := fX12_pairsNow_eq tok (by omega) mx1
  have mx2 := mx1.fm p2 p3 mS
  have h17 : zI h2 76 17 = iI (tH t) := mx2.2.2.2.2.1.1
  have e35 : zI h2 76 35 = iI 1 := by rw [p3 35 (by decide), zI_sI, z2_at]
  have hk : k ≤ tH t := by
    obtain ⟨pr, ow, f, c, D, a1, a2, a3, a4, a5, a6, a7, a8, a9, a10⟩ := p4
    rw [a10]; exact cnS_le _
  have fm2 : ∀ b : Bool, Fm [76] h2 (zsI h2 76 36 (iI (bI b))) := fun b => Fm_sI _ _ _ (by simp)
  have hrun : ∀ b : Bool, (b = true ↔ k = tH t) → fX12_knowsTable 76 h = jX12_knowsTable_30 h 76 (iI (bI b)) 76 h2 := by
    intro b hb
    have p1' : fX12_pairsNow 76 (zsI h 76 35 (iI 1)) = some (iI (k : Int), h2) := p1
    clear p4 mx2 mx1 mx p1
    unfold fX12_knowsTable
    cases b
    · have hne : ¬ (k : Int) = (tH t : Nat) := fun z => by
        have := hb.mpr (by omega)
        cases this
      simp (maxSteps := 1000000) (disch := (first | assumption | exact ne_b rfl | omega)) only [↓reduceIte, ↓zlet_eq, ↓bdR_sI, ↓bdR_sJ, ↓bdR_aI, zc2_some, Option.bind_some, ↓si_m1, ↓si_m2, ↓si_m3, iI_lit, iI_add, iI_sub, iI_mul, leT, leF, ltT, ltF, eqT, eqF, zinT, clI, Int.toNat_natCast, Int.reduceToNat, tN1, tNa, tN0, tNm, if_pos, if_neg, zI_sI, zI_sJ, zI_sR, zJ_sI, zJ_sJ, zJ_sR, zR_sI, zR_sJ, zR_sR, zK_sI, zK_sJ, zK_sR, zL_sI, zL_sJ, zL_sR, zI_aI, zJ_aI, zR_aI, zK_aI, zL_aI, z2_at, z2_a, z2_k, z1_self, z1_ne, true_and, and_true, bIt, bIf, Bool.false_eq_true, Bool.true_eq_false, eq_self, not_true_eq_false, not_false_eq_true, sK76, sK77, sK78, sK79, sK80, sK81, sK82, sK83, sK84, sK85, sK86, sK87, sK88, sK89, sK90, sK91, sK92, sK93, sK94, sK95, sK96, sK97, sK98, sK99, sK100, sL77, sL78, sL79, sL80, sL81, sL82, sL83, sL84, sL85, sL86, sL87, sL88, sL89, sL90, sL91, sL92, sL93, sL94, sL95, sL96, sL97, sL98, sL99, sL100, sR76_5, sR76_16, sR76_18, sR76_19, sR76_20, sR76_21, sR76_23, sR76_25, sR76_26, sR76_27, sR76_28, sR76_29, sR76_30, sR76_31, sR76_32, sR76_33, sR76_34, sR76_37, sR76_38, sR76_39, sR76_40, sR76_41, sR76_42, ↓sB76_5, ↓sB76_16, ↓sB76_18, ↓sB76_19, ↓sB76_20, ↓sB76_21, ↓sB76_23, ↓sB76_25, ↓sB76_26, ↓sB76_27, ↓sB76_28, ↓sB76_29, ↓sB76_30, ↓sB76_31, ↓sB76_32, ↓sB76_33, ↓sB76_34, ↓sB76_37, ↓sB76_38, ↓sB76_39, ↓sB76_40, ↓sB76_41, ↓sB76_42, h35, ↓zc_of p1', h17]
      all_goals rfl
    · have he : k = tH t := hb.mp rfl
      subst he
      simp (maxSteps := 1000000) (disch := (first | assumption | exact ne_b rfl | omega)) only [↓reduceIte, ↓zlet_eq, ↓bdR_sI, ↓bdR_sJ, ↓bdR_aI, zc2_some, Option.bind_some, ↓si_m1, ↓si_m2, ↓si_m3, iI_lit, iI_add, iI_sub, iI_mul, leT, leF, ltT, ltF, eqT, eqF, zinT, clI, Int.toNat_natCast, Int.reduceToNat, tN1, tNa, tN0, tNm, if_pos, if_neg, zI_sI, zI_sJ, zI_sR, zJ_sI, zJ_sJ, zJ_sR, zR_sI, zR_sJ, zR_sR, zK_sI, zK_sJ, zK_sR, zL_sI, zL_sJ, zL_sR, zI_aI, zJ_aI, zR_aI, zK_aI, zL_aI, z2_at, z2_a, z2_k, z1_self, z1_ne, true_and, and_true, bIt, bIf, Bool.false_eq_true, Bool.true_eq_false, eq_self, not_true_eq_false, not_false_eq_true, sK76, sK77, sK78, sK79, sK80, sK81, sK82, sK83, sK84, sK85, sK86, sK87, sK88, sK89, sK90, sK91, sK92, sK93, sK94, sK95, sK96, sK97, sK98, sK99, sK100, sL77, sL78, sL79, sL80, sL81, sL82, sL83, sL84, sL85, sL86, sL87, sL88, sL89, sL90, sL91, sL92, sL93, sL94, sL95, sL96, sL97, sL98, sL99, sL100, sR76_5, sR76_16, sR76_18, sR76_19, sR76_20, sR76_21, sR76_23, sR76_25, sR76_26, sR76_27, sR76_28, sR76_29, sR76_30, sR76_31, sR76_32, sR76_33, sR76_34, sR76_37, sR76_38, sR76_39, sR76_40, sR76_41, sR76_42, ↓sB76_5, ↓sB76_16, ↓sB76_18, ↓sB76_19, ↓sB76_20, ↓sB76_21, ↓sB76_23, ↓sB76_25, ↓sB76_26, ↓sB76_27, ↓sB76_28, ↓sB76_29, ↓sB76_30, ↓sB76_31, ↓sB76_32, ↓sB76_33, ↓sB76_34, ↓sB76_37, ↓sB76_38, ↓sB76_39, ↓sB76_40, ↓sB76_41, ↓sB76_42, h35, ↓zc_of p1', h17]
      all_goals rfl
  have k2 : ∀ (b : Bool) j, j ≠ 36 → zI (zsI h2 76 36 (iI (bI b))) 76 j = zI h2 76 j := fun b j hj => by rw [zI_sI, z2_k _ _ _ hj]
  have mx3 : ∀ b, MX (zsI h2 76 36 (iI (bI b))) t tr := fun b => mx2.fm2 (fm2 b) (k2 b 17 (by decide)) (k2 b 24 (by decide)) mS1
  have hj : ∀ (b : Bool) x' h3, lp (fun q : Int32 × Zh => bX12_knowsTable_35 h 76 q.1 q.2) zB (iI 0, zsI h2 76 36 (iI (bI b))) = some (1, (x', h3)) → jX12_knowsTable_30 h 76 (iI (bI b)) 76 h2 = some h3 := fun b x' h3 hl => by
    unfold jX12_knowsTable_30
    have hb : (iI (bI b) = 0 ∨ iI (bI b) = 1) := by cases b <;> decide
    rw [if_pos (sK76 s0), if_pos hb, zlet_eq]
    exact (lp_bd hl).trans rfl
  have fmb : ∀ b, Fm [76, 80, 82, 86, 87, 88, 89, 90, 91, 92, 93] h (zsI h2 76 36 (iI (bI b))) := fun b => ((fm1.mono m1).tr (p2.mono m9)).tr ((fm2 b).mono m1)
  by_cases c : k = tH t
  · have hr := hrun true ⟨fun _ => c, fun _ => rfl⟩
    obtain ⟨pr, ow, f, c0, D, a1, a2, a3, a4, a5, a6, a7, a8, a9, a10⟩ := p4
    have pf : Prf (tH t) pr := fun y hy => cnS_all (p := fun y => (pr y).isSome) (by rw [← a10, c]) y hy
    have hD0 : ∀ y, D y = false := fun y => by
      cases e : D y
      · rfl
      · obtain ⟨z, z1', z2', z3'⟩ := a9 y e
        have := pf z z1'
        rw [z2'] at this
        cases this
    have hD : Dn (zsI h2 76 36 (iI (bI true))) t (fun _ => false) := fun y hy => by
      rw [(fm2 true).I (by simp), a3 y hy, hD0 y]
    obtain ⟨x', h3, l1, l2, l3, M, l4, l5⟩ := knows_35 (g := h) tok hH s0 (mx3 true) (by rw [zI_sI, z2_at]; rfl) a2 pf (a1.fm (fm2 true) (by simp) (by simp) (by simp)) (by omega) hD
    refine ⟨true, h3, hr.trans (hj true x' h3 l1), (fmb true).tr l2, fun j j1 j2 j3 => by rw [l3 j j1, k2 true j j3, p3 j j1, k1 j j2], by rw [l3 35 (by decide), k2 true 35 (by decide)]; exact e35, by rw [l3 36 (by decide), zI_sI, z2_at], fun _ => ⟨⟨M, l4⟩, fun x hx => by rw [l5 x hx, tabR_some l4 hH hx]⟩, fun z => (by cases z)⟩
  · have hr := hrun false ⟨fun z => (by cases z), fun z => absurd z c⟩
    have hno := p4.none tok c
    have hl : lp (fun q : Int32 × Zh => bX12_knowsTable_35 h 76 q.1 q.2) zB (iI 0, zsI h2 76 36 (iI (bI false))) = some (1, (iI 0, zsI h2 76 36 (iI (bI false)))) := by
      refine lp_e (body := fun q : Int32 × Zh => bX12_knowsTable_35 h 76 q.1 q.2) (e := 0) (s := (iI 0, zsI h2 76 36 (iI (bI false)))) ?_
      show bX12_knowsTable_35 h 76 (iI 0) (zsI h2 76 36 (iI (bI false))) = _
      have e17 : zI (zsI h2 76 36 (iI (bI false))) 76 17 = iI (tH t) := by rw [k2 false 17 (by decide)]; exact h17
      have e36 : zI (zsI h2 76 36 (iI (bI false))) 76 36 = iI 0 := by rw [zI_sI, z2_at]; rfl
      generalize zsI h2 76 36 (iI (bI false)) = hh at e17 e36
      clear p4 hrun hj mx3 fmb k2 fm2
      unfold bX12_knowsTable_35
      simp (maxSteps := 1000000) (disch := (first | assumption | exact ne_b rfl | omega)) only [↓reduceIte, ↓zlet_eq, ↓bdR_sI, ↓bdR_sJ, ↓bdR_aI, zc2_some, Option.bind_some, ↓si_m1, ↓si_m2, ↓si_m3, iI_lit, iI_add, iI_sub, iI_mul, leT, leF, ltT, ltF, eqT, eqF, zinT, clI, Int.toNat_natCast, Int.reduceToNat, tN1, tNa, tN0, tNm, if_pos, if_neg, zI_sI, zI_sJ, zI_sR, zJ_sI, zJ_sJ, zJ_sR, zR_sI, zR_sJ, zR_sR, zK_sI, zK_sJ, zK_sR, zL_sI, zL_sJ, zL_sR, zI_aI, zJ_aI, zR_aI, zK_aI, zL_aI, z2_at, z2_a, z2_k, z1_self, z1_ne, true_and, and_true, bIt, bIf, Bool.false_eq_true, Bool.true_eq_false, eq_self, not_true_eq_false, not_false_eq_true, e17, e36]
    refine ⟨false, zsI h2 76 36 (iI (bI false)), hr.trans (hj false _ _ hl), fmb false, fun j j1 j2 j3 => by rw [k2 false j j3, p3 j j1, k1 j j2], by rw [k2 false 35 (by decide)]; exact e35, by rw [zI_sI, z2_at], fun z => (by cases z), fun _ x => tabR_none (fun ⟨M, hM⟩ => hno ⟨M, hM.1⟩) x⟩
