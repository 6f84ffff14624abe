/-! the model's table: a hand's least row -/
noncomputable def rwA (t : Tk) (x v : Nat) : Nat := crC t x (v / tT t) * tT t + v % tT t
theorem rwA_fit {t : Tk} (tok : Tok t) {x v : Nat} (hv : v < pcn t * tT t) : fcr t (crC t) x (rwA t x v) := by
  obtain ⟨bn4, bn12, bu1, bu4, bnu, bk2, bk5, bkn, bp1, bp2, bpk, bH, bsp, bs1, bs4, bT1, bT16, bR1, bR2, bH1, bff, bff1⟩ := tok.b
  have hdv : v / tT t < pcn t := Nat.div_lt_of_lt_mul (by rw [Nat.mul_comm]; exact hv)
  exact ⟨v / tT t, hdv, (row_div (by omega) (Nat.mod_lt _ (by omega))).symm⟩
theorem rwA_ex {t : Tk} (tok : Tok t) {x r : Nat} (h : fcr t (crC t) x r) : ∃ v, v < pcn t * tT t ∧ rwA t x v = r := by
  obtain ⟨bn4, bn12, bu1, bu4, bnu, bk2, bk5, bkn, bp1, bp2, bpk, bH, bsp, bs1, bs4, bT1, bT16, bR1, bR2, bH1, bff, bff1⟩ := tok.b
  obtain ⟨i, i1, i2⟩ := h
  have hmr := Nat.mod_lt r (show tT t > 0 by omega)
  refine ⟨i * tT t + r % tT t, at_lt i1 hmr, ?_⟩
  unfold rwA
  rw [row_div (by omega) hmr, Nat.mul_comm i, Nat.mul_add_mod, Nat.mod_mod, i2, Nat.div_add_mod']
def Got (h : Zh) (t : Tk) (x c : Nat) (pr : Nat → Option Nat) (v : Nat) : Prop := ∃ pr' ow' f' c', PM h t pr' ow' f' c' (tH t) ∧ c' ≤ c + 2 ∧ Cns (tH t) (fcr t (crC t)) pr' ow' ∧ Prf (tH t) pr' ∧ v < pcn t * tT t ∧ pr' x = some (rwA t x v) ∧ (∀ y, y < x → pr' y = pr y) ∧ ∀ w, w < v → Lq t (crC t) x pr (rwA t x w)
theorem knows_87 {t : Tk} {tr x c : Nat} {pr ow : Nat → Option Nat} {f : Nat → Option Int} {g h0 : Zh} (tok : Tok t) (hH : tH t ≤ 2000) (sg : St g) (mx : MX h0 t tr) (cn : Cns (tH t) (fcr t (crC t)) pr ow) (prf : Prf (tH t) pr) (pm : PM h0 t pr ow f c (tH t)) (hD : Dn h0 t (fun _ => false)) (hx : x < tH t) (hcc : c + 2 < 32768) (h93 : ∀ v, v < pcn t * tT t → zI h0 93 v = iI (rwA t x v)) : ∃ v h', lp (fun q : Int32 × Zh => bX12_knowsTable_87 g 76 (iI x) q.1 q.2) zB (iI 0, h0) = some (1, (iI (v : Nat), h')) ∧ Fm [76, 80, 82, 86, 87, 88, 89, 90, 91] h0 h' ∧ (∀ j, j ≠ 22 → zI h' 76 j = zI h0 76 j) ∧ Dn h' t (fun _ => false) ∧ Got h' t x c pr v := by
  obtain ⟨bn4, bn12, bu1, bu4, bnu, bk2, bk5, bkn, bp1, bp2, bpk, bH, bsp, bs1, bs4, bT1, bT16, bR1, bR2, bH1, bff, bff1⟩ := tok.b
  have hpT : pcn t * tT t ≤ 120 * 16 := Nat.mul_le_mul (pcn_b tok).2 bT16
  have mS : ∀ x, x ∈ [76, 80, 82, 86, 87, 88, 89, 90, 91] → x < 101 ∧ x ≠ 78 ∧ x ≠ 83 := by simp
  obtain ⟨r0, hr0⟩ : ∃ r0, pr x = some r0 := Option.isSome_iff_exists.mp (prf x hx)
  obtain ⟨v0, hv0, ev0⟩ := rwA_ex tok (cn.1 x r0 hx hr0).1
  have step : ∀ v h f', v < pcn t * tT t → Fm [76, 80, 82, 86, 87, 88, 89, 90, 91] h0 h → (∀ j, j ≠ 22 → zI h 76 j = zI h0 76 j) → PM h t pr ow f' c (tH t) → Dn h t (fun _ => false) → (∀ w, w < v → Lq t (crC t) x pr (rwA t x w)) → (∃ h' f'', rwA t x v ≠ r0 ∧ bX12_knowsTable_87 g 76 (iI x) (iI v) h = some (0, (iI ((v + 1 : Nat) : Int), h')) ∧ Fm [76, 80, 82, 86, 87, 88, 89, 90, 91] h0 h' ∧ (∀ j, j ≠ 22 → zI h' 76 j = zI h0 76 j) ∧ PM h' t pr ow f'' c (tH t) ∧ Dn h' t (fun _ => false) ∧ Lq t (crC t) x pr (rwA t x v)) ∨ (∃ h', bX12_knowsTable_87 g 76 (iI x) (iI v) h = some (0 + 1, (iI v, h')) ∧ Fm [76, 80, 82, 86, 87, 88, 89, 90, 91] h0 h' ∧ (∀ j, j ≠ 22 → zI h' 76 j = zI h0 76 j) ∧ Dn h' t (fun _ => false) ∧ Got h' t x c pr v) := by
    intro v h f' hv fm k1 pm1 hD1 hL
    have mx1 := mx.fm fm k1 mS
    have s1 := mx1.1
    have e93 : zI h 93 v = iI (rwA t x v) := by rw [fm.I (by simp)]; exact h93 v hv
    obtain ⟨b, h', q1, q2, q3, q4, q5, q6⟩ := fX12_settles_eq (r := rwA t x v) tok hH mx1 cn prf pm1 hD1 hx hr0 (rwA_fit tok hv) hcc
    have hv2 : v < 1920 := by omega
    cases b
    · obtain ⟨⟨f'', w1⟩, w2, w3⟩ := q5 rfl
      refine Or.inl ⟨h', f'', w2, ?_, fm.tr q2, fun j hj => by rw [q3 j hj, k1 j hj], w1, q4, w3⟩
      have q1' : fX12_settles 76 (iI x) (iI (rwA t x v)) h = some (iI 0, h') := q1
      clear pm pm1 cn q5 q6 hL hD hD1 h93 mx hpT
      unfold bX12_knowsTable_87
      simp (maxSteps := 1000000) (disch := (first | assumption | exact ne_b rfl | omega)) only [↓reduceIte, ↓zlet_eq, ↓bdR_sI, ↓bdR_sJ, ↓bdR_aI, zc2_some, Option.bind_some, ↓si_m1, ↓si_m2, ↓si_m3, iI_lit, iI_add, iI_sub, iI_mul, leT, leF, ltT, ltF, eqT, eqF, zinT, clI, Int.toNat_natCast, Int.reduceToNat, tN1, tNa, tN0, tNm, if_pos, if_neg, zI_sI, zI_sJ, zI_sR, zJ_sI, zJ_sJ, zJ_sR, zR_sI, zR_sJ, zR_sR, zK_sI, zK_sJ, zK_sR, zL_sI, zL_sJ, zL_sR, zI_aI, zJ_aI, zR_aI, zK_aI, zL_aI, z2_at, z2_a, z2_k, z1_self, z1_ne, true_and, and_true, bIt, bIf, Bool.false_eq_true, Bool.true_eq_false, eq_self, not_true_eq_false, not_false_eq_true, sK76, sK77, sK78, sK79, sK80, sK81, sK82, sK83, sK84, sK85, sK86, sK87, sK88, sK89, sK90, sK91, sK92, sK93, sK94, sK95, sK96, sK97, sK98, sK99, sK100, sL77, sL78, sL79, sL80, sL81, sL82, sL83, sL84, sL85, sL86, sL87, sL88, sL89, sL90, sL91, sL92, sL93, sL94, sL95, sL96, sL97, sL98, sL99, sL100, sR76_5, sR76_16, sR76_18, sR76_19, sR76_20, sR76_21, sR76_23, sR76_25, sR76_26, sR76_27, sR76_28, sR76_29, sR76_30, sR76_31, sR76_32, sR76_33, sR76_34, sR76_37, sR76_38, sR76_39, sR76_40, sR76_41, sR76_42, ↓sB76_5, ↓sB76_16, ↓sB76_18, ↓sB76_19, ↓sB76_20, ↓sB76_21, ↓sB76_23, ↓sB76_25, ↓sB76_26, ↓sB76_27, ↓sB76_28, ↓sB76_29, ↓sB76_30, ↓sB76_31, ↓sB76_32, ↓sB76_33, ↓sB76_34, ↓sB76_37, ↓sB76_38, ↓sB76_39, ↓sB76_40, ↓sB76_41, ↓sB76_42, e93, ↓zc_of q1']
      all_goals rfl
    · obtain ⟨pr', ow', f2, c2, w1, w2, w3, w4, w5, w6⟩ := q6 rfl
      refine Or.inr ⟨h', ?_, fm.tr q2, fun j hj => by rw [q3 j hj, k1 j hj], q4, pr', ow', f2, c2, w1, w2, w3, w4, hv, w5, w6, hL⟩
      have q1' : fX12_settles 76 (iI x) (iI (rwA t x v)) h = some (iI 1, h') := q1
      clear pm pm1 cn q5 q6 hL hD hD1 h93 mx hpT
      unfold bX12_knowsTable_87
      simp (maxSteps := 1000000) (disch := (first | assumption | exact ne_b rfl | omega)) only [↓reduceIte, ↓zlet_eq, ↓bdR_sI, ↓bdR_sJ, ↓bdR_aI, zc2_some, Option.bind_some, ↓si_m1, ↓si_m2, ↓si_m3, iI_lit, iI_add, iI_sub, iI_mul, leT, leF, ltT, ltF, eqT, eqF, zinT, clI, Int.toNat_natCast, Int.reduceToNat, tN1, tNa, tN0, tNm, if_pos, if_neg, zI_sI, zI_sJ, zI_sR, zJ_sI, zJ_sJ, zJ_sR, zR_sI, zR_sJ, zR_sR, zK_sI, zK_sJ, zK_sR, zL_sI, zL_sJ, zL_sR, zI_aI, zJ_aI, zR_aI, zK_aI, zL_aI, z2_at, z2_a, z2_k, z1_self, z1_ne, true_and, and_true, bIt, bIf, Bool.false_eq_true, Bool.true_eq_false, eq_self, not_true_eq_false, not_false_eq_true, sK76, sK77, sK78, sK79, sK80, sK81, sK82, sK83, sK84, sK85, sK86, sK87, sK88, sK89, sK90, sK91, sK92, sK93, sK94, sK95, sK96, sK97, sK98, sK99, sK100, sL77, sL78, sL79, sL80, sL81, sL82, sL83, sL84, sL85, sL86, sL87, sL88, sL89, sL90, sL91, sL92, sL93, sL94, sL95, sL96, sL97, sL98, sL99, sL100, sR76_5, sR76_16, sR76_18, sR76_19, sR76_20, sR76_21, sR76_23, sR76_25, sR76_26, sR76_27, sR76_28, sR76_29, sR76_30, sR76_31, sR76_32, sR76_33, sR76_34, sR76_37, sR76_38, sR76_39, sR76_40, sR76_41, sR76_42, ↓sB76_5, ↓sB76_16, ↓sB76_18, ↓sB76_19, ↓sB76_20, ↓sB76_21, ↓sB76_23, ↓sB76_25, ↓sB76_26, ↓sB76_27, ↓sB76_28, ↓sB76_29, ↓sB76_30, ↓sB76_31, ↓sB76_32, ↓sB76_33, ↓sB76_34, ↓sB76_37, ↓sB76_38, ↓sB76_39, ↓sB76_40, ↓sB76_41, ↓sB76_42, e93, ↓zc_of q1']
      all_goals rfl
  have := lp_cnt (body := fun q : Int32 × Zh => bX12_knowsTable_87 g 76 (iI x) q.1 q.2) v0 (fun v z => ∃ h f', z = ((iI (v : Int), h) : Int32 × Zh) ∧ Fm [76, 80, 82, 86, 87, 88, 89, 90, 91] h0 h ∧ (∀ j, j ≠ 22 → zI h 76 j = zI h0 76 j) ∧ PM h t pr ow f' c (tH t) ∧ Dn h t (fun _ => false) ∧ ∀ w, w < v → Lq t (crC t) x pr (rwA t x w)) (fun e z => e = 1 ∧ ∃ v h', z = ((iI (v : Nat), h') : Int32 × Zh) ∧ Fm [76, 80, 82, 86, 87, 88, 89, 90, 91] h0 h' ∧ (∀ j, j ≠ 22 → zI h' 76 j = zI h0 76 j) ∧ Dn h' t (fun _ => false) ∧ Got h' t x c pr v) ?_ ?_ (by omega) (s := (iI 0, h0)) ⟨h0, f, rfl, Fm.rf, fun _ _ => rfl, pm, hD, fun w hw => by omega⟩
  · obtain ⟨e, z, l1, l2, v, h', l3, l4⟩ := this
    have e0 : e = 0 := by omega
    subst e0
    subst l3
    exact ⟨v, h', l1, l4⟩
  · intro v z hv ⟨h, f', ez, fm, k1, k2, k3, k4⟩
    subst ez
    rcases step v h f' (by omega) fm k1 k2 k3 k4 with ⟨h', f'', -, w1, w2, w3, w4, w5, w6⟩ | ⟨h', w1, w2⟩
    · exact Or.inl ⟨_, w1, h', f'', rfl, w2, w3, w4, w5, fun w hw => by
        by_cases c2 : w = v
        · rw [c2]; exact w6
        · exact k4 w (by omega)⟩
    · exact Or.inr ⟨0, _, w1, rfl, v, h', rfl, w2⟩
  · intro z ⟨h, f', ez, fm, k1, k2, k3, k4⟩
    subst ez
    rcases step v0 h f' hv0 fm k1 k2 k3 k4 with ⟨h', f'', w0, -⟩ | ⟨h', w1, w2⟩
    · exact absurd ev0 w0
    · exact ⟨0, _, w1, rfl, v0, h', rfl, w2⟩
