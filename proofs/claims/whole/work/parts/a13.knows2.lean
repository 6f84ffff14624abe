/-! the model's table: rows rising, and their copy -/
theorem rwA_asc {t : Tk} (tok : Tok t) {x v w : Nat} (hx : x < tH t) (hvw : v < w) (hw : w < pcn t * tT t) : rwA t x v < rwA t x w := by
  obtain ⟨bn4, bn12, bu1, bu4, bnu, bk2, bk5, bkn, bp1, bp2, bpk, bH, bsp, bs1, bs4, bT1, bT16, bR1, bR2, bH1, bff, bff1⟩ := tok.b
  have hT : 0 < tT t := by omega
  have hdw : w / tT t < pcn t := Nat.div_lt_of_lt_mul (by rw [Nat.mul_comm]; exact hw)
  have hle : v / tT t ≤ w / tT t := Nat.div_le_div_right (by omega)
  have m1 := Nat.mod_lt v hT
  have e1 := Nat.div_add_mod' v (tT t)
  have e2 := Nat.div_add_mod' w (tT t)
  unfold rwA
  by_cases c : v / tT t = w / tT t
  · rw [c] at e1 ⊢
    omega
  · have h1 := crC_asc tok x hx (v / tT t) (w / tT t) (by omega) hdw
    have h2 : (crC t x (v / tT t) + 1) * tT t ≤ crC t x (w / tT t) * tT t := Nat.mul_le_mul_right _ h1
    rw [Nat.add_mul, Nat.one_mul] at h2
    omega
theorem rwA_low {t : Tk} (tok : Tok t) {x v r : Nat} (hx : x < tH t) (hf : fcr t (crC t) x r) (hr : r < rwA t x v) : ∃ w, w < v ∧ rwA t x w = r := by
  obtain ⟨w, w1, w2⟩ := rwA_ex tok hf
  refine ⟨w, ?_, w2⟩
  by_cases c : w < v
  · exact c
  · by_cases c2 : v = w
    · rw [c2, w2] at hr; omega
    · have := rwA_asc tok hx (show v < w by omega) w1
      omega
theorem knows_62 {g h : Zh} {P : Nat} (sg : St g) (s : St h) (hP : P ≤ 1920) : lp (fun q : Int32 × Zh => bX12_knowsTable_62 g 76 (iI P) q.1 q.2) zB (iI 0, h) = some (1, (iI P, zaI h 93 (afill P (zI h 82) (zI h 93)))) := by
  refine lp_for0 (st := fun j => ((iI (j : Int), zaI h 93 (afill j (zI h 82) (zI h 93))) : Int32 × Zh)) (e := 0) P (by rw [zaI_f0]; rfl) (by omega) ?_ ?_
  · intro j hj
    show bX12_knowsTable_62 g 76 (iI P) (iI j) (zaI h 93 _) = _
    have fm : Fm [93] h (zaI h 93 (afill j (zI h 82) (zI h 93))) := Fm_aI _ _ (by simp)
    have s1 := s.fm fm
    unfold bX12_knowsTable_62
    simp (maxSteps := 1000000) (disch := (first | assumption | exact ne_b rfl | omega)) only [↓reduceIte, ↓zlet_eq, ↓bdR_sI, ↓bdR_sJ, ↓bdR_aI, zc2_some, Option.bind_some, ↓si_m1, ↓si_m2, ↓si_m3, iI_lit, iI_add, iI_sub, iI_mul, leT, leF, ltT, ltF, eqT, eqF, zinT, clI, Int.toNat_natCast, Int.reduceToNat, tN1, tNa, tN0, tNm, if_pos, if_neg, zI_sI, zI_sJ, zI_sR, zJ_sI, zJ_sJ, zJ_sR, zR_sI, zR_sJ, zR_sR, zK_sI, zK_sJ, zK_sR, zL_sI, zL_sJ, zL_sR, zI_aI, zJ_aI, zR_aI, zK_aI, zL_aI, z2_at, z2_a, z2_k, z1_self, z1_ne, true_and, and_true, bIt, bIf, Bool.false_eq_true, Bool.true_eq_false, eq_self, not_true_eq_false, not_false_eq_true, sK76, sK77, sK78, sK79, sK80, sK81, sK82, sK83, sK84, sK85, sK86, sK87, sK88, sK89, sK90, sK91, sK92, sK93, sK94, sK95, sK96, sK97, sK98, sK99, sK100, sL77, sL78, sL79, sL80, sL81, sL82, sL83, sL84, sL85, sL86, sL87, sL88, sL89, sL90, sL91, sL92, sL93, sL94, sL95, sL96, sL97, sL98, sL99, sL100, sR76_5, sR76_16, sR76_18, sR76_19, sR76_20, sR76_21, sR76_23, sR76_25, sR76_26, sR76_27, sR76_28, sR76_29, sR76_30, sR76_31, sR76_32, sR76_33, sR76_34, sR76_37, sR76_38, sR76_39, sR76_40, sR76_41, sR76_42, ↓sB76_5, ↓sB76_16, ↓sB76_18, ↓sB76_19, ↓sB76_20, ↓sB76_21, ↓sB76_23, ↓sB76_25, ↓sB76_26, ↓sB76_27, ↓sB76_28, ↓sB76_29, ↓sB76_30, ↓sB76_31, ↓sB76_32, ↓sB76_33, ↓sB76_34, ↓sB76_37, ↓sB76_38, ↓sB76_39, ↓sB76_40, ↓sB76_41, ↓sB76_42, zsI_aI]
    rw [afill_s (i := j) (A := zI h 82) rfl]
    rfl
  · show bX12_knowsTable_62 g 76 (iI P) (iI P) (zaI h 93 _) = _
    unfold bX12_knowsTable_62
    simp (maxSteps := 1000000) (disch := (first | assumption | exact ne_b rfl | omega)) only [↓reduceIte, ↓zlet_eq, ↓bdR_sI, ↓bdR_sJ, ↓bdR_aI, zc2_some, Option.bind_some, ↓si_m1, ↓si_m2, ↓si_m3, iI_lit, iI_add, iI_sub, iI_mul, leT, leF, ltT, ltF, eqT, eqF, zinT, clI, Int.toNat_natCast, Int.reduceToNat, tN1, tNa, tN0, tNm, if_pos, if_neg, zI_sI, zI_sJ, zI_sR, zJ_sI, zJ_sJ, zJ_sR, zR_sI, zR_sJ, zR_sR, zK_sI, zK_sJ, zK_sR, zL_sI, zL_sJ, zL_sR, zI_aI, zJ_aI, zR_aI, zK_aI, zL_aI, z2_at, z2_a, z2_k, z1_self, z1_ne, true_and, and_true, bIt, bIf, Bool.false_eq_true, Bool.true_eq_false, eq_self, not_true_eq_false, not_false_eq_true]
