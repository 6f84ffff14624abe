/-! the model's pairing: one hand's search, whole -/
def mk9 (qu : Nat → Nat) (B : Nat → Int32) : Nat → Nat → Int32
  | 0 => B
  | i + 1 => z1 (mk9 qu B i) (qu i) (iI 1)
theorem mk9_in {qu : Nat → Nat} {B : Nat → Int32} : ∀ {i j : Nat}, j < i → mk9 qu B i (qu j) = iI 1 := by
  intro i
  induction i with
  | zero => intro j hj; omega
  | succ i ih =>
    intro j hj
    show z1 (mk9 qu B i) (qu i) (iI 1) (qu j) = iI 1
    by_cases c : qu j = qu i
    · rw [c, z1_self]
    · rw [z1_ne _ _ c]
      exact ih (by
        by_cases c2 : j = i
        · rw [c2] at c; exact absurd rfl c
        · omega)
theorem mk9_out {qu : Nat → Nat} {B : Nat → Int32} {y : Nat} : ∀ {i : Nat}, (∀ j, j < i → qu j ≠ y) → mk9 qu B i y = B y := by
  intro i
  induction i with
  | zero => intro _; rfl
  | succ i ih =>
    intro hj
    show z1 (mk9 qu B i) (qu i) (iI 1) y = B y
    rw [z1_ne _ _ (fun e => hj i (by omega) e.symm)]
    exact ih (fun j h1 => hj j (by omega))
theorem goes_end0 {n H : Nat} {qu : Nat → Nat} {g h : Zh} (sg : St g) (s : St h) (hn : n ≤ 2000) (hH : H ≤ 2000) (hq : ∀ j, j < n → zI h 89 j = iI (qu j) ∧ qu j < H) : lp (fun q : Int32 × Zh => bX12_goesOnFrom_194 g 76 (iI 0) (iI n) q.1 q.2) zB (iI 0, h) = some (1, (iI n, zaI h 91 (mk9 qu (zI h 91) n))) := by
  refine lp_for0 (st := fun j => ((iI (j : Int), zaI h 91 (mk9 qu (zI h 91) j)) : Int32 × Zh)) (e := 0) n (by show _ = ((iI 0, zaI h 91 (zI h 91)) : Int32 × Zh); rw [zaI_self]) (by omega) ?_ ?_
  · intro j hj
    show bX12_goesOnFrom_194 g 76 (iI 0) (iI n) (iI j) (zaI h 91 _) = _
    have fm : Fm [91] h (zaI h 91 (mk9 qu (zI h 91) j)) := Fm_aI _ _ (by simp)
    have s1 := s.fm fm
    obtain ⟨e89, hq2⟩ := hq j hj
    unfold bX12_goesOnFrom_194
    simp (maxSteps := 1000000) (disch := (first | assumption | exact ne_b rfl | omega)) only [↓reduceIte, ↓zlet_eq, ↓bdR_sI, ↓bdR_sJ, ↓bdR_aI, zc2_some, Option.bind_some, ↓si_m1, ↓si_m2, ↓si_m3, iI_lit, iI_add, iI_sub, iI_mul, leT, leF, ltT, ltF, eqT, eqF, zinT, clI, Int.toNat_natCast, Int.reduceToNat, tN1, tNa, tN0, tNm, if_pos, if_neg, zI_sI, zI_sJ, zI_sR, zJ_sI, zJ_sJ, zJ_sR, zR_sI, zR_sJ, zR_sR, zK_sI, zK_sJ, zK_sR, zL_sI, zL_sJ, zL_sR, zI_aI, zJ_aI, zR_aI, zK_aI, zL_aI, z2_at, z2_a, z2_k, z1_self, z1_ne, true_and, and_true, bIt, bIf, Bool.false_eq_true, Bool.true_eq_false, eq_self, not_true_eq_false, not_false_eq_true, sK76, sK77, sK78, sK79, sK80, sK81, sK82, sK83, sK84, sK85, sK86, sK87, sK88, sK89, sK90, sK91, sK92, sK93, sK94, sK95, sK96, sK97, sK98, sK99, sK100, sL77, sL78, sL79, sL80, sL81, sL82, sL83, sL84, sL85, sL86, sL87, sL88, sL89, sL90, sL91, sL92, sL93, sL94, sL95, sL96, sL97, sL98, sL99, sL100, sR76_5, sR76_16, sR76_18, sR76_19, sR76_20, sR76_21, sR76_23, sR76_25, sR76_26, sR76_27, sR76_28, sR76_29, sR76_30, sR76_31, sR76_32, sR76_33, sR76_34, sR76_37, sR76_38, sR76_39, sR76_40, sR76_41, sR76_42, ↓sB76_5, ↓sB76_16, ↓sB76_18, ↓sB76_19, ↓sB76_20, ↓sB76_21, ↓sB76_23, ↓sB76_25, ↓sB76_26, ↓sB76_27, ↓sB76_28, ↓sB76_29, ↓sB76_30, ↓sB76_31, ↓sB76_32, ↓sB76_33, ↓sB76_34, ↓sB76_37, ↓sB76_38, ↓sB76_39, ↓sB76_40, ↓sB76_41, ↓sB76_42, e89, zsI_aI]
    all_goals rfl
  · show bX12_goesOnFrom_194 g 76 (iI 0) (iI n) (iI n) (zaI h 91 _) = _
    unfold bX12_goesOnFrom_194
    simp (maxSteps := 1000000) (disch := (first | assumption | exact ne_b rfl | omega)) only [↓reduceIte, ↓zlet_eq, ↓bdR_sI, ↓bdR_sJ, ↓bdR_aI, zc2_some, Option.bind_some, ↓si_m1, ↓si_m2, ↓si_m3, iI_lit, iI_add, iI_sub, iI_mul, leT, leF, ltT, ltF, eqT, eqF, zinT, clI, Int.toNat_natCast, Int.reduceToNat, tN1, tNa, tN0, tNm, if_pos, if_neg, zI_sI, zI_sJ, zI_sR, zJ_sI, zJ_sJ, zJ_sR, zR_sI, zR_sJ, zR_sR, zK_sI, zK_sJ, zK_sR, zL_sI, zL_sJ, zL_sR, zI_aI, zJ_aI, zR_aI, zK_aI, zL_aI, z2_at, z2_a, z2_k, z1_self, z1_ne, true_and, and_true, bIt, bIf, Bool.false_eq_true, Bool.true_eq_false, eq_self, not_true_eq_false, not_false_eq_true, sK76, sK77, sK78, sK79, sK80, sK81, sK82, sK83, sK84, sK85, sK86, sK87, sK88, sK89, sK90, sK91, sK92, sK93, sK94, sK95, sK96, sK97, sK98, sK99, sK100, sL77, sL78, sL79, sL80, sL81, sL82, sL83, sL84, sL85, sL86, sL87, sL88, sL89, sL90, sL91, sL92, sL93, sL94, sL95, sL96, sL97, sL98, sL99, sL100, sR76_5, sR76_16, sR76_18, sR76_19, sR76_20, sR76_21, sR76_23, sR76_25, sR76_26, sR76_27, sR76_28, sR76_29, sR76_30, sR76_31, sR76_32, sR76_33, sR76_34, sR76_37, sR76_38, sR76_39, sR76_40, sR76_41, sR76_42, ↓sB76_5, ↓sB76_16, ↓sB76_18, ↓sB76_19, ↓sB76_20, ↓sB76_21, ↓sB76_23, ↓sB76_25, ↓sB76_26, ↓sB76_27, ↓sB76_28, ↓sB76_29, ↓sB76_30, ↓sB76_31, ↓sB76_32, ↓sB76_33, ↓sB76_34, ↓sB76_37, ↓sB76_38, ↓sB76_39, ↓sB76_40, ↓sB76_41, ↓sB76_42]
theorem goes_end1 {n s : Nat} {g h : Zh} (hn : n ≤ 2000) (hn1 : 1 ≤ n) (hs : s ≤ 2000) (hs0 : s ≠ 0) : lp (fun q : Int32 × Zh => bX12_goesOnFrom_194 g 76 (iI s) (iI n) q.1 q.2) zB (iI 0, h) = some (1, (iI 0, h)) := by
  refine lp_e (body := fun q : Int32 × Zh => bX12_goesOnFrom_194 g 76 (iI s) (iI n) q.1 q.2) (e := 0) (s := (iI 0, h)) ?_
  show bX12_goesOnFrom_194 g 76 (iI s) (iI n) (iI 0) h = _
  unfold bX12_goesOnFrom_194
  simp (maxSteps := 1000000) (disch := (first | assumption | exact ne_b rfl | omega)) only [↓reduceIte, ↓zlet_eq, ↓bdR_sI, ↓bdR_sJ, ↓bdR_aI, zc2_some, Option.bind_some, ↓si_m1, ↓si_m2, ↓si_m3, iI_lit, iI_add, iI_sub, iI_mul, leT, leF, ltT, ltF, eqT, eqF, zinT, clI, Int.toNat_natCast, Int.reduceToNat, tN1, tNa, tN0, tNm, if_pos, if_neg, zI_sI, zI_sJ, zI_sR, zJ_sI, zJ_sJ, zJ_sR, zR_sI, zR_sJ, zR_sR, zK_sI, zK_sJ, zK_sR, zL_sI, zL_sJ, zL_sR, zI_aI, zJ_aI, zR_aI, zK_aI, zL_aI, z2_at, z2_a, z2_k, z1_self, z1_ne, true_and, and_true, bIt, bIf, Bool.false_eq_true, Bool.true_eq_false, eq_self, not_true_eq_false, not_false_eq_true]
