/-! the model's trick in the heap; its deal -/
def Tr (h : Zh) (tr : Nat) (t : Tk) : Prop := zK h tr = 11 ∧ zI h tr 0 = iI (tn t) ∧ zI h tr 1 = iI (tu t) ∧ zI h tr 2 = iI (tk t) ∧ zI h tr 3 = iI (tp t) ∧ zI h tr 4 = iI (tsh t) ∧ zI h tr 7 = iI (bI (tst t)) ∧ zI h tr 8 = iI (bI (thd t)) ∧ zI h tr 9 = iI (bI (tti t))
theorem Tr.fK {h : Zh} {tr : Nat} {t : Tk} (q : Tr h tr t) : zK h tr = 11 := q.1
theorem Tr.f0 {h : Zh} {tr : Nat} {t : Tk} (q : Tr h tr t) : zI h tr 0 = iI (tn t) := q.2.1
theorem Tr.f1 {h : Zh} {tr : Nat} {t : Tk} (q : Tr h tr t) : zI h tr 1 = iI (tu t) := q.2.2.1
theorem Tr.f2 {h : Zh} {tr : Nat} {t : Tk} (q : Tr h tr t) : zI h tr 2 = iI (tk t) := q.2.2.2.1
theorem Tr.f3 {h : Zh} {tr : Nat} {t : Tk} (q : Tr h tr t) : zI h tr 3 = iI (tp t) := q.2.2.2.2.1
theorem Tr.f4 {h : Zh} {tr : Nat} {t : Tk} (q : Tr h tr t) : zI h tr 4 = iI (tsh t) := q.2.2.2.2.2.1
theorem Tr.f7 {h : Zh} {tr : Nat} {t : Tk} (q : Tr h tr t) : zI h tr 7 = iI (bI (tst t)) := q.2.2.2.2.2.2.1
theorem Tr.f8 {h : Zh} {tr : Nat} {t : Tk} (q : Tr h tr t) : zI h tr 8 = iI (bI (thd t)) := q.2.2.2.2.2.2.2.1
theorem Tr.f9 {h : Zh} {tr : Nat} {t : Tk} (q : Tr h tr t) : zI h tr 9 = iI (bI (tti t)) := q.2.2.2.2.2.2.2.2
theorem Tr.fm {S : List Nat} {h h' : Zh} {tr : Nat} {t : Tk} (q : Tr h tr t) (f : Fm S h h') (hs : tr ∉ S) : Tr h' tr t := by
  unfold Tr
  rw [f.K, f.I hs]
  exact q
theorem bI0 (b : Bool) : (iI (bI b) = iI 0) ↔ b = false := by cases b <;> decide
theorem bI1 (b : Bool) : (iI (bI b) = iI 1) ↔ b = true := by cases b <;> decide
theorem si_byte : ∀ x : Nat, x < 128 → (iI (x : Int)).toInt8.toInt32 = iI (x : Int) := by decide +kernel
theorem folN_at {u : Nat → Bool} {n : Nat} : ∀ (f x : Nat), folN u n f x < n → u (folN u n f x) = false
  | 0, x, h => absurd h (Nat.lt_irrefl _)
  | f + 1, x, h => by
    rw [folN] at h ⊢
    by_cases c : n ≤ x
    · rw [if_pos c] at h; omega
    · rw [if_neg c] at h ⊢
      by_cases c2 : u x = true
      · rw [if_pos c2] at h ⊢
        exact folN_at f (x + 1) h
      · rw [if_neg c2] at h ⊢
        simpa using c2
theorem folN_z {u : Nat → Bool} {n f c : Nat} (hf : n < f + c) (hc : c ≤ n) : c + zfst (fun j => !u (c + j)) (n - c) = folN u n f c := by
  have h1 := folN_le (u := u) (n := n) f c
  have h2 := folN_ge (u := u) f c hc
  have : zfst (fun j => !u (c + j)) (n - c) = folN u n f c - c := by
    refine zfst_eq (by omega) (fun i hi => ?_) (fun hi => ?_)
    · cases e : u (c + i)
      · have := folN_min (u := u) (n := n) (y := c + i) f c hf (by omega) (by omega) e
        omega
      · rfl
    · rw [show c + (folN u n f c - c) = folN u n f c by omega, folN_at (u := u) (n := n) f c (by omega)]
      rfl
  omega
/-- isPicked -/
theorem fX12_isPicked_eq {x a : Nat} {w : Nat → Nat} {h : Zh} (s : St h) (ha : a ≤ 5) (hx : x < 2147483648) (hw : ∀ i, i < a → zI h 79 i = iI (w i) ∧ w i < 2147483648) : fX12_isPicked 76 (iI x) (iI a) h = some (iI (bI ((fmask w a).testBit x)), h) := by
  unfold fX12_isPicked
  simp (maxSteps := 1000000) (disch := (first | assumption | exact ne_b rfl | omega)) only [↓reduceIte, ↓zlet_eq, ↓bdR_sI, ↓bdR_sJ, ↓bdR_aI, zc2_some, Option.bind_some, ↓si_m1, ↓si_m2, ↓si_m3, iI_lit, iI_add, iI_sub, iI_mul, leT, leF, ltT, ltF, eqT, eqF, zinT, clI, Int.toNat_natCast, tN1, tNa, tN0, tNm, if_pos, if_neg, zI_sI, zI_sJ, zI_sR, zJ_sI, zJ_sJ, zJ_sR, zR_sI, zR_sJ, zR_sR, zK_sI, zK_sJ, zK_sR, zL_sI, zL_sJ, zL_sR, zI_aI, zJ_aI, zR_aI, zK_aI, zL_aI, z2_at, z2_a, z2_k, z1_self, z1_ne, true_and, and_true, bIt, bIf, Bool.false_eq_true, Bool.true_eq_false, eq_self, not_true_eq_false, not_false_eq_true]
  refine (lp_sb (st := fun j => ((iI (j : Int), h) : Int32 × Zh)) (fun j => decide (w j = x)) 0 1 (fun j => ((iI (j : Int), h) : Int32 × Zh)) ((iI a, h) : Int32 × Zh) a rfl (by omega) ?_ ?_ ?_).trans ?_
  · intro j hj hP
    show bX12_isPicked_2 h 76 (iI x) (iI a) (iI j) h = _
    unfold bX12_isPicked_2
    have hP2 : ¬ (w j = x) := of_decide_eq_false hP
    have hw2 := (hw j hj).2
    simp (maxSteps := 1000000) (disch := (first | assumption | exact ne_b rfl | omega)) only [↓reduceIte, ↓zlet_eq, ↓bdR_sI, ↓bdR_sJ, ↓bdR_aI, zc2_some, Option.bind_some, ↓si_m1, ↓si_m2, ↓si_m3, iI_lit, iI_add, iI_sub, iI_mul, leT, leF, ltT, ltF, eqT, eqF, zinT, clI, Int.toNat_natCast, tN1, tNa, tN0, tNm, if_pos, if_neg, zI_sI, zI_sJ, zI_sR, zJ_sI, zJ_sJ, zJ_sR, zR_sI, zR_sJ, zR_sR, zK_sI, zK_sJ, zK_sR, zL_sI, zL_sJ, zL_sR, zI_aI, zJ_aI, zR_aI, zK_aI, zL_aI, z2_at, z2_a, z2_k, z1_self, z1_ne, true_and, and_true, bIt, bIf, Bool.false_eq_true, Bool.true_eq_false, eq_self, not_true_eq_false, not_false_eq_true, sK76, sK77, sK78, sK79, sK80, sK81, sK82, sK83, sK84, sK85, sK86, sK87, sK88, sK89, sK90, sK91, sK92, sK93, sK94, sK95, sK96, sK97, sK98, sK99, sK100, sL77, sL78, sL79, sL80, sL81, sL82, sL83, sL84, sL85, sL86, sL87, sL88, sL89, sL90, sL91, sL92, sL93, sL94, sL95, sL96, sL97, sL98, sL99, sL100, sR76_5, sR76_16, sR76_18, sR76_19, sR76_20, sR76_21, sR76_23, sR76_25, sR76_26, sR76_27, sR76_28, sR76_29, sR76_30, sR76_31, sR76_32, sR76_33, sR76_34, sR76_37, sR76_38, sR76_39, sR76_40, sR76_41, sR76_42, ↓sB76_5, ↓sB76_16, ↓sB76_18, ↓sB76_19, ↓sB76_20, ↓sB76_21, ↓sB76_23, ↓sB76_25, ↓sB76_26, ↓sB76_27, ↓sB76_28, ↓sB76_29, ↓sB76_30, ↓sB76_31, ↓sB76_32, ↓sB76_33, ↓sB76_34, ↓sB76_37, ↓sB76_38, ↓sB76_39, ↓sB76_40, ↓sB76_41, ↓sB76_42, (hw j hj).1]
    rfl
  · intro j hj hP
    show bX12_isPicked_2 h 76 (iI x) (iI a) (iI j) h = _
    unfold bX12_isPicked_2
    have hP2 : w j = x := of_decide_eq_true hP
    have hw2 := (hw j hj).2
    simp (maxSteps := 1000000) (disch := (first | assumption | exact ne_b rfl | omega)) only [↓reduceIte, ↓zlet_eq, ↓bdR_sI, ↓bdR_sJ, ↓bdR_aI, zc2_some, Option.bind_some, ↓si_m1, ↓si_m2, ↓si_m3, iI_lit, iI_add, iI_sub, iI_mul, leT, leF, ltT, ltF, eqT, eqF, zinT, clI, Int.toNat_natCast, tN1, tNa, tN0, tNm, if_pos, if_neg, zI_sI, zI_sJ, zI_sR, zJ_sI, zJ_sJ, zJ_sR, zR_sI, zR_sJ, zR_sR, zK_sI, zK_sJ, zK_sR, zL_sI, zL_sJ, zL_sR, zI_aI, zJ_aI, zR_aI, zK_aI, zL_aI, z2_at, z2_a, z2_k, z1_self, z1_ne, true_and, and_true, bIt, bIf, Bool.false_eq_true, Bool.true_eq_false, eq_self, not_true_eq_false, not_false_eq_true, sK76, sK77, sK78, sK79, sK80, sK81, sK82, sK83, sK84, sK85, sK86, sK87, sK88, sK89, sK90, sK91, sK92, sK93, sK94, sK95, sK96, sK97, sK98, sK99, sK100, sL77, sL78, sL79, sL80, sL81, sL82, sL83, sL84, sL85, sL86, sL87, sL88, sL89, sL90, sL91, sL92, sL93, sL94, sL95, sL96, sL97, sL98, sL99, sL100, sR76_5, sR76_16, sR76_18, sR76_19, sR76_20, sR76_21, sR76_23, sR76_25, sR76_26, sR76_27, sR76_28, sR76_29, sR76_30, sR76_31, sR76_32, sR76_33, sR76_34, sR76_37, sR76_38, sR76_39, sR76_40, sR76_41, sR76_42, ↓sB76_5, ↓sB76_16, ↓sB76_18, ↓sB76_19, ↓sB76_20, ↓sB76_21, ↓sB76_23, ↓sB76_25, ↓sB76_26, ↓sB76_27, ↓sB76_28, ↓sB76_29, ↓sB76_30, ↓sB76_31, ↓sB76_32, ↓sB76_33, ↓sB76_34, ↓sB76_37, ↓sB76_38, ↓sB76_39, ↓sB76_40, ↓sB76_41, ↓sB76_42, (hw j hj).1]
  · show bX12_isPicked_2 h 76 (iI x) (iI a) (iI a) h = _
    unfold bX12_isPicked_2
    simp (maxSteps := 1000000) (disch := (first | assumption | exact ne_b rfl | omega)) only [↓reduceIte, ↓zlet_eq, ↓bdR_sI, ↓bdR_sJ, ↓bdR_aI, zc2_some, Option.bind_some, ↓si_m1, ↓si_m2, ↓si_m3, iI_lit, iI_add, iI_sub, iI_mul, leT, leF, ltT, ltF, eqT, eqF, zinT, clI, Int.toNat_natCast, tN1, tNa, tN0, tNm, if_pos, if_neg, zI_sI, zI_sJ, zI_sR, zJ_sI, zJ_sJ, zJ_sR, zR_sI, zR_sJ, zR_sR, zK_sI, zK_sJ, zK_sR, zL_sI, zL_sJ, zL_sR, zI_aI, zJ_aI, zR_aI, zK_aI, zL_aI, z2_at, z2_a, z2_k, z1_self, z1_ne, true_and, and_true, bIt, bIf, Bool.false_eq_true, Bool.true_eq_false, eq_self, not_true_eq_false, not_false_eq_true]
  · by_cases c : zfst (fun j => decide (w j = x)) a < a
    · have := of_decide_eq_true (zfst_at c)
      have e : (fmask w a).testBit x = true := (fmask_bit w x a).mpr ⟨_, c, this⟩
      rw [if_pos c, e]
      rfl
    · have e : (fmask w a).testBit x = false := by
        cases q : (fmask w a).testBit x
        · rfl
        · obtain ⟨i, h1, h2⟩ := (fmask_bit w x a).mp q
          have hz := zfst_le (fun j => decide (w j = x)) a
          have := zfst_before (P := fun j => decide (w j = x)) (n := a) (i := i) (by omega)
          exact absurd h2 (of_decide_eq_false this)
      rw [if_neg c, e]
      rfl
theorem next_j {tr n c a : Nat} {t : Tk} {w : Nat → Nat} {h : Zh} (s : St h) (r3 : zR h 76 3 = some tr) (q : Tr h tr t) (hn : n = tn t) (hn12 : n ≤ 12) (hc : c ≤ n) (ha : a ≤ 5) (hw : ∀ i, i < a → zI h 79 i = iI (w i) ∧ w i < 2147483648) : jX12_next_46 h 76 (iI a) (iI c) h = some (iI (folN (fun y => (fmask w a).testBit y) n 20 c), h) := by
  unfold jX12_next_46
  have hz := folN_z (u := fun y => (fmask w a).testBit y) (n := n) (f := 20) (c := c) (by omega) hc
  have hl := folN_le (u := fun y => (fmask w a).testBit y) (n := n) 20 c
  refine (lp_sb (st := fun j => ((iI ((c + j : Nat) : Int), h) : Int32 × Zh)) (fun j => !(fmask w a).testBit (c + j)) 0 0 (fun j => ((iI ((c + j : Nat) : Int), h) : Int32 × Zh)) ((iI n, h) : Int32 × Zh) (n - c) rfl (by omega) ?_ ?_ ?_).trans ?_
  · intro j hj hP
    show bX12_next_46 h 76 (iI a) (iI ((c + j : Nat) : Int)) h = _
    unfold bX12_next_46
    have hP2 : (fmask w a).testBit (c + j) = true := by simpa using hP
    simp (maxSteps := 1000000) (disch := (first | assumption | exact ne_b rfl | omega)) only [↓reduceIte, ↓zlet_eq, ↓bdR_sI, ↓bdR_sJ, ↓bdR_aI, zc2_some, Option.bind_some, ↓si_m1, ↓si_m2, ↓si_m3, iI_lit, iI_add, iI_sub, iI_mul, leT, leF, ltT, ltF, eqT, eqF, zinT, clI, Int.toNat_natCast, tN1, tNa, tN0, tNm, if_pos, if_neg, zI_sI, zI_sJ, zI_sR, zJ_sI, zJ_sJ, zJ_sR, zR_sI, zR_sJ, zR_sR, zK_sI, zK_sJ, zK_sR, zL_sI, zL_sJ, zL_sR, zI_aI, zJ_aI, zR_aI, zK_aI, zL_aI, z2_at, z2_a, z2_k, z1_self, z1_ne, true_and, and_true, bIt, bIf, Bool.false_eq_true, Bool.true_eq_false, eq_self, not_true_eq_false, not_false_eq_true, sK76, sK77, sK78, sK79, sK80, sK81, sK82, sK83, sK84, sK85, sK86, sK87, sK88, sK89, sK90, sK91, sK92, sK93, sK94, sK95, sK96, sK97, sK98, sK99, sK100, sL77, sL78, sL79, sL80, sL81, sL82, sL83, sL84, sL85, sL86, sL87, sL88, sL89, sL90, sL91, sL92, sL93, sL94, sL95, sL96, sL97, sL98, sL99, sL100, sR76_5, sR76_16, sR76_18, sR76_19, sR76_20, sR76_21, sR76_23, sR76_25, sR76_26, sR76_27, sR76_28, sR76_29, sR76_30, sR76_31, sR76_32, sR76_33, sR76_34, sR76_37, sR76_38, sR76_39, sR76_40, sR76_41, sR76_42, ↓sB76_5, ↓sB76_16, ↓sB76_18, ↓sB76_19, ↓sB76_20, ↓sB76_21, ↓sB76_23, ↓sB76_25, ↓sB76_26, ↓sB76_27, ↓sB76_28, ↓sB76_29, ↓sB76_30, ↓sB76_31, ↓sB76_32, ↓sB76_33, ↓sB76_34, ↓sB76_37, ↓sB76_38, ↓sB76_39, ↓sB76_40, ↓sB76_41, ↓sB76_42, ↓bd_of r3, q.fK, q.f0, q.f1, q.f2, q.f3, q.f4, q.f7, q.f8, q.f9, ↓zc_of (fX12_isPicked_eq s ha (show c + j < 2147483648 by omega) hw), hP2]
    rfl
  · intro j hj hP
    show bX12_next_46 h 76 (iI a) (iI ((c + j : Nat) : Int)) h = _
    unfold bX12_next_46
    have hP2 : (fmask w a).testBit (c + j) = false := by simpa using hP
    simp (maxSteps := 1000000) (disch := (first | assumption | exact ne_b rfl | omega)) only [↓reduceIte, ↓zlet_eq, ↓bdR_sI, ↓bdR_sJ, ↓bdR_aI, zc2_some, Option.bind_some, ↓si_m1, ↓si_m2, ↓si_m3, iI_lit, iI_add, iI_sub, iI_mul, leT, leF, ltT, ltF, eqT, eqF, zinT, clI, Int.toNat_natCast, tN1, tNa, tN0, tNm, if_pos, if_neg, zI_sI, zI_sJ, zI_sR, zJ_sI, zJ_sJ, zJ_sR, zR_sI, zR_sJ, zR_sR, zK_sI, zK_sJ, zK_sR, zL_sI, zL_sJ, zL_sR, zI_aI, zJ_aI, zR_aI, zK_aI, zL_aI, z2_at, z2_a, z2_k, z1_self, z1_ne, true_and, and_true, bIt, bIf, Bool.false_eq_true, Bool.true_eq_false, eq_self, not_true_eq_false, not_false_eq_true, sK76, sK77, sK78, sK79, sK80, sK81, sK82, sK83, sK84, sK85, sK86, sK87, sK88, sK89, sK90, sK91, sK92, sK93, sK94, sK95, sK96, sK97, sK98, sK99, sK100, sL77, sL78, sL79, sL80, sL81, sL82, sL83, sL84, sL85, sL86, sL87, sL88, sL89, sL90, sL91, sL92, sL93, sL94, sL95, sL96, sL97, sL98, sL99, sL100, sR76_5, sR76_16, sR76_18, sR76_19, sR76_20, sR76_21, sR76_23, sR76_25, sR76_26, sR76_27, sR76_28, sR76_29, sR76_30, sR76_31, sR76_32, sR76_33, sR76_34, sR76_37, sR76_38, sR76_39, sR76_40, sR76_41, sR76_42, ↓sB76_5, ↓sB76_16, ↓sB76_18, ↓sB76_19, ↓sB76_20, ↓sB76_21, ↓sB76_23, ↓sB76_25, ↓sB76_26, ↓sB76_27, ↓sB76_28, ↓sB76_29, ↓sB76_30, ↓sB76_31, ↓sB76_32, ↓sB76_33, ↓sB76_34, ↓sB76_37, ↓sB76_38, ↓sB76_39, ↓sB76_40, ↓sB76_41, ↓sB76_42, ↓bd_of r3, q.fK, q.f0, q.f1, q.f2, q.f3, q.f4, q.f7, q.f8, q.f9, ↓zc_of (fX12_isPicked_eq s ha (show c + j < 2147483648 by omega) hw), hP2]
  · show bX12_next_46 h 76 (iI a) (iI ((c + (n - c) : Nat) : Int)) h = _
    unfold bX12_next_46
    rw [show c + (n - c) = n by omega]
    simp (maxSteps := 1000000) (disch := (first | assumption | exact ne_b rfl | omega)) only [↓reduceIte, ↓zlet_eq, ↓bdR_sI, ↓bdR_sJ, ↓bdR_aI, zc2_some, Option.bind_some, ↓si_m1, ↓si_m2, ↓si_m3, iI_lit, iI_add, iI_sub, iI_mul, leT, leF, ltT, ltF, eqT, eqF, zinT, clI, Int.toNat_natCast, tN1, tNa, tN0, tNm, if_pos, if_neg, zI_sI, zI_sJ, zI_sR, zJ_sI, zJ_sJ, zJ_sR, zR_sI, zR_sJ, zR_sR, zK_sI, zK_sJ, zK_sR, zL_sI, zL_sJ, zL_sR, zI_aI, zJ_aI, zR_aI, zK_aI, zL_aI, z2_at, z2_a, z2_k, z1_self, z1_ne, true_and, and_true, bIt, bIf, Bool.false_eq_true, Bool.true_eq_false, eq_self, not_true_eq_false, not_false_eq_true, sK76, sK77, sK78, sK79, sK80, sK81, sK82, sK83, sK84, sK85, sK86, sK87, sK88, sK89, sK90, sK91, sK92, sK93, sK94, sK95, sK96, sK97, sK98, sK99, sK100, sL77, sL78, sL79, sL80, sL81, sL82, sL83, sL84, sL85, sL86, sL87, sL88, sL89, sL90, sL91, sL92, sL93, sL94, sL95, sL96, sL97, sL98, sL99, sL100, sR76_5, sR76_16, sR76_18, sR76_19, sR76_20, sR76_21, sR76_23, sR76_25, sR76_26, sR76_27, sR76_28, sR76_29, sR76_30, sR76_31, sR76_32, sR76_33, sR76_34, sR76_37, sR76_38, sR76_39, sR76_40, sR76_41, sR76_42, ↓sB76_5, ↓sB76_16, ↓sB76_18, ↓sB76_19, ↓sB76_20, ↓sB76_21, ↓sB76_23, ↓sB76_25, ↓sB76_26, ↓sB76_27, ↓sB76_28, ↓sB76_29, ↓sB76_30, ↓sB76_31, ↓sB76_32, ↓sB76_33, ↓sB76_34, ↓sB76_37, ↓sB76_38, ↓sB76_39, ↓sB76_40, ↓sB76_41, ↓sB76_42, ↓bd_of r3, q.fK, q.f0, q.f1, q.f2, q.f3, q.f4, q.f7, q.f8, q.f9]
  · by_cases c1 : zfst (fun j => !(fmask w a).testBit (c + j)) (n - c) < n - c
    · rw [if_pos c1]
      show kX12_next_46 h 76 1 (iI ((c + zfst (fun j => !(fmask w a).testBit (c + j)) (n - c) : Nat) : Int)) h = _
      rw [hz]
      unfold kX12_next_46
      simp (maxSteps := 1000000) (disch := (first | assumption | exact ne_b rfl | omega)) only [↓reduceIte, ↓zlet_eq, ↓bdR_sI, ↓bdR_sJ, ↓bdR_aI, zc2_some, Option.bind_some, ↓si_m1, ↓si_m2, ↓si_m3, iI_lit, iI_add, iI_sub, iI_mul, leT, leF, ltT, ltF, eqT, eqF, zinT, clI, Int.toNat_natCast, tN1, tNa, tN0, tNm, if_pos, if_neg, zI_sI, zI_sJ, zI_sR, zJ_sI, zJ_sJ, zJ_sR, zR_sI, zR_sJ, zR_sR, zK_sI, zK_sJ, zK_sR, zL_sI, zL_sJ, zL_sR, zI_aI, zJ_aI, zR_aI, zK_aI, zL_aI, z2_at, z2_a, z2_k, z1_self, z1_ne, true_and, and_true, bIt, bIf, Bool.false_eq_true, Bool.true_eq_false, eq_self, not_true_eq_false, not_false_eq_true, sK76, sK77, sK78, sK79, sK80, sK81, sK82, sK83, sK84, sK85, sK86, sK87, sK88, sK89, sK90, sK91, sK92, sK93, sK94, sK95, sK96, sK97, sK98, sK99, sK100, sL77, sL78, sL79, sL80, sL81, sL82, sL83, sL84, sL85, sL86, sL87, sL88, sL89, sL90, sL91, sL92, sL93, sL94, sL95, sL96, sL97, sL98, sL99, sL100, sR76_5, sR76_16, sR76_18, sR76_19, sR76_20, sR76_21, sR76_23, sR76_25, sR76_26, sR76_27, sR76_28, sR76_29, sR76_30, sR76_31, sR76_32, sR76_33, sR76_34, sR76_37, sR76_38, sR76_39, sR76_40, sR76_41, sR76_42, ↓sB76_5, ↓sB76_16, ↓sB76_18, ↓sB76_19, ↓sB76_20, ↓sB76_21, ↓sB76_23, ↓sB76_25, ↓sB76_26, ↓sB76_27, ↓sB76_28, ↓sB76_29, ↓sB76_30, ↓sB76_31, ↓sB76_32, ↓sB76_33, ↓sB76_34, ↓sB76_37, ↓sB76_38, ↓sB76_39, ↓sB76_40, ↓sB76_41, ↓sB76_42, ↓bd_of r3, q.fK, q.f0, q.f1, q.f2, q.f3, q.f4, q.f7, q.f8, q.f9]
    · rw [if_neg c1]
      have hz2 := zfst_le (fun j => !(fmask w a).testBit (c + j)) (n - c)
      show kX12_next_46 h 76 1 (iI n) h = _
      rw [← hz, show c + zfst (fun j => !(fmask w a).testBit (c + j)) (n - c) = n by omega]
      unfold kX12_next_46
      simp (maxSteps := 1000000) (disch := (first | assumption | exact ne_b rfl | omega)) only [↓reduceIte, ↓zlet_eq, ↓bdR_sI, ↓bdR_sJ, ↓bdR_aI, zc2_some, Option.bind_some, ↓si_m1, ↓si_m2, ↓si_m3, iI_lit, iI_add, iI_sub, iI_mul, leT, leF, ltT, ltF, eqT, eqF, zinT, clI, Int.toNat_natCast, tN1, tNa, tN0, tNm, if_pos, if_neg, zI_sI, zI_sJ, zI_sR, zJ_sI, zJ_sJ, zJ_sR, zR_sI, zR_sJ, zR_sR, zK_sI, zK_sJ, zK_sR, zL_sI, zL_sJ, zL_sR, zI_aI, zJ_aI, zR_aI, zK_aI, zL_aI, z2_at, z2_a, z2_k, z1_self, z1_ne, true_and, and_true, bIt, bIf, Bool.false_eq_true, Bool.true_eq_false, eq_self, not_true_eq_false, not_false_eq_true, sK76, sK77, sK78, sK79, sK80, sK81, sK82, sK83, sK84, sK85, sK86, sK87, sK88, sK89, sK90, sK91, sK92, sK93, sK94, sK95, sK96, sK97, sK98, sK99, sK100, sL77, sL78, sL79, sL80, sL81, sL82, sL83, sL84, sL85, sL86, sL87, sL88, sL89, sL90, sL91, sL92, sL93, sL94, sL95, sL96, sL97, sL98, sL99, sL100, sR76_5, sR76_16, sR76_18, sR76_19, sR76_20, sR76_21, sR76_23, sR76_25, sR76_26, sR76_27, sR76_28, sR76_29, sR76_30, sR76_31, sR76_32, sR76_33, sR76_34, sR76_37, sR76_38, sR76_39, sR76_40, sR76_41, sR76_42, ↓sB76_5, ↓sB76_16, ↓sB76_18, ↓sB76_19, ↓sB76_20, ↓sB76_21, ↓sB76_23, ↓sB76_25, ↓sB76_26, ↓sB76_27, ↓sB76_28, ↓sB76_29, ↓sB76_30, ↓sB76_31, ↓sB76_32, ↓sB76_33, ↓sB76_34, ↓sB76_37, ↓sB76_38, ↓sB76_39, ↓sB76_40, ↓sB76_41, ↓sB76_42, ↓bd_of r3, q.fK, q.f0, q.f1, q.f2, q.f3, q.f4, q.f7, q.f8, q.f9]
      rw [hn]
/-- what the model's search stands at -/
def effC (rs : Bool) (p : List Nat) (v : Int) : Int := if rs = true ∧ 0 < p.length ∧ v + 1 ≤ pw p (p.length - 1) then (pw p (p.length - 1) : Int) + 1 else v + 1
theorem nxt_pick {rs : Bool} {p : List Nat} {n c : Nat} (hr : rs = true → ∀ i, i < p.length → pw p i < c) : folN (fun y => (fmask (pw p) p.length).testBit y) n 20 c = nxt rs p n c := by
  unfold nxt
  refine folN_congr 20 c (fun y h1 _ => ?_)
  rw [pw_mem]
  cases rs
  · simp
  · simp only [Bool.not_true, Bool.false_and]
    cases e : p.contains y
    · rfl
    · rw [List.contains_iff_mem] at e
      obtain ⟨i, h2, h3⟩ := pw_in e
      have := hr rfl i h2
      omega
theorem fX12_next_eq {tr c : Nat} {t : Tk} {p : List Nat} {v : Int} {h : Zh} (s : St h) (r3 : zR h 76 3 = some tr) (q : Tr h tr t) (tok : Tok t) (hp : p.length < 5) (hpn : ∀ i, i < p.length → zI h 79 i = iI (pw p i) ∧ pw p i < tn t) (hv : zI h 79 p.length = iI v) (hv1 : -1 ≤ v) (hv2 : v < 100) (hc : (c : Int) = effC (!tst t) p v) (hcn : c ≤ tn t) (hr : (!tst t) = true → ∀ i, i < p.length → pw p i < c) : fX12_next 76 (iI p.length) h = some (iI (nxt (!tst t) p (tn t) c), h) := by
  obtain ⟨bn4, bn12, bu1, bu4, bnu, bk2, bk5, bkn, bp1, bp2, bpk, bH, bsp, bs1, bs4, bT1, bT16, bR1, bR2, bH1, bff, bff1⟩ := tok.b
  have hj := next_j (tr := tr) (n := tn t) (c := c) (a := p.length) (t := t) (w := pw p) (h := h) s r3 q rfl bn12 hcn (by omega) (fun i hi => ⟨(hpn i hi).1, by have := (hpn i hi).2; omega⟩)
  rw [nxt_pick hr] at hj
  unfold fX12_next
  unfold effC at hc
  simp (maxSteps := 1000000) (disch := (first | assumption | exact ne_b rfl | omega)) only [↓reduceIte, ↓zlet_eq, ↓bdR_sI, ↓bdR_sJ, ↓bdR_aI, zc2_some, Option.bind_some, ↓si_m1, ↓si_m2, ↓si_m3, iI_lit, iI_add, iI_sub, iI_mul, leT, leF, ltT, ltF, eqT, eqF, zinT, clI, Int.toNat_natCast, tN1, tNa, tN0, tNm, if_pos, if_neg, zI_sI, zI_sJ, zI_sR, zJ_sI, zJ_sJ, zJ_sR, zR_sI, zR_sJ, zR_sR, zK_sI, zK_sJ, zK_sR, zL_sI, zL_sJ, zL_sR, zI_aI, zJ_aI, zR_aI, zK_aI, zL_aI, z2_at, z2_a, z2_k, z1_self, z1_ne, true_and, and_true, bIt, bIf, Bool.false_eq_true, Bool.true_eq_false, eq_self, not_true_eq_false, not_false_eq_true, sK76, sK77, sK78, sK79, sK80, sK81, sK82, sK83, sK84, sK85, sK86, sK87, sK88, sK89, sK90, sK91, sK92, sK93, sK94, sK95, sK96, sK97, sK98, sK99, sK100, sL77, sL78, sL79, sL80, sL81, sL82, sL83, sL84, sL85, sL86, sL87, sL88, sL89, sL90, sL91, sL92, sL93, sL94, sL95, sL96, sL97, sL98, sL99, sL100, sR76_5, sR76_16, sR76_18, sR76_19, sR76_20, sR76_21, sR76_23, sR76_25, sR76_26, sR76_27, sR76_28, sR76_29, sR76_30, sR76_31, sR76_32, sR76_33, sR76_34, sR76_37, sR76_38, sR76_39, sR76_40, sR76_41, sR76_42, ↓sB76_5, ↓sB76_16, ↓sB76_18, ↓sB76_19, ↓sB76_20, ↓sB76_21, ↓sB76_23, ↓sB76_25, ↓sB76_26, ↓sB76_27, ↓sB76_28, ↓sB76_29, ↓sB76_30, ↓sB76_31, ↓sB76_32, ↓sB76_33, ↓sB76_34, ↓sB76_37, ↓sB76_38, ↓sB76_39, ↓sB76_40, ↓sB76_41, ↓sB76_42, ↓bd_of r3, q.fK, q.f0, q.f1, q.f2, q.f3, q.f4, q.f7, q.f8, q.f9, hv, bI0]
  cases est : tst t
  · rw [est] at hc hj
    simp only [Bool.not_false, true_and] at hc hj
    by_cases c0 : p.length = 0
    · rw [if_neg (by omega)] at hc
      simp (maxSteps := 1000000) (disch := (first | assumption | exact ne_b rfl | omega)) only [↓reduceIte, ↓zlet_eq, ↓bdR_sI, ↓bdR_sJ, ↓bdR_aI, zc2_some, Option.bind_some, ↓si_m1, ↓si_m2, ↓si_m3, iI_lit, iI_add, iI_sub, iI_mul, leT, leF, ltT, ltF, eqT, eqF, zinT, clI, Int.toNat_natCast, tN1, tNa, tN0, tNm, if_pos, if_neg, zI_sI, zI_sJ, zI_sR, zJ_sI, zJ_sJ, zJ_sR, zR_sI, zR_sJ, zR_sR, zK_sI, zK_sJ, zK_sR, zL_sI, zL_sJ, zL_sR, zI_aI, zJ_aI, zR_aI, zK_aI, zL_aI, z2_at, z2_a, z2_k, z1_self, z1_ne, true_and, and_true, bIt, bIf, Bool.false_eq_true, Bool.true_eq_false, eq_self, not_true_eq_false, not_false_eq_true]
      rw [← hc]
      exact hj
    · have hq := hpn (p.length - 1) (by omega)
      have e1 : (p.length : Int) - 1 = ((p.length - 1 : Nat) : Int) := by omega
      have hq2 := hq.2
      by_cases c1 : v + 1 ≤ pw p (p.length - 1)
      · rw [if_pos ⟨by omega, c1⟩] at hc
        simp (maxSteps := 1000000) (disch := (first | assumption | exact ne_b rfl | omega)) only [↓reduceIte, ↓zlet_eq, ↓bdR_sI, ↓bdR_sJ, ↓bdR_aI, zc2_some, Option.bind_some, ↓si_m1, ↓si_m2, ↓si_m3, iI_lit, iI_add, iI_sub, iI_mul, leT, leF, ltT, ltF, eqT, eqF, zinT, clI, Int.toNat_natCast, tN1, tNa, tN0, tNm, if_pos, if_neg, zI_sI, zI_sJ, zI_sR, zJ_sI, zJ_sJ, zJ_sR, zR_sI, zR_sJ, zR_sR, zK_sI, zK_sJ, zK_sR, zL_sI, zL_sJ, zL_sR, zI_aI, zJ_aI, zR_aI, zK_aI, zL_aI, z2_at, z2_a, z2_k, z1_self, z1_ne, true_and, and_true, bIt, bIf, Bool.false_eq_true, Bool.true_eq_false, eq_self, not_true_eq_false, not_false_eq_true, e1, hq.1]
        rw [← hc]
        exact hj
      · rw [if_neg (by omega)] at hc
        simp (maxSteps := 1000000) (disch := (first | assumption | exact ne_b rfl | omega)) only [↓reduceIte, ↓zlet_eq, ↓bdR_sI, ↓bdR_sJ, ↓bdR_aI, zc2_some, Option.bind_some, ↓si_m1, ↓si_m2, ↓si_m3, iI_lit, iI_add, iI_sub, iI_mul, leT, leF, ltT, ltF, eqT, eqF, zinT, clI, Int.toNat_natCast, tN1, tNa, tN0, tNm, if_pos, if_neg, zI_sI, zI_sJ, zI_sR, zJ_sI, zJ_sJ, zJ_sR, zR_sI, zR_sJ, zR_sR, zK_sI, zK_sJ, zK_sR, zL_sI, zL_sJ, zL_sR, zI_aI, zJ_aI, zR_aI, zK_aI, zL_aI, z2_at, z2_a, z2_k, z1_self, z1_ne, true_and, and_true, bIt, bIf, Bool.false_eq_true, Bool.true_eq_false, eq_self, not_true_eq_false, not_false_eq_true, e1, hq.1]
        rw [← hc]
        exact hj
  · rw [est] at hc hj
    simp only [Bool.not_true, Bool.false_eq_true, false_and, if_false] at hc hj
    simp (maxSteps := 1000000) (disch := (first | assumption | exact ne_b rfl | omega)) only [↓reduceIte, ↓zlet_eq, ↓bdR_sI, ↓bdR_sJ, ↓bdR_aI, zc2_some, Option.bind_some, ↓si_m1, ↓si_m2, ↓si_m3, iI_lit, iI_add, iI_sub, iI_mul, leT, leF, ltT, ltF, eqT, eqF, zinT, clI, Int.toNat_natCast, tN1, tNa, tN0, tNm, if_pos, if_neg, zI_sI, zI_sJ, zI_sR, zJ_sI, zJ_sJ, zJ_sR, zR_sI, zR_sJ, zR_sR, zK_sI, zK_sJ, zK_sR, zL_sI, zL_sJ, zL_sR, zI_aI, zJ_aI, zR_aI, zK_aI, zL_aI, z2_at, z2_a, z2_k, z1_self, z1_ne, true_and, and_true, bIt, bIf, Bool.false_eq_true, Bool.true_eq_false, eq_self, not_true_eq_false, not_false_eq_true]
    rw [← hc]
    exact hj
theorem deals_leaf {tr cnt : Nat} {t : Tk} {w : Nat → Nat} {g h : Zh} (sg : St g) (s : St h) (r3 : zR h 76 3 = some tr) (qg : zK g tr = 11) (q : Tr h tr t) (tok : Tok t) (htr : tr ≠ 78) (hw : ∀ i, i < tk t → zI h 79 i = iI (w i) ∧ w i < 128) (h17 : zI h 76 17 = iI cnt) (hcnt : cnt < 2000) : lp (fun q : Int32 × Zh => bX12_deals_86 g 76 q.1 q.2) zB (iI 0, h) = some (1, (iI (tk t), zaI h 78 (fun j => if 5 * cnt ≤ j ∧ j < 5 * cnt + tk t then iI (w (j - 5 * cnt)) else zI h 78 j))) := by
  obtain ⟨bn4, bn12, bu1, bu4, bnu, bk2, bk5, bkn, bp1, bp2, bpk, bH, bsp, bs1, bs4, bT1, bT16, bR1, bR2, bH1, bff, bff1⟩ := tok.b
  refine lp_for0 (st := fun i => ((iI (i : Int), zaI h 78 (fun j => if 5 * cnt ≤ j ∧ j < 5 * cnt + i then iI (w (j - 5 * cnt)) else zI h 78 j)) : Int32 × Zh)) (e := 0) (tk t) ?_ (by omega) ?_ ?_
  · have e : (fun j => if 5 * cnt ≤ j ∧ j < 5 * cnt + 0 then iI (w (j - 5 * cnt)) else zI h 78 j) = zI h 78 := by
      funext j
      rw [if_neg (by omega)]
    simp only [e, zaI_self]
    rfl
  · intro i hi
    show bX12_deals_86 g 76 (iI i) (zaI h 78 _) = _
    unfold bX12_deals_86
    have hw2 := (hw i hi).2
    have e1 : ((5 : Int) * (cnt : Int) + (i : Int)) = ((5 * cnt + i : Nat) : Int) := by omega
    simp (maxSteps := 1000000) (disch := (first | assumption | exact ne_b rfl | omega)) only [↓reduceIte, ↓zlet_eq, ↓bdR_sI, ↓bdR_sJ, ↓bdR_aI, zc2_some, Option.bind_some, ↓si_m1, ↓si_m2, ↓si_m3, iI_lit, iI_add, iI_sub, iI_mul, leT, leF, ltT, ltF, eqT, eqF, zinT, clI, Int.toNat_natCast, tN1, tNa, tN0, tNm, if_pos, if_neg, zI_sI, zI_sJ, zI_sR, zJ_sI, zJ_sJ, zJ_sR, zR_sI, zR_sJ, zR_sR, zK_sI, zK_sJ, zK_sR, zL_sI, zL_sJ, zL_sR, zI_aI, zJ_aI, zR_aI, zK_aI, zL_aI, z2_at, z2_a, z2_k, z1_self, z1_ne, true_and, and_true, bIt, bIf, Bool.false_eq_true, Bool.true_eq_false, eq_self, not_true_eq_false, not_false_eq_true, sK76, sK77, sK78, sK79, sK80, sK81, sK82, sK83, sK84, sK85, sK86, sK87, sK88, sK89, sK90, sK91, sK92, sK93, sK94, sK95, sK96, sK97, sK98, sK99, sK100, sL77, sL78, sL79, sL80, sL81, sL82, sL83, sL84, sL85, sL86, sL87, sL88, sL89, sL90, sL91, sL92, sL93, sL94, sL95, sL96, sL97, sL98, sL99, sL100, sR76_5, sR76_16, sR76_18, sR76_19, sR76_20, sR76_21, sR76_23, sR76_25, sR76_26, sR76_27, sR76_28, sR76_29, sR76_30, sR76_31, sR76_32, sR76_33, sR76_34, sR76_37, sR76_38, sR76_39, sR76_40, sR76_41, sR76_42, ↓sB76_5, ↓sB76_16, ↓sB76_18, ↓sB76_19, ↓sB76_20, ↓sB76_21, ↓sB76_23, ↓sB76_25, ↓sB76_26, ↓sB76_27, ↓sB76_28, ↓sB76_29, ↓sB76_30, ↓sB76_31, ↓sB76_32, ↓sB76_33, ↓sB76_34, ↓sB76_37, ↓sB76_38, ↓sB76_39, ↓sB76_40, ↓sB76_41, ↓sB76_42, ↓bd_of r3, qg, q.fK, q.f0, q.f1, q.f2, q.f3, q.f4, q.f7, q.f8, q.f9, h17, (hw i hi).1, e1, si_byte, zsI_aI]
    rw [show (i : Int) + 1 = ((i + 1 : Nat) : Int) by omega]
    congr 4
    funext j
    unfold z1
    dsimp only
    by_cases c : j = 5 * cnt + i
    · rw [if_pos c, if_pos (by omega), show j - 5 * cnt = i by omega]
    · rw [if_neg c]
      by_cases c2 : 5 * cnt ≤ j ∧ j < 5 * cnt + i
      · rw [if_pos c2, if_pos (by omega)]
      · rw [if_neg c2, if_neg (by omega)]
  · show bX12_deals_86 g 76 (iI (tk t)) (zaI h 78 _) = _
    unfold bX12_deals_86
    simp (maxSteps := 1000000) (disch := (first | assumption | exact ne_b rfl | omega)) only [↓reduceIte, ↓zlet_eq, ↓bdR_sI, ↓bdR_sJ, ↓bdR_aI, zc2_some, Option.bind_some, ↓si_m1, ↓si_m2, ↓si_m3, iI_lit, iI_add, iI_sub, iI_mul, leT, leF, ltT, ltF, eqT, eqF, zinT, clI, Int.toNat_natCast, tN1, tNa, tN0, tNm, if_pos, if_neg, zI_sI, zI_sJ, zI_sR, zJ_sI, zJ_sJ, zJ_sR, zR_sI, zR_sJ, zR_sR, zK_sI, zK_sJ, zK_sR, zL_sI, zL_sJ, zL_sR, zI_aI, zJ_aI, zR_aI, zK_aI, zL_aI, z2_at, z2_a, z2_k, z1_self, z1_ne, true_and, and_true, bIt, bIf, Bool.false_eq_true, Bool.true_eq_false, eq_self, not_true_eq_false, not_false_eq_true, sK76, sK77, sK78, sK79, sK80, sK81, sK82, sK83, sK84, sK85, sK86, sK87, sK88, sK89, sK90, sK91, sK92, sK93, sK94, sK95, sK96, sK97, sK98, sK99, sK100, sL77, sL78, sL79, sL80, sL81, sL82, sL83, sL84, sL85, sL86, sL87, sL88, sL89, sL90, sL91, sL92, sL93, sL94, sL95, sL96, sL97, sL98, sL99, sL100, sR76_5, sR76_16, sR76_18, sR76_19, sR76_20, sR76_21, sR76_23, sR76_25, sR76_26, sR76_27, sR76_28, sR76_29, sR76_30, sR76_31, sR76_32, sR76_33, sR76_34, sR76_37, sR76_38, sR76_39, sR76_40, sR76_41, sR76_42, ↓sB76_5, ↓sB76_16, ↓sB76_18, ↓sB76_19, ↓sB76_20, ↓sB76_21, ↓sB76_23, ↓sB76_25, ↓sB76_26, ↓sB76_27, ↓sB76_28, ↓sB76_29, ↓sB76_30, ↓sB76_31, ↓sB76_32, ↓sB76_33, ↓sB76_34, ↓sB76_37, ↓sB76_38, ↓sB76_39, ↓sB76_40, ↓sB76_41, ↓sB76_42, ↓bd_of r3, qg, q.fK, q.f0, q.f1, q.f2, q.f3, q.f4, q.f7, q.f8, q.f9]
theorem deals_step {tr cnt c : Nat} {t : Tk} {p : List Nat} {v : Int} {g h : Zh} (sg : St g) (s : St h) (r3 : zR h 76 3 = some tr) (qg : zK g tr = 11) (q : Tr h tr t) (tok : Tok t) (htr : 101 ≤ tr) (hp : p.length < tk t) (hpn : ∀ i, i < p.length → zI h 79 i = iI (pw p i) ∧ pw p i < tn t) (hv : zI h 79 p.length = iI v) (hv1 : -1 ≤ v) (hv2 : v < 100) (hc : (c : Int) = effC (!tst t) p v) (hcn : c ≤ tn t) (hr : (!tst t) = true → ∀ i, i < p.length → pw p i < c) (h17 : zI h 76 17 = iI cnt) (hcnt : p.length + 1 = tk t → ¬ tn t ≤ nxt (!tst t) p (tn t) c → cnt < 2000) : bX12_deals_27 g 76 (iI p.length) h = if tn t ≤ nxt (!tst t) p (tn t) c then some (0, (iI ((p.length : Int) - 1), zsI h 79 p.length (iI (-1)))) else if p.length + 1 = tk t then some (0, (iI p.length, zsI (zaI (zsI h 79 p.length (iI (nxt (!tst t) p (tn t) c))) 78 (fun j => if 5 * cnt ≤ j ∧ j < 5 * cnt + tk t then iI (pw (nxt (!tst t) p (tn t) c :: p) (j - 5 * cnt)) else zI h 78 j)) 76 17 (iI ((cnt + 1 : Nat) : Int)))) else some (0, (iI ((p.length + 1 : Nat) : Int), zsI h 79 p.length (iI (nxt (!tst t) p (tn t) c)))) := by
  obtain ⟨bn4, bn12, bu1, bu4, bnu, bk2, bk5, bkn, bp1, bp2, bpk, bH, bsp, bs1, bs4, bT1, bT16, bR1, bR2, bH1, bff, bff1⟩ := tok.b
  have e0 := fX12_next_eq s r3 q tok (by omega) hpn hv hv1 hv2 hc hcn hr
  have hx := nxt_le (!tst t) p (tn t) c
  have nt79 : tr ≠ 79 := by omega
  have nt76 : tr ≠ 76 := by omega
  unfold bX12_deals_27
  simp (maxSteps := 1000000) (disch := (first | assumption | exact ne_b rfl | omega)) only [↓reduceIte, ↓zlet_eq, ↓bdR_sI, ↓bdR_sJ, ↓bdR_aI, zc2_some, Option.bind_some, ↓si_m1, ↓si_m2, ↓si_m3, iI_lit, iI_add, iI_sub, iI_mul, leT, leF, ltT, ltF, eqT, eqF, zinT, clI, Int.toNat_natCast, tN1, tNa, tN0, tNm, if_pos, if_neg, zI_sI, zI_sJ, zI_sR, zJ_sI, zJ_sJ, zJ_sR, zR_sI, zR_sJ, zR_sR, zK_sI, zK_sJ, zK_sR, zL_sI, zL_sJ, zL_sR, zI_aI, zJ_aI, zR_aI, zK_aI, zL_aI, z2_at, z2_a, z2_k, z1_self, z1_ne, true_and, and_true, bIt, bIf, Bool.false_eq_true, Bool.true_eq_false, eq_self, not_true_eq_false, not_false_eq_true, sK76, sK77, sK78, sK79, sK80, sK81, sK82, sK83, sK84, sK85, sK86, sK87, sK88, sK89, sK90, sK91, sK92, sK93, sK94, sK95, sK96, sK97, sK98, sK99, sK100, sL77, sL78, sL79, sL80, sL81, sL82, sL83, sL84, sL85, sL86, sL87, sL88, sL89, sL90, sL91, sL92, sL93, sL94, sL95, sL96, sL97, sL98, sL99, sL100, sR76_5, sR76_16, sR76_18, sR76_19, sR76_20, sR76_21, sR76_23, sR76_25, sR76_26, sR76_27, sR76_28, sR76_29, sR76_30, sR76_31, sR76_32, sR76_33, sR76_34, sR76_37, sR76_38, sR76_39, sR76_40, sR76_41, sR76_42, ↓sB76_5, ↓sB76_16, ↓sB76_18, ↓sB76_19, ↓sB76_20, ↓sB76_21, ↓sB76_23, ↓sB76_25, ↓sB76_26, ↓sB76_27, ↓sB76_28, ↓sB76_29, ↓sB76_30, ↓sB76_31, ↓sB76_32, ↓sB76_33, ↓sB76_34, ↓sB76_37, ↓sB76_38, ↓sB76_39, ↓sB76_40, ↓sB76_41, ↓sB76_42, ↓bd_of r3, ↓zc_of e0, qg, q.fK, q.f0, q.f1, q.f2, q.f3, q.f4, q.f7, q.f8, q.f9]
  by_cases c1 : tn t ≤ nxt (!tst t) p (tn t) c
  · have c2 : ((nxt (!tst t) p (tn t) c : Nat) : Int) = (tn t : Int) := by omega
    simp (maxSteps := 1000000) (disch := (first | assumption | exact ne_b rfl | omega)) only [↓reduceIte, ↓zlet_eq, ↓bdR_sI, ↓bdR_sJ, ↓bdR_aI, zc2_some, Option.bind_some, ↓si_m1, ↓si_m2, ↓si_m3, iI_lit, iI_add, iI_sub, iI_mul, leT, leF, ltT, ltF, eqT, eqF, zinT, clI, Int.toNat_natCast, tN1, tNa, tN0, tNm, if_pos, if_neg, zI_sI, zI_sJ, zI_sR, zJ_sI, zJ_sJ, zJ_sR, zR_sI, zR_sJ, zR_sR, zK_sI, zK_sJ, zK_sR, zL_sI, zL_sJ, zL_sR, zI_aI, zJ_aI, zR_aI, zK_aI, zL_aI, z2_at, z2_a, z2_k, z1_self, z1_ne, true_and, and_true, bIt, bIf, Bool.false_eq_true, Bool.true_eq_false, eq_self, not_true_eq_false, not_false_eq_true, c1, c2, zsI_same]
    rfl
  · have c2 : ¬ ((nxt (!tst t) p (tn t) c : Nat) : Int) = (tn t : Int) := by omega
    by_cases c3 : p.length + 1 = tk t
    · have c4 : (p.length : Int) = (tk t : Int) - 1 := by omega
      simp (maxSteps := 1000000) (disch := (first | assumption | exact ne_b rfl | omega)) only [↓reduceIte, ↓zlet_eq, ↓bdR_sI, ↓bdR_sJ, ↓bdR_aI, zc2_some, Option.bind_some, ↓si_m1, ↓si_m2, ↓si_m3, iI_lit, iI_add, iI_sub, iI_mul, leT, leF, ltT, ltF, eqT, eqF, zinT, clI, Int.toNat_natCast, tN1, tNa, tN0, tNm, if_pos, if_neg, zI_sI, zI_sJ, zI_sR, zJ_sI, zJ_sJ, zJ_sR, zR_sI, zR_sJ, zR_sR, zK_sI, zK_sJ, zK_sR, zL_sI, zL_sJ, zL_sR, zI_aI, zJ_aI, zR_aI, zK_aI, zL_aI, z2_at, z2_a, z2_k, z1_self, z1_ne, true_and, and_true, bIt, bIf, Bool.false_eq_true, Bool.true_eq_false, eq_self, not_true_eq_false, not_false_eq_true, c1, c2, c3]
      have hl := deals_leaf (tr := tr) (cnt := cnt) (t := t) (w := pw (nxt (!tst t) p (tn t) c :: p)) (g := g) (h := zsI h 79 p.length (iI (nxt (!tst t) p (tn t) c))) sg (s.sI _ _ _) r3 qg (q.fm (Fm_sI (S := [79]) _ _ _ (by simp)) (by simp; omega)) tok (by omega) (fun i hi => by
        by_cases c5 : i = p.length
        · rw [c5, pw_top]
          exact ⟨by rw [zI_sI, z2_at], by omega⟩
        · rw [pw_low _ _ (by omega)]
          have := hpn i (by omega)
          exact ⟨by rw [zI_sI, z2_k _ _ _ c5]; exact this.1, by omega⟩) (by rw [zI_sI, z2_a _ _ _ _ (by decide)]; exact h17) (hcnt c3 c1)
      have hcn2 := hcnt c3 c1
      refine (lp_bd hl).trans ?_
      show kX12_deals_86 g 76 (iI p.length) 1 (iI (tk t)) (zaI _ 78 _) = _
      unfold kX12_deals_86
      simp (maxSteps := 1000000) (disch := (first | assumption | exact ne_b rfl | omega)) only [↓reduceIte, ↓zlet_eq, ↓bdR_sI, ↓bdR_sJ, ↓bdR_aI, zc2_some, Option.bind_some, ↓si_m1, ↓si_m2, ↓si_m3, iI_lit, iI_add, iI_sub, iI_mul, leT, leF, ltT, ltF, eqT, eqF, zinT, clI, Int.toNat_natCast, tN1, tNa, tN0, tNm, if_pos, if_neg, zI_sI, zI_sJ, zI_sR, zJ_sI, zJ_sJ, zJ_sR, zR_sI, zR_sJ, zR_sR, zK_sI, zK_sJ, zK_sR, zL_sI, zL_sJ, zL_sR, zI_aI, zJ_aI, zR_aI, zK_aI, zL_aI, z2_at, z2_a, z2_k, z1_self, z1_ne, true_and, and_true, bIt, bIf, Bool.false_eq_true, Bool.true_eq_false, eq_self, not_true_eq_false, not_false_eq_true, h17]
      rfl
    · have c4 : ¬ (p.length : Int) = (tk t : Int) - 1 := by omega
      simp (maxSteps := 1000000) (disch := (first | assumption | exact ne_b rfl | omega)) only [↓reduceIte, ↓zlet_eq, ↓bdR_sI, ↓bdR_sJ, ↓bdR_aI, zc2_some, Option.bind_some, ↓si_m1, ↓si_m2, ↓si_m3, iI_lit, iI_add, iI_sub, iI_mul, leT, leF, ltT, ltF, eqT, eqF, zinT, clI, Int.toNat_natCast, tN1, tNa, tN0, tNm, if_pos, if_neg, zI_sI, zI_sJ, zI_sR, zJ_sI, zJ_sJ, zJ_sR, zR_sI, zR_sJ, zR_sR, zK_sI, zK_sJ, zK_sR, zL_sI, zL_sJ, zL_sR, zI_aI, zJ_aI, zR_aI, zK_aI, zL_aI, z2_at, z2_a, z2_k, z1_self, z1_ne, true_and, and_true, bIt, bIf, Bool.false_eq_true, Bool.true_eq_false, eq_self, not_true_eq_false, not_false_eq_true, c1, c2, c3]
      rfl
theorem deals_run {tr : Nat} {t : Tk} (tok : Tok t) (htr : 101 ≤ tr) (g : Zh) (sg : St g) (qg : zK g tr = 11) : ∀ (f : Nat) (p : List Nat) (c cnt N : Nat) (v : Int) (h : Zh), St h → zR h 76 3 = some tr → Tr h tr t → p.length < tk t → (∀ i, i < p.length → zI h 79 i = iI (pw p i) ∧ pw p i < tn t) → zI h 79 p.length = iI v → -1 ≤ v → v < 100 → (c : Int) = effC (!tst t) p v → c ≤ tn t → ((!tst t) = true → (∀ i, i < p.length → pw p i < c) ∧ ∀ j, j < p.length → ∀ i, i < j → pw p i < pw p j) → (∀ i, p.length < i → i < 5 → zI h 79 i = iI (-1)) → zI h 76 17 = iI cnt → f < N → dchk (tn t) (tk t) (!tst t) (tH t) f p c cnt = true → ∃ a h', lp (fun q : Int32 × Zh => bX12_deals_27 g 76 q.1 q.2) N (iI p.length, h) = some (1, (a, h')) ∧ Fm [76, 78, 79] h h' ∧ (∀ j, j ≠ 17 → zI h' 76 j = zI h 76 j) ∧ zI h' 76 17 = iI (tH t) ∧ (∀ j, j < 5 * cnt → zI h' 78 j = zI h 78 j) ∧ ∀ j e, (drun (tn t) (tk t) (!tst t) f p c)[j]? = some e → ∀ i, i < tk t → zI h' 78 (5 * (cnt + j) + i) = iI (pw e i) := by
  obtain ⟨bn4, bn12, bu1, bu4, bnu, bk2, bk5, bkn, bp1, bp2, bpk, bH, bsp, bs1, bs4, bT1, bT16, bR1, bR2, bH1, bff, bff1⟩ := tok.b
  intro f
  induction f with
  | zero => intro p c cnt N v h _ _ _ _ _ _ _ _ _ _ _ _ _ _ q; cases q
  | succ f ih =>
    intro p c cnt N v h s r3 q hp hpn hv hv1 hv2 hc hcn hr hlow h17 hN hd
    obtain ⟨N, rfl⟩ : ∃ M, N = M + 1 := ⟨N - 1, by omega⟩
    have hlen := (dchk_ok _ _ _ _ hd).1
    have hx := nxt_le (!tst t) p (tn t) c
    have hst := deals_step sg s r3 qg q tok htr hp hpn hv hv1 hv2 hc hcn (fun g1 => (hr g1).1) h17 (fun g1 g2 => by
      rw [drun_s, if_neg g2, if_pos g1, List.length_cons] at hlen
      omega)
    have nt : ∀ (x : Nat) (y : Int32), Tr (zsI h 79 x y) tr t := fun x y => q.fm (Fm_sI (S := [79]) _ _ _ (by simp)) (by simp; omega)
    rw [dchk_s] at hd
    rw [drun_s]
    by_cases c1 : tn t ≤ nxt (!tst t) p (tn t) c
    · rw [if_pos c1] at hd hst ⊢
      cases p with
      | nil =>
        obtain ⟨N, rfl⟩ : ∃ M, N = M + 1 := ⟨N - 1, by omega⟩
        have hH : cnt = tH t := Nat.eq_of_beq_eq_true hd
        refine ⟨iI (-1), zsI h 79 0 (iI (-1)), (lp_0 hst).trans (lp_e ?_), Fm_sI _ _ _ (by simp), fun j hj => by rw [zI_sI, z2_a _ _ _ _ (by decide)], by rw [zI_sI, z2_a _ _ _ _ (by decide), h17, hH], fun j hj => by rw [zI_sI, z2_a _ _ _ _ (by decide)], fun j e he => by simp at he⟩
        show bX12_deals_27 g 76 (iI (((0 : Nat) : Int) - 1)) _ = _
        unfold bX12_deals_27
        rw [show (((0 : Nat) : Int) - 1) = -1 by omega]
        simp (maxSteps := 1000000) (disch := (first | assumption | exact ne_b rfl | omega)) only [↓reduceIte, ↓zlet_eq, ↓bdR_sI, ↓bdR_sJ, ↓bdR_aI, zc2_some, Option.bind_some, ↓si_m1, ↓si_m2, ↓si_m3, iI_lit, iI_add, iI_sub, iI_mul, leT, leF, ltT, ltF, eqT, eqF, zinT, clI, Int.toNat_natCast, tN1, tNa, tN0, tNm, if_pos, if_neg, zI_sI, zI_sJ, zI_sR, zJ_sI, zJ_sJ, zJ_sR, zR_sI, zR_sJ, zR_sR, zK_sI, zK_sJ, zK_sR, zL_sI, zL_sJ, zL_sR, zI_aI, zJ_aI, zR_aI, zK_aI, zL_aI, z2_at, z2_a, z2_k, z1_self, z1_ne, true_and, and_true, bIt, bIf, Bool.false_eq_true, Bool.true_eq_false, eq_self, not_true_eq_false, not_false_eq_true]
        rfl
      | cons y p =>
        have hp2 : p.length + 1 < tk t := by simpa using hp
        have hy := hpn p.length (by simp)
        rw [pw_top] at hy
        have hpn2 : ∀ i, i < p.length → zI h 79 i = iI (pw p i) ∧ pw p i < tn t := fun i hi => by
          have := hpn i (by simp; omega)
          rw [pw_low _ _ hi] at this
          exact this
        have hrr : (!tst t) = true → (∀ i, i < p.length → pw p i < y) ∧ ∀ j, j < p.length → ∀ i, i < j → pw p i < pw p j := fun g1 => ⟨fun i hi => by
          have := (hr g1).2 p.length (by simp) i hi
          rw [pw_top, pw_low _ _ hi] at this
          exact this, fun j hj i hi => by
          have := (hr g1).2 j (by simp; omega) i hi
          rw [pw_low _ _ hj, pw_low _ _ (by omega)] at this
          exact this⟩
        obtain ⟨a, h', r1, r2, r4, r5, r6, r7⟩ := ih p (y + 1) cnt N y (zsI h 79 (p.length + 1) (iI (-1))) (s.sI _ _ _) r3 (nt _ _) (by omega) (fun i hi => ⟨by rw [zI_sI, z2_k _ _ _ (by omega)]; exact (hpn2 i hi).1, (hpn2 i hi).2⟩) (by rw [zI_sI, z2_k _ _ _ (by omega)]; exact hy.1) (by omega) (by omega) (by
          unfold effC
          rw [if_neg]
          · omega
          · rintro ⟨g1, g2, g3⟩
            have := (hrr g1).1 (p.length - 1) (by omega)
            omega) (by omega) (fun g1 => ⟨fun i hi => by have := (hrr g1).1 i hi; omega, (hrr g1).2⟩) (fun i h1 h2 => by
          by_cases c9 : i = p.length + 1
          · rw [c9, zI_sI, z2_at]
          · rw [zI_sI, z2_k _ _ _ c9]
            exact hlow i (by simp; omega) h2) (by rw [zI_sI, z2_a _ _ _ _ (by decide)]; exact h17) (by omega) hd
        have e5 : iI (((y :: p).length : Int) - 1) = iI (p.length : Int) := by
          rw [List.length_cons]; congr 1; omega
        rw [e5] at hst
        refine ⟨a, h', (lp_0 hst).trans r1, (Fm_sI _ _ _ (by simp)).tr r2, fun j hj => by rw [r4 j hj, zI_sI, z2_a _ _ _ _ (by decide)], r5, fun j hj => by rw [r6 j hj, zI_sI, z2_a _ _ _ _ (by decide)], r7⟩
    · rw [if_neg c1] at hd hst ⊢
      by_cases c2 : p.length + 1 = tk t
      · rw [if_pos c2] at hd hst ⊢
        rw [Bool.and_eq_true] at hd
        have e76 : (76 : Nat) ≠ 78 := by decide
        have e79 : (79 : Nat) ≠ 78 := by decide
        have e796 : (79 : Nat) ≠ 76 := by decide
        have e786 : (78 : Nat) ≠ 76 := by decide
        have e769 : (76 : Nat) ≠ 79 := by decide
        obtain ⟨a, h', r1, r2, r4, r5, r6, r7⟩ := ih p (nxt (!tst t) p (tn t) c + 1) (cnt + 1) N (nxt (!tst t) p (tn t) c) (zsI (zaI (zsI h 79 p.length (iI (nxt (!tst t) p (tn t) c))) 78 (fun j => if 5 * cnt ≤ j ∧ j < 5 * cnt + tk t then iI (pw (nxt (!tst t) p (tn t) c :: p) (j - 5 * cnt)) else zI h 78 j)) 76 17 (iI ((cnt + 1 : Nat) : Int))) (((s.sI _ _ _).aI _ _).sI _ _ _) r3 ((((nt _ _).fm (Fm_aI (S := [78]) _ _ (by simp)) (by simp; omega))).fm (Fm_sI (S := [76]) _ _ _ (by simp)) (by simp; omega)) hp (fun i hi => ⟨by simp (maxSteps := 1000000) (disch := (first | assumption | exact ne_b rfl | omega)) only [↓reduceIte, ↓zlet_eq, ↓bdR_sI, ↓bdR_sJ, ↓bdR_aI, zc2_some, Option.bind_some, ↓si_m1, ↓si_m2, ↓si_m3, iI_lit, iI_add, iI_sub, iI_mul, leT, leF, ltT, ltF, eqT, eqF, zinT, clI, Int.toNat_natCast, tN1, tNa, tN0, tNm, if_pos, if_neg, zI_sI, zI_sJ, zI_sR, zJ_sI, zJ_sJ, zJ_sR, zR_sI, zR_sJ, zR_sR, zK_sI, zK_sJ, zK_sR, zL_sI, zL_sJ, zL_sR, zI_aI, zJ_aI, zR_aI, zK_aI, zL_aI, z2_at, z2_a, z2_k, z1_self, z1_ne, true_and, and_true, bIt, bIf, Bool.false_eq_true, Bool.true_eq_false, eq_self, not_true_eq_false, not_false_eq_true, (hpn i hi).1], (hpn i hi).2⟩) (by simp (maxSteps := 1000000) (disch := (first | assumption | exact ne_b rfl | omega)) only [↓reduceIte, ↓zlet_eq, ↓bdR_sI, ↓bdR_sJ, ↓bdR_aI, zc2_some, Option.bind_some, ↓si_m1, ↓si_m2, ↓si_m3, iI_lit, iI_add, iI_sub, iI_mul, leT, leF, ltT, ltF, eqT, eqF, zinT, clI, Int.toNat_natCast, tN1, tNa, tN0, tNm, if_pos, if_neg, zI_sI, zI_sJ, zI_sR, zJ_sI, zJ_sJ, zJ_sR, zR_sI, zR_sJ, zR_sR, zK_sI, zK_sJ, zK_sR, zL_sI, zL_sJ, zL_sR, zI_aI, zJ_aI, zR_aI, zK_aI, zL_aI, z2_at, z2_a, z2_k, z1_self, z1_ne, true_and, and_true, bIt, bIf, Bool.false_eq_true, Bool.true_eq_false, eq_self, not_true_eq_false, not_false_eq_true]) (by omega) (by omega) (by
          unfold effC
          rw [if_neg]
          · omega
          · rintro ⟨g1, g2, g3⟩
            have := (hr g1).1 (p.length - 1) (by omega)
            have := folN_ge (u := fun y => !(!tst t) && p.contains y) 20 c hcn
            unfold nxt at g3
            omega) (by omega) (fun g1 => ⟨fun i hi => by
            have := (hr g1).1 i hi
            have := folN_ge (u := fun y => !(!tst t) && p.contains y) 20 c hcn
            unfold nxt
            omega, (hr g1).2⟩) (fun i h1 h2 => by simp (maxSteps := 1000000) (disch := (first | assumption | exact ne_b rfl | omega)) only [↓reduceIte, ↓zlet_eq, ↓bdR_sI, ↓bdR_sJ, ↓bdR_aI, zc2_some, Option.bind_some, ↓si_m1, ↓si_m2, ↓si_m3, iI_lit, iI_add, iI_sub, iI_mul, leT, leF, ltT, ltF, eqT, eqF, zinT, clI, Int.toNat_natCast, tN1, tNa, tN0, tNm, if_pos, if_neg, zI_sI, zI_sJ, zI_sR, zJ_sI, zJ_sJ, zJ_sR, zR_sI, zR_sJ, zR_sR, zK_sI, zK_sJ, zK_sR, zL_sI, zL_sJ, zL_sR, zI_aI, zJ_aI, zR_aI, zK_aI, zL_aI, z2_at, z2_a, z2_k, z1_self, z1_ne, true_and, and_true, bIt, bIf, Bool.false_eq_true, Bool.true_eq_false, eq_self, not_true_eq_false, not_false_eq_true, hlow i h1 h2]) (by simp (maxSteps := 1000000) (disch := (first | assumption | exact ne_b rfl | omega)) only [↓reduceIte, ↓zlet_eq, ↓bdR_sI, ↓bdR_sJ, ↓bdR_aI, zc2_some, Option.bind_some, ↓si_m1, ↓si_m2, ↓si_m3, iI_lit, iI_add, iI_sub, iI_mul, leT, leF, ltT, ltF, eqT, eqF, zinT, clI, Int.toNat_natCast, tN1, tNa, tN0, tNm, if_pos, if_neg, zI_sI, zI_sJ, zI_sR, zJ_sI, zJ_sJ, zJ_sR, zR_sI, zR_sJ, zR_sR, zK_sI, zK_sJ, zK_sR, zL_sI, zL_sJ, zL_sR, zI_aI, zJ_aI, zR_aI, zK_aI, zL_aI, z2_at, z2_a, z2_k, z1_self, z1_ne, true_and, and_true, bIt, bIf, Bool.false_eq_true, Bool.true_eq_false, eq_self, not_true_eq_false, not_false_eq_true]) (by omega) hd.2
        refine ⟨a, h', (lp_0 hst).trans r1, (((Fm_sI _ _ _ (by simp)).tr (Fm_aI _ _ (by simp))).tr (Fm_sI _ _ _ (by simp))).tr r2, fun j hj => by rw [r4 j hj]; simp (maxSteps := 1000000) (disch := (first | assumption | exact ne_b rfl | omega)) only [↓reduceIte, ↓zlet_eq, ↓bdR_sI, ↓bdR_sJ, ↓bdR_aI, zc2_some, Option.bind_some, ↓si_m1, ↓si_m2, ↓si_m3, iI_lit, iI_add, iI_sub, iI_mul, leT, leF, ltT, ltF, eqT, eqF, zinT, clI, Int.toNat_natCast, tN1, tNa, tN0, tNm, if_pos, if_neg, zI_sI, zI_sJ, zI_sR, zJ_sI, zJ_sJ, zJ_sR, zR_sI, zR_sJ, zR_sR, zK_sI, zK_sJ, zK_sR, zL_sI, zL_sJ, zL_sR, zI_aI, zJ_aI, zR_aI, zK_aI, zL_aI, z2_at, z2_a, z2_k, z1_self, z1_ne, true_and, and_true, bIt, bIf, Bool.false_eq_true, Bool.true_eq_false, eq_self, not_true_eq_false, not_false_eq_true], r5, fun j hj => ?_, fun j e he i hi => ?_⟩
        · rw [r6 j (by omega)]
          simp (maxSteps := 1000000) (disch := (first | assumption | exact ne_b rfl | omega)) only [↓reduceIte, ↓zlet_eq, ↓bdR_sI, ↓bdR_sJ, ↓bdR_aI, zc2_some, Option.bind_some, ↓si_m1, ↓si_m2, ↓si_m3, iI_lit, iI_add, iI_sub, iI_mul, leT, leF, ltT, ltF, eqT, eqF, zinT, clI, Int.toNat_natCast, tN1, tNa, tN0, tNm, if_pos, if_neg, zI_sI, zI_sJ, zI_sR, zJ_sI, zJ_sJ, zJ_sR, zR_sI, zR_sJ, zR_sR, zK_sI, zK_sJ, zK_sR, zL_sI, zL_sJ, zL_sR, zI_aI, zJ_aI, zR_aI, zK_aI, zL_aI, z2_at, z2_a, z2_k, z1_self, z1_ne, true_and, and_true, bIt, bIf, Bool.false_eq_true, Bool.true_eq_false, eq_self, not_true_eq_false, not_false_eq_true]
        · cases j with
          | zero =>
            have : nxt (!tst t) p (tn t) c :: p = e := by simpa using he
            rw [← this, Nat.add_zero, r6 _ (by omega)]
            simp (maxSteps := 1000000) (disch := (first | assumption | exact ne_b rfl | omega)) only [↓reduceIte, ↓zlet_eq, ↓bdR_sI, ↓bdR_sJ, ↓bdR_aI, zc2_some, Option.bind_some, ↓si_m1, ↓si_m2, ↓si_m3, iI_lit, iI_add, iI_sub, iI_mul, leT, leF, ltT, ltF, eqT, eqF, zinT, clI, Int.toNat_natCast, tN1, tNa, tN0, tNm, if_pos, if_neg, zI_sI, zI_sJ, zI_sR, zJ_sI, zJ_sJ, zJ_sR, zR_sI, zR_sJ, zR_sR, zK_sI, zK_sJ, zK_sR, zL_sI, zL_sJ, zL_sR, zI_aI, zJ_aI, zR_aI, zK_aI, zL_aI, z2_at, z2_a, z2_k, z1_self, z1_ne, true_and, and_true, bIt, bIf, Bool.false_eq_true, Bool.true_eq_false, eq_self, not_true_eq_false, not_false_eq_true]
            rw [show 5 * cnt + i - 5 * cnt = i by omega]
          | succ j =>
            rw [List.getElem?_cons_succ] at he
            have := r7 j e he i hi
            rw [show cnt + (j + 1) = cnt + 1 + j by omega]
            exact this
      · rw [if_neg c2] at hd hst ⊢
        have hge := folN_ge (u := fun y => !(!tst t) && p.contains y) 20 c hcn
        have hge2 : c ≤ nxt (!tst t) p (tn t) c := hge
        obtain ⟨a, h', r1, r2, r4, r5, r6, r7⟩ := ih (nxt (!tst t) p (tn t) c :: p) (if (!tst t) then nxt (!tst t) p (tn t) c + 1 else 0) cnt N (-1) (zsI h 79 p.length (iI (nxt (!tst t) p (tn t) c))) (s.sI _ _ _) r3 (nt _ _) (by simp; omega) (fun i hi => by
          have hi2 : i < p.length + 1 := by simpa using hi
          by_cases c4 : i = p.length
          · rw [c4, pw_top]
            exact ⟨by rw [zI_sI, z2_at], by omega⟩
          · rw [pw_low _ _ (by omega)]
            exact ⟨by rw [zI_sI, z2_k _ _ _ c4]; exact (hpn i (by omega)).1, (hpn i (by omega)).2⟩) (by
          rw [List.length_cons, zI_sI, z2_k _ _ _ (by omega)]
          exact hlow _ (by omega) (by omega)) (by omega) (by omega) (by
          unfold effC
          rw [List.length_cons, show p.length + 1 - 1 = p.length by omega, pw_top]
          cases (!tst t)
          · rw [if_neg (by simp)]; rfl
          · rw [if_pos (show true = true ∧ 0 < p.length + 1 ∧ (-1 : Int) + 1 ≤ ((nxt true p (tn t) c : Nat) : Int) from ⟨rfl, by omega, by omega⟩)]; simp) (by split <;> omega) (fun g1 => ⟨fun i hi => by
            have hi2 : i < p.length + 1 := by simpa using hi
            rw [if_pos g1]
            by_cases c4 : i = p.length
            · rw [c4, pw_top]; omega
            · rw [pw_low _ _ (by omega)]
              have := (hr g1).1 i (by omega)
              omega, fun j hj i hi => by
            have hj2 : j < p.length + 1 := by simpa using hj
            by_cases c4 : j = p.length
            · rw [c4, pw_top, pw_low _ _ (by omega)]
              have := (hr g1).1 i (by omega)
              omega
            · rw [pw_low _ _ (by omega), pw_low _ _ (by omega)]
              exact (hr g1).2 j (by omega) i hi⟩) (fun i h1 h2 => by
          rw [List.length_cons] at h1
          rw [zI_sI, z2_k _ _ _ (by omega)]
          exact hlow i (by omega) h2) (by rw [zI_sI, z2_a _ _ _ _ (by decide)]; exact h17) (by omega) hd
        rw [List.length_cons] at r1
        refine ⟨a, h', (lp_0 hst).trans r1, (Fm_sI _ _ _ (by simp)).tr r2, fun j hj => by rw [r4 j hj, zI_sI, z2_a _ _ _ _ (by decide)], r5, fun j hj => by rw [r6 j hj, zI_sI, z2_a _ _ _ _ (by decide)], r7⟩
/-- the cards of all hands, as the model holds them -/
def Cd (h : Zh) (t : Tk) : Prop := zI h 76 17 = iI (tH t) ∧ ∀ x, x < tH t → ∀ i, i < tk t → zI h 78 (5 * x + i) = iI (hc t x i)
theorem fX12_deals_eq {tr : Nat} {t : Tk} {h : Zh} (tok : Tok t) (s : St h) (htr : 101 ≤ tr) (r3 : zR h 76 3 = some tr) (q : Tr h tr t) : ∃ h', fX12_deals 76 h = some h' ∧ Fm [76, 78, 79] h h' ∧ (∀ j, j ≠ 17 → zI h' 76 j = zI h 76 j) ∧ Cd h' t := by
  obtain ⟨bn4, bn12, bu1, bu4, bnu, bk2, bk5, bkn, bp1, bp2, bpk, bH, bsp, bs1, bs4, bT1, bT16, bR1, bR2, bH1, bff, bff1⟩ := tok.b
  have e1 : lp (fun q : Int32 × Zh => bX12_deals_7 h 76 q.1 q.2) zB (iI 0, zsI h 76 17 (iI 0)) = some (1, (iI 5, zaI (zsI h 76 17 (iI 0)) 79 (fun j => if j < 5 then iI (-1) else zI h 79 j))) := by
    refine lp_for0 (st := fun i => ((iI (i : Int), zaI (zsI h 76 17 (iI 0)) 79 (fun j => if j < i then iI (-1) else zI h 79 j)) : Int32 × Zh)) (e := 0) 5 ?_ (by omega) ?_ ?_
    · have e : (fun j => if j < 0 then iI (-1) else zI h 79 j) = zI (zsI h 76 17 (iI 0)) 79 := by
        funext j
        rw [if_neg (by omega), zI_sI, z2_a _ _ _ _ (by decide)]
      simp only [e, zaI_self]
      rfl
    · intro i hi
      show bX12_deals_7 h 76 (iI i) (zaI _ 79 _) = _
      unfold bX12_deals_7
      simp (maxSteps := 1000000) (disch := (first | assumption | exact ne_b rfl | omega)) only [↓reduceIte, ↓zlet_eq, ↓bdR_sI, ↓bdR_sJ, ↓bdR_aI, zc2_some, Option.bind_some, ↓si_m1, ↓si_m2, ↓si_m3, iI_lit, iI_add, iI_sub, iI_mul, leT, leF, ltT, ltF, eqT, eqF, zinT, clI, Int.toNat_natCast, tN1, tNa, tN0, tNm, if_pos, if_neg, zI_sI, zI_sJ, zI_sR, zJ_sI, zJ_sJ, zJ_sR, zR_sI, zR_sJ, zR_sR, zK_sI, zK_sJ, zK_sR, zL_sI, zL_sJ, zL_sR, zI_aI, zJ_aI, zR_aI, zK_aI, zL_aI, z2_at, z2_a, z2_k, z1_self, z1_ne, true_and, and_true, bIt, bIf, Bool.false_eq_true, Bool.true_eq_false, eq_self, not_true_eq_false, not_false_eq_true, sK76, sK77, sK78, sK79, sK80, sK81, sK82, sK83, sK84, sK85, sK86, sK87, sK88, sK89, sK90, sK91, sK92, sK93, sK94, sK95, sK96, sK97, sK98, sK99, sK100, sL77, sL78, sL79, sL80, sL81, sL82, sL83, sL84, sL85, sL86, sL87, sL88, sL89, sL90, sL91, sL92, sL93, sL94, sL95, sL96, sL97, sL98, sL99, sL100, sR76_5, sR76_16, sR76_18, sR76_19, sR76_20, sR76_21, sR76_23, sR76_25, sR76_26, sR76_27, sR76_28, sR76_29, sR76_30, sR76_31, sR76_32, sR76_33, sR76_34, sR76_37, sR76_38, sR76_39, sR76_40, sR76_41, sR76_42, ↓sB76_5, ↓sB76_16, ↓sB76_18, ↓sB76_19, ↓sB76_20, ↓sB76_21, ↓sB76_23, ↓sB76_25, ↓sB76_26, ↓sB76_27, ↓sB76_28, ↓sB76_29, ↓sB76_30, ↓sB76_31, ↓sB76_32, ↓sB76_33, ↓sB76_34, ↓sB76_37, ↓sB76_38, ↓sB76_39, ↓sB76_40, ↓sB76_41, ↓sB76_42, zsI_aI]
      rw [show (i : Int) + 1 = ((i + 1 : Nat) : Int) by omega]
      congr 4
      funext j
      unfold z1
      dsimp only
      by_cases c : j = i
      · rw [if_pos c, if_pos (by omega)]
      · rw [if_neg c]
        by_cases c2 : j < i
        · rw [if_pos c2, if_pos (by omega)]
        · rw [if_neg c2, if_neg (by omega)]
    · show bX12_deals_7 h 76 (iI ((5 : Nat) : Int)) (zaI _ 79 _) = _
      unfold bX12_deals_7
      simp (maxSteps := 1000000) (disch := (first | assumption | exact ne_b rfl | omega)) only [↓reduceIte, ↓zlet_eq, ↓bdR_sI, ↓bdR_sJ, ↓bdR_aI, zc2_some, Option.bind_some, ↓si_m1, ↓si_m2, ↓si_m3, iI_lit, iI_add, iI_sub, iI_mul, leT, leF, ltT, ltF, eqT, eqF, zinT, clI, Int.toNat_natCast, tN1, tNa, tN0, tNm, if_pos, if_neg, zI_sI, zI_sJ, zI_sR, zJ_sI, zJ_sJ, zJ_sR, zR_sI, zR_sJ, zR_sR, zK_sI, zK_sJ, zK_sR, zL_sI, zL_sJ, zL_sR, zI_aI, zJ_aI, zR_aI, zK_aI, zL_aI, z2_at, z2_a, z2_k, z1_self, z1_ne, true_and, and_true, bIt, bIf, Bool.false_eq_true, Bool.true_eq_false, eq_self, not_true_eq_false, not_false_eq_true]
      rfl
  have hp : Fm [76, 79] h (zaI (zsI h 76 17 (iI 0)) 79 (fun j => if j < 5 then iI (-1) else zI h 79 j)) := (Fm_sI _ _ _ (by simp)).tr (Fm_aI _ _ (by simp))
  obtain ⟨a, h', r1, r2, r4, r5, r6, r7⟩ := deals_run tok htr h s q.fK dF [] 0 0 zB (-1) (zaI (zsI h 76 17 (iI 0)) 79 (fun j => if j < 5 then iI (-1) else zI h 79 j)) (s.fm hp) r3 (q.fm hp (by simp; omega)) (by simp; omega) (fun i hi => by simp at hi) (by rw [zI_aI, z1_self]; rfl) (by omega) (by omega) (by unfold effC; rw [if_neg (by simp)]; rfl) (by omega) (fun _ => ⟨fun i hi => by simp at hi, fun j hj => by simp at hj⟩) (fun i h1 h2 => by rw [zI_aI, z1_self, if_pos h2]) (by rw [zI_aI, z1_ne _ _ (by decide), zI_sI, z2_at]; rfl) (by decide) (dls_ok bn12 (by omega) bk5 bkn bH)
  refine ⟨h', ?_, (hp.mono (by simp)).tr r2, fun j hj => ?_, r5, fun x hx i hi => ?_⟩
  · unfold fX12_deals
    simp (maxSteps := 1000000) (disch := (first | assumption | exact ne_b rfl | omega)) only [↓reduceIte, ↓zlet_eq, ↓bdR_sI, ↓bdR_sJ, ↓bdR_aI, zc2_some, Option.bind_some, ↓si_m1, ↓si_m2, ↓si_m3, iI_lit, iI_add, iI_sub, iI_mul, leT, leF, ltT, ltF, eqT, eqF, zinT, clI, Int.toNat_natCast, tN1, tNa, tN0, tNm, if_pos, if_neg, zI_sI, zI_sJ, zI_sR, zJ_sI, zJ_sJ, zJ_sR, zR_sI, zR_sJ, zR_sR, zK_sI, zK_sJ, zK_sR, zL_sI, zL_sJ, zL_sR, zI_aI, zJ_aI, zR_aI, zK_aI, zL_aI, z2_at, z2_a, z2_k, z1_self, z1_ne, true_and, and_true, bIt, bIf, Bool.false_eq_true, Bool.true_eq_false, eq_self, not_true_eq_false, not_false_eq_true, sK76, sK77, sK78, sK79, sK80, sK81, sK82, sK83, sK84, sK85, sK86, sK87, sK88, sK89, sK90, sK91, sK92, sK93, sK94, sK95, sK96, sK97, sK98, sK99, sK100, sL77, sL78, sL79, sL80, sL81, sL82, sL83, sL84, sL85, sL86, sL87, sL88, sL89, sL90, sL91, sL92, sL93, sL94, sL95, sL96, sL97, sL98, sL99, sL100, sR76_5, sR76_16, sR76_18, sR76_19, sR76_20, sR76_21, sR76_23, sR76_25, sR76_26, sR76_27, sR76_28, sR76_29, sR76_30, sR76_31, sR76_32, sR76_33, sR76_34, sR76_37, sR76_38, sR76_39, sR76_40, sR76_41, sR76_42, ↓sB76_5, ↓sB76_16, ↓sB76_18, ↓sB76_19, ↓sB76_20, ↓sB76_21, ↓sB76_23, ↓sB76_25, ↓sB76_26, ↓sB76_27, ↓sB76_28, ↓sB76_29, ↓sB76_30, ↓sB76_31, ↓sB76_32, ↓sB76_33, ↓sB76_34, ↓sB76_37, ↓sB76_38, ↓sB76_39, ↓sB76_40, ↓sB76_41, ↓sB76_42]
    refine (lp_bd e1).trans ?_
    show kX12_deals_7 h 76 1 (iI 5) _ = _
    unfold kX12_deals_7
    exact (lp_bd r1).trans rfl
  · rw [r4 j hj, zI_aI, z1_ne _ _ (by decide), zI_sI, z2_k _ _ _ hj]
  · obtain ⟨e, e1, e2, -⟩ := hcd_at (n := tn t) (k := tk t) (rs := !tst t) bn12 (by omega) bk5 bkn bH hx
    have := r7 x e e1 i hi
    rw [Nat.zero_add] at this
    rw [this]
    unfold hc
    rw [e2]
