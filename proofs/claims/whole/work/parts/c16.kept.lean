/-! calls on both: kept -/
theorem bsum_one {A B z : Nat} (h : ∀ y, y ≠ z → A.testBit y = B.testBit y) : ∀ c, bsum B c ≤ bsum A c + (if z < c then 1 else 0)
  | 0 => by rw [if_neg (show ¬ z < 0 by omega)]; exact Nat.le_refl _
  | c + 1 => by
    have ih := bsum_one h c
    rw [bsum_s, bsum_s]
    by_cases q : c = z
    · rw [if_neg (show ¬ z < c by omega)] at ih
      rw [if_pos (show z < c + 1 by omega)]
      have : (if B.testBit c = true then 1 else 0) ≤ 1 := by split <;> omega
      omega
    · rw [h c q]
      by_cases q2 : z < c
      · rw [if_pos q2] at ih
        rw [if_pos (show z < c + 1 by omega)]
        omega
      · rw [if_neg q2] at ih
        rw [if_neg (show ¬ z < c + 1 by omega)]
        omega
theorem bsum_off {m n : Nat} (hm : m < 4096) (w : Nat → Nat) : ∀ a, bsum m n ≤ bsum (offm m w a) n + a
  | 0 => Nat.le_refl _
  | a + 1 => by
    have ih := bsum_off (n := n) hm w a
    have h1 := bsum_one (A := offm m w (a + 1)) (B := offm m w a) (z := w a) (fun y hy => by
      have b1 := offm_bit hm w y (a + 1)
      have b2 := offm_bit hm w y a
      have : (offm m w (a + 1)).testBit y = true ↔ (offm m w a).testBit y = true := by
        rw [b1, b2]
        constructor
        · rintro ⟨x1, x2⟩; exact ⟨x1, fun i hi => x2 i (by omega)⟩
        · rintro ⟨x1, x2⟩
          refine ⟨x1, fun i hi => ?_⟩
          by_cases q : i = a
          · rw [q]; exact fun e => hy e.symm
          · exact x2 i (by omega)
      cases e1 : (offm m w (a + 1)).testBit y <;> cases e2 : (offm m w a).testBit y
      · rfl
      · rw [e1, e2] at this; exact absurd (this.mpr rfl) (by decide)
      · rw [e1, e2] at this; exact absurd (this.mp rfl) (by decide)
      · rfl) n
    have h2 : (if w a < n then 1 else 0) ≤ 1 := by split <;> omega
    omega
theorem kp_ex {M i : Nat} : ∀ n, i < bsum M n → zfst (kpP M i) n < n
  | 0, h => absurd h (Nat.not_lt_zero _)
  | n + 1, h => by
    rw [zfst_ext]
    by_cases c : zfst (kpP M i) n < n
    · rw [if_pos c]; omega
    · rw [if_neg c]
      have h1 : ¬ i < bsum M n := fun q => c (kp_ex n q)
      rw [bsum_s] at h
      by_cases q : M.testBit n = true
      · rw [if_pos q] at h
        have : kpP M i n = true := by
          unfold kpP
          rw [q, decide_eq_true (show bsum M n = i by omega)]
          rfl
        rw [this, if_pos rfl]; omega
      · rw [if_neg q] at h; omega
noncomputable def kpM (t : Tk) (x r : Nat) : Nat := offm (fmask (hc t x) (tk t)) (unp (tn t) (tsh t) (r / tT t)) (tsh t)
theorem kpM_ok {t : Tk} (tok : Tok t) {x r i : Nat} (hx : x < tH t) (hi : i < tp t) : fmask (hc t x) (tk t) < 4096 ∧ zfst (kpP (kpM t x r) i) (tn t) < tn t := by
  obtain ⟨bn4, bn12, bu1, bu4, bnu, bk2, bk5, bkn, bp1, bp2, bpk, bH, bsp, bs1, bs4, bT1, bT16, bR1, bR2, bH1, bff, bff1⟩ := tok.b
  have hv := hc_vld tok hx
  have hm : fmask (hc t x) (tk t) < 4096 := by
    have := fmask_lt (N := 12) (tk t) (fun j hj => hc_lt tok hx hj)
    exact this
  refine ⟨hm, kp_ex _ ?_⟩
  have h1 := bsum_off (n := tn t) hm (unp (tn t) (tsh t) (r / tT t)) (tsh t)
  rw [bsum_fmask _ _ hv.dst, cntl_all _ hv.1] at h1
  unfold kpM
  omega
theorem kept_106 {g h : Zh} {t : Tk} {tr c : Nat} {w : Nat → Nat} {b0 : Bool} (tok : Tok t) (sg : St g) (kg : zK g tr = 11) (s : St h) (r3 : zR h 76 3 = some tr) (qt : Tr h tr t) (hc12 : c < 2147483648) (hw : ∀ j, j < tsh t → zI h 80 j = iI (w j) ∧ w j < 2147483648) : lp (fun q : Int32 × Int32 × Zh => bX12_kept_106 g 76 (iI c) q.1 q.2.1 q.2.2) zB (iI (bI b0), iI 0, h) = some (1, (iI (bI (b0 && alb (fun j => decide (w j ≠ c)) (tsh t))), iI (tsh t), h)) := by
  obtain ⟨bn4, bn12, bu1, bu4, bnu, bk2, bk5, bkn, bp1, bp2, bpk, bH, bsp, bs1, bs4, bT1, bT16, bR1, bR2, bH1, bff, bff1⟩ := tok.b
  have f4 := qt.f4
  refine lp_for0 (st := fun x => ((iI (bI (b0 && alb (fun j => decide (w j ≠ c)) x)), iI (x : Int), h) : Int32 × Int32 × Zh)) (tsh t) ?_ (by omega) (fun x hx => ?_) ?_
  · show _ = (iI (bI (b0 && true)), iI ((0 : Nat) : Int), h)
    rw [Bool.and_true]
    rfl
  · obtain ⟨w1, w2⟩ := hw x hx
    show bX12_kept_106 g 76 (iI c) (iI (bI (b0 && alb (fun j => decide (w j ≠ c)) x))) (iI x) h = some (0, (iI (bI (b0 && (alb (fun j => decide (w j ≠ c)) x && decide (w x ≠ c)))), iI ((x + 1 : Nat) : Int), h))
    rw [← Bool.and_assoc]
    generalize (b0 && alb (fun j => decide (w j ≠ c)) x) = b
    unfold bX12_kept_106
    cases b
    · simp (maxSteps := 1000000) (disch := (first | assumption | exact ne_b rfl | omega)) only [↓reduceIte, ↓zlet_eq, ↓bdR_sI, ↓bdR_sJ, ↓bdR_aI, zc2_some, Option.bind_some, ↓si_m1, ↓si_m2, ↓si_m3, iI_lit, iI_add, iI_sub, iI_mul, leT, leF, ltT, ltF, eqT, eqF, zinT, clI, Int.toNat_natCast, Int.reduceToNat, tN1, tNa, tN0, tNm, if_pos, if_neg, zI_sI, zI_sJ, zI_sR, zJ_sI, zJ_sJ, zJ_sR, zR_sI, zR_sJ, zR_sR, zK_sI, zK_sJ, zK_sR, zL_sI, zL_sJ, zL_sR, zI_aI, zJ_aI, zR_aI, zK_aI, zL_aI, z2_at, z2_a, z2_k, z1_self, z1_ne, true_and, and_true, bIt, bIf, Bool.false_eq_true, Bool.true_eq_false, eq_self, not_true_eq_false, not_false_eq_true, sK76, sK77, sK78, sK79, sK80, sK81, sK82, sK83, sK84, sK85, sK86, sK87, sK88, sK89, sK90, sK91, sK92, sK93, sK94, sK95, sK96, sK97, sK98, sK99, sK100, sL77, sL78, sL79, sL80, sL81, sL82, sL83, sL84, sL85, sL86, sL87, sL88, sL89, sL90, sL91, sL92, sL93, sL94, sL95, sL96, sL97, sL98, sL99, sL100, sR76_5, sR76_16, sR76_18, sR76_19, sR76_20, sR76_21, sR76_23, sR76_25, sR76_26, sR76_27, sR76_28, sR76_29, sR76_30, sR76_31, sR76_32, sR76_33, sR76_34, sR76_37, sR76_38, sR76_39, sR76_40, sR76_41, sR76_42, ↓sB76_5, ↓sB76_16, ↓sB76_18, ↓sB76_19, ↓sB76_20, ↓sB76_21, ↓sB76_23, ↓sB76_25, ↓sB76_26, ↓sB76_27, ↓sB76_28, ↓sB76_29, ↓sB76_30, ↓sB76_31, ↓sB76_32, ↓sB76_33, ↓sB76_34, ↓sB76_37, ↓sB76_38, ↓sB76_39, ↓sB76_40, ↓sB76_41, ↓sB76_42, ↓bd_of r3, kg, f4]
      all_goals rfl
    · by_cases q : w x = c
      · have q' : (w x : Int) = (c : Nat) := by omega
        rw [decide_eq_false (fun z => z q)]
        simp (maxSteps := 1000000) (disch := (first | assumption | exact ne_b rfl | omega)) only [↓reduceIte, ↓zlet_eq, ↓bdR_sI, ↓bdR_sJ, ↓bdR_aI, zc2_some, Option.bind_some, ↓si_m1, ↓si_m2, ↓si_m3, iI_lit, iI_add, iI_sub, iI_mul, leT, leF, ltT, ltF, eqT, eqF, zinT, clI, Int.toNat_natCast, Int.reduceToNat, tN1, tNa, tN0, tNm, if_pos, if_neg, zI_sI, zI_sJ, zI_sR, zJ_sI, zJ_sJ, zJ_sR, zR_sI, zR_sJ, zR_sR, zK_sI, zK_sJ, zK_sR, zL_sI, zL_sJ, zL_sR, zI_aI, zJ_aI, zR_aI, zK_aI, zL_aI, z2_at, z2_a, z2_k, z1_self, z1_ne, true_and, and_true, bIt, bIf, Bool.false_eq_true, Bool.true_eq_false, eq_self, not_true_eq_false, not_false_eq_true, sK76, sK77, sK78, sK79, sK80, sK81, sK82, sK83, sK84, sK85, sK86, sK87, sK88, sK89, sK90, sK91, sK92, sK93, sK94, sK95, sK96, sK97, sK98, sK99, sK100, sL77, sL78, sL79, sL80, sL81, sL82, sL83, sL84, sL85, sL86, sL87, sL88, sL89, sL90, sL91, sL92, sL93, sL94, sL95, sL96, sL97, sL98, sL99, sL100, sR76_5, sR76_16, sR76_18, sR76_19, sR76_20, sR76_21, sR76_23, sR76_25, sR76_26, sR76_27, sR76_28, sR76_29, sR76_30, sR76_31, sR76_32, sR76_33, sR76_34, sR76_37, sR76_38, sR76_39, sR76_40, sR76_41, sR76_42, ↓sB76_5, ↓sB76_16, ↓sB76_18, ↓sB76_19, ↓sB76_20, ↓sB76_21, ↓sB76_23, ↓sB76_25, ↓sB76_26, ↓sB76_27, ↓sB76_28, ↓sB76_29, ↓sB76_30, ↓sB76_31, ↓sB76_32, ↓sB76_33, ↓sB76_34, ↓sB76_37, ↓sB76_38, ↓sB76_39, ↓sB76_40, ↓sB76_41, ↓sB76_42, ↓bd_of r3, kg, f4, w1]
        all_goals rfl
      · have q' : ¬ (w x : Int) = (c : Nat) := by omega
        rw [decide_eq_true (show w x ≠ c from q)]
        simp (maxSteps := 1000000) (disch := (first | assumption | exact ne_b rfl | omega)) only [↓reduceIte, ↓zlet_eq, ↓bdR_sI, ↓bdR_sJ, ↓bdR_aI, zc2_some, Option.bind_some, ↓si_m1, ↓si_m2, ↓si_m3, iI_lit, iI_add, iI_sub, iI_mul, leT, leF, ltT, ltF, eqT, eqF, zinT, clI, Int.toNat_natCast, Int.reduceToNat, tN1, tNa, tN0, tNm, if_pos, if_neg, zI_sI, zI_sJ, zI_sR, zJ_sI, zJ_sJ, zJ_sR, zR_sI, zR_sJ, zR_sR, zK_sI, zK_sJ, zK_sR, zL_sI, zL_sJ, zL_sR, zI_aI, zJ_aI, zR_aI, zK_aI, zL_aI, z2_at, z2_a, z2_k, z1_self, z1_ne, true_and, and_true, bIt, bIf, Bool.false_eq_true, Bool.true_eq_false, eq_self, not_true_eq_false, not_false_eq_true, sK76, sK77, sK78, sK79, sK80, sK81, sK82, sK83, sK84, sK85, sK86, sK87, sK88, sK89, sK90, sK91, sK92, sK93, sK94, sK95, sK96, sK97, sK98, sK99, sK100, sL77, sL78, sL79, sL80, sL81, sL82, sL83, sL84, sL85, sL86, sL87, sL88, sL89, sL90, sL91, sL92, sL93, sL94, sL95, sL96, sL97, sL98, sL99, sL100, sR76_5, sR76_16, sR76_18, sR76_19, sR76_20, sR76_21, sR76_23, sR76_25, sR76_26, sR76_27, sR76_28, sR76_29, sR76_30, sR76_31, sR76_32, sR76_33, sR76_34, sR76_37, sR76_38, sR76_39, sR76_40, sR76_41, sR76_42, ↓sB76_5, ↓sB76_16, ↓sB76_18, ↓sB76_19, ↓sB76_20, ↓sB76_21, ↓sB76_23, ↓sB76_25, ↓sB76_26, ↓sB76_27, ↓sB76_28, ↓sB76_29, ↓sB76_30, ↓sB76_31, ↓sB76_32, ↓sB76_33, ↓sB76_34, ↓sB76_37, ↓sB76_38, ↓sB76_39, ↓sB76_40, ↓sB76_41, ↓sB76_42, ↓bd_of r3, kg, f4, w1]
        all_goals rfl
  · show bX12_kept_106 g 76 (iI c) (iI (bI (b0 && alb (fun j => decide (w j ≠ c)) (tsh t)))) (iI (tsh t)) h = _
    unfold bX12_kept_106
    simp (maxSteps := 1000000) (disch := (first | assumption | exact ne_b rfl | omega)) only [↓reduceIte, ↓zlet_eq, ↓bdR_sI, ↓bdR_sJ, ↓bdR_aI, zc2_some, Option.bind_some, ↓si_m1, ↓si_m2, ↓si_m3, iI_lit, iI_add, iI_sub, iI_mul, leT, leF, ltT, ltF, eqT, eqF, zinT, clI, Int.toNat_natCast, Int.reduceToNat, tN1, tNa, tN0, tNm, if_pos, if_neg, zI_sI, zI_sJ, zI_sR, zJ_sI, zJ_sJ, zJ_sR, zR_sI, zR_sJ, zR_sR, zK_sI, zK_sJ, zK_sR, zL_sI, zL_sJ, zL_sR, zI_aI, zJ_aI, zR_aI, zK_aI, zL_aI, z2_at, z2_a, z2_k, z1_self, z1_ne, true_and, and_true, bIt, bIf, Bool.false_eq_true, Bool.true_eq_false, eq_self, not_true_eq_false, not_false_eq_true, sK76, sK77, sK78, sK79, sK80, sK81, sK82, sK83, sK84, sK85, sK86, sK87, sK88, sK89, sK90, sK91, sK92, sK93, sK94, sK95, sK96, sK97, sK98, sK99, sK100, sL77, sL78, sL79, sL80, sL81, sL82, sL83, sL84, sL85, sL86, sL87, sL88, sL89, sL90, sL91, sL92, sL93, sL94, sL95, sL96, sL97, sL98, sL99, sL100, sR76_5, sR76_16, sR76_18, sR76_19, sR76_20, sR76_21, sR76_23, sR76_25, sR76_26, sR76_27, sR76_28, sR76_29, sR76_30, sR76_31, sR76_32, sR76_33, sR76_34, sR76_37, sR76_38, sR76_39, sR76_40, sR76_41, sR76_42, ↓sB76_5, ↓sB76_16, ↓sB76_18, ↓sB76_19, ↓sB76_20, ↓sB76_21, ↓sB76_23, ↓sB76_25, ↓sB76_26, ↓sB76_27, ↓sB76_28, ↓sB76_29, ↓sB76_30, ↓sB76_31, ↓sB76_32, ↓sB76_33, ↓sB76_34, ↓sB76_37, ↓sB76_38, ↓sB76_39, ↓sB76_40, ↓sB76_41, ↓sB76_42, ↓bd_of r3, kg, f4]
theorem kept_82 {g h : Zh} {t : Tk} {tr x r i : Nat} (tok : Tok t) (sg : St g) (kg : zK g tr = 11) (s : St h) (r3 : zR h 76 3 = some tr) (qt : Tr h tr t) (cd : Cd h t) (hx : x < tH t) (hi : i < tp t) (hw : ∀ j, j < tsh t → zI h 80 j = iI (unp (tn t) (tsh t) (r / tT t) j)) : ∃ y, lp (fun q : Int32 × Int32 × Zh => bX12_kept_82 g 76 (iI x) (iI i) q.1 q.2.1 q.2.2) zB (iI 0, iI 0, h) = some (1, (y, iI (zfst (kpP (kpM t x r) i) (tn t)), h)) := by
  obtain ⟨bn4, bn12, bu1, bu4, bnu, bk2, bk5, bkn, bp1, bp2, bpk, bH, bsp, bs1, bs4, bT1, bT16, bR1, bR2, bH1, bff, bff1⟩ := tok.b
  obtain ⟨hm, hz⟩ := kpM_ok (r := r) tok hx hi
  have f0 := qt.f0
  obtain ⟨u1, u2⟩ := unp_ok (n := tn t) (sh := tsh t) (q := r / tT t) (by omega)
  have hw' : ∀ j, j < tsh t → zI h 80 j = iI (unp (tn t) (tsh t) (r / tT t) j) ∧ unp (tn t) (tsh t) (r / tT t) j < 2147483648 := fun j hj => ⟨hw j hj, by have := u2 j hj; omega⟩
  have bod : ∀ c, c < tn t → bX12_kept_82 g 76 (iI x) (iI i) (iI (bsum (kpM t x r) c)) (iI c) h = if (kpM t x r).testBit c = true then (if bsum (kpM t x r) c = i then some (1, (iI (bsum (kpM t x r) c), iI c, h)) else some (0, (iI ((bsum (kpM t x r) c + 1 : Nat) : Int), iI ((c + 1 : Nat) : Int), h))) else some (0, (iI (bsum (kpM t x r) c), iI ((c + 1 : Nat) : Int), h)) := by
    intro c hc'
    have e1 := fX12_has_eq (c := c) s r3 qt cd tok hx (by omega)
    have e2 := kept_106 (g := g) (c := c) (w := unp (tn t) (tsh t) (r / tT t)) (b0 := hasC t x c) tok sg kg s r3 qt (by omega) hw'
    have hbit : (hasC t x c && alb (fun j => decide (unp (tn t) (tsh t) (r / tT t) j ≠ c)) (tsh t)) = (kpM t x r).testBit c := by
      have ob := offm_bit hm (unp (tn t) (tsh t) (r / tT t)) c (tsh t)
      unfold kpM
      cases q : (offm (fmask (hc t x) (tk t)) (unp (tn t) (tsh t) (r / tT t)) (tsh t)).testBit c
      · cases q1 : hasC t x c
        · rfl
        · rw [Bool.true_and]
          refine Bool.eq_false_iff.mpr (fun z => ?_)
          have z' := (alb_t (tsh t)).mp z
          have := ob.mpr ⟨q1, fun j hj => of_decide_eq_true (z' j hj)⟩
          rw [q] at this
          cases this
      · obtain ⟨o1, o2⟩ := ob.mp q
        have o1' : hasC t x c = true := o1
        rw [o1', (alb_t (tsh t)).mpr (fun j hj => decide_eq_true (o2 j hj))]
        rfl
    rw [hbit] at e2
    have hbl := bsum_c (kpM t x r) c
    unfold bX12_kept_82
    generalize bsum (kpM t x r) c = n at *
    cases q : (kpM t x r).testBit c
    · rw [q] at e2
      have e2' : lp (fun q : Int32 × Int32 × Zh => bX12_kept_106 g 76 (iI c) q.1 q.2.1 q.2.2) zB (iI (bI (hasC t x c)), iI 0, h) = some (1, (iI 0, iI (tsh t), h)) := e2
      simp (maxSteps := 1000000) (disch := (first | assumption | exact ne_b rfl | omega)) only [↓reduceIte, ↓zlet_eq, ↓bdR_sI, ↓bdR_sJ, ↓bdR_aI, zc2_some, Option.bind_some, ↓si_m1, ↓si_m2, ↓si_m3, iI_lit, iI_add, iI_sub, iI_mul, leT, leF, ltT, ltF, eqT, eqF, zinT, clI, Int.toNat_natCast, Int.reduceToNat, tN1, tNa, tN0, tNm, if_pos, if_neg, zI_sI, zI_sJ, zI_sR, zJ_sI, zJ_sJ, zJ_sR, zR_sI, zR_sJ, zR_sR, zK_sI, zK_sJ, zK_sR, zL_sI, zL_sJ, zL_sR, zI_aI, zJ_aI, zR_aI, zK_aI, zL_aI, z2_at, z2_a, z2_k, z1_self, z1_ne, true_and, and_true, bIt, bIf, Bool.false_eq_true, Bool.true_eq_false, eq_self, not_true_eq_false, not_false_eq_true, sK76, sK77, sK78, sK79, sK80, sK81, sK82, sK83, sK84, sK85, sK86, sK87, sK88, sK89, sK90, sK91, sK92, sK93, sK94, sK95, sK96, sK97, sK98, sK99, sK100, sL77, sL78, sL79, sL80, sL81, sL82, sL83, sL84, sL85, sL86, sL87, sL88, sL89, sL90, sL91, sL92, sL93, sL94, sL95, sL96, sL97, sL98, sL99, sL100, sR76_5, sR76_16, sR76_18, sR76_19, sR76_20, sR76_21, sR76_23, sR76_25, sR76_26, sR76_27, sR76_28, sR76_29, sR76_30, sR76_31, sR76_32, sR76_33, sR76_34, sR76_37, sR76_38, sR76_39, sR76_40, sR76_41, sR76_42, ↓sB76_5, ↓sB76_16, ↓sB76_18, ↓sB76_19, ↓sB76_20, ↓sB76_21, ↓sB76_23, ↓sB76_25, ↓sB76_26, ↓sB76_27, ↓sB76_28, ↓sB76_29, ↓sB76_30, ↓sB76_31, ↓sB76_32, ↓sB76_33, ↓sB76_34, ↓sB76_37, ↓sB76_38, ↓sB76_39, ↓sB76_40, ↓sB76_41, ↓sB76_42, ↓bd_of r3, kg, f0, ↓zc_of e1, ↓bd_of e2', kX12_kept_106]
      all_goals rfl
    · rw [q] at e2
      have e2' : lp (fun q : Int32 × Int32 × Zh => bX12_kept_106 g 76 (iI c) q.1 q.2.1 q.2.2) zB (iI (bI (hasC t x c)), iI 0, h) = some (1, (iI 1, iI (tsh t), h)) := e2
      by_cases p : n = i
      · have p' : (n : Int) = (i : Nat) := by omega
        rw [if_pos p]
        simp (maxSteps := 1000000) (disch := (first | assumption | exact ne_b rfl | omega)) only [↓reduceIte, ↓zlet_eq, ↓bdR_sI, ↓bdR_sJ, ↓bdR_aI, zc2_some, Option.bind_some, ↓si_m1, ↓si_m2, ↓si_m3, iI_lit, iI_add, iI_sub, iI_mul, leT, leF, ltT, ltF, eqT, eqF, zinT, clI, Int.toNat_natCast, Int.reduceToNat, tN1, tNa, tN0, tNm, if_pos, if_neg, zI_sI, zI_sJ, zI_sR, zJ_sI, zJ_sJ, zJ_sR, zR_sI, zR_sJ, zR_sR, zK_sI, zK_sJ, zK_sR, zL_sI, zL_sJ, zL_sR, zI_aI, zJ_aI, zR_aI, zK_aI, zL_aI, z2_at, z2_a, z2_k, z1_self, z1_ne, true_and, and_true, bIt, bIf, Bool.false_eq_true, Bool.true_eq_false, eq_self, not_true_eq_false, not_false_eq_true, sK76, sK77, sK78, sK79, sK80, sK81, sK82, sK83, sK84, sK85, sK86, sK87, sK88, sK89, sK90, sK91, sK92, sK93, sK94, sK95, sK96, sK97, sK98, sK99, sK100, sL77, sL78, sL79, sL80, sL81, sL82, sL83, sL84, sL85, sL86, sL87, sL88, sL89, sL90, sL91, sL92, sL93, sL94, sL95, sL96, sL97, sL98, sL99, sL100, sR76_5, sR76_16, sR76_18, sR76_19, sR76_20, sR76_21, sR76_23, sR76_25, sR76_26, sR76_27, sR76_28, sR76_29, sR76_30, sR76_31, sR76_32, sR76_33, sR76_34, sR76_37, sR76_38, sR76_39, sR76_40, sR76_41, sR76_42, ↓sB76_5, ↓sB76_16, ↓sB76_18, ↓sB76_19, ↓sB76_20, ↓sB76_21, ↓sB76_23, ↓sB76_25, ↓sB76_26, ↓sB76_27, ↓sB76_28, ↓sB76_29, ↓sB76_30, ↓sB76_31, ↓sB76_32, ↓sB76_33, ↓sB76_34, ↓sB76_37, ↓sB76_38, ↓sB76_39, ↓sB76_40, ↓sB76_41, ↓sB76_42, ↓bd_of r3, kg, f0, ↓zc_of e1, ↓bd_of e2', kX12_kept_106]
        all_goals rfl
      · have p' : ¬ (n : Int) = (i : Nat) := by omega
        rw [if_neg p]
        simp (maxSteps := 1000000) (disch := (first | assumption | exact ne_b rfl | omega)) only [↓reduceIte, ↓zlet_eq, ↓bdR_sI, ↓bdR_sJ, ↓bdR_aI, zc2_some, Option.bind_some, ↓si_m1, ↓si_m2, ↓si_m3, iI_lit, iI_add, iI_sub, iI_mul, leT, leF, ltT, ltF, eqT, eqF, zinT, clI, Int.toNat_natCast, Int.reduceToNat, tN1, tNa, tN0, tNm, if_pos, if_neg, zI_sI, zI_sJ, zI_sR, zJ_sI, zJ_sJ, zJ_sR, zR_sI, zR_sJ, zR_sR, zK_sI, zK_sJ, zK_sR, zL_sI, zL_sJ, zL_sR, zI_aI, zJ_aI, zR_aI, zK_aI, zL_aI, z2_at, z2_a, z2_k, z1_self, z1_ne, true_and, and_true, bIt, bIf, Bool.false_eq_true, Bool.true_eq_false, eq_self, not_true_eq_false, not_false_eq_true, sK76, sK77, sK78, sK79, sK80, sK81, sK82, sK83, sK84, sK85, sK86, sK87, sK88, sK89, sK90, sK91, sK92, sK93, sK94, sK95, sK96, sK97, sK98, sK99, sK100, sL77, sL78, sL79, sL80, sL81, sL82, sL83, sL84, sL85, sL86, sL87, sL88, sL89, sL90, sL91, sL92, sL93, sL94, sL95, sL96, sL97, sL98, sL99, sL100, sR76_5, sR76_16, sR76_18, sR76_19, sR76_20, sR76_21, sR76_23, sR76_25, sR76_26, sR76_27, sR76_28, sR76_29, sR76_30, sR76_31, sR76_32, sR76_33, sR76_34, sR76_37, sR76_38, sR76_39, sR76_40, sR76_41, sR76_42, ↓sB76_5, ↓sB76_16, ↓sB76_18, ↓sB76_19, ↓sB76_20, ↓sB76_21, ↓sB76_23, ↓sB76_25, ↓sB76_26, ↓sB76_27, ↓sB76_28, ↓sB76_29, ↓sB76_30, ↓sB76_31, ↓sB76_32, ↓sB76_33, ↓sB76_34, ↓sB76_37, ↓sB76_38, ↓sB76_39, ↓sB76_40, ↓sB76_41, ↓sB76_42, ↓bd_of r3, kg, f0, ↓zc_of e1, ↓bd_of e2', kX12_kept_106]
        all_goals rfl
  refine ⟨iI (bsum (kpM t x r) (zfst (kpP (kpM t x r) i) (tn t))), ?_⟩
  refine lp_for0 (st := fun c => ((iI (bsum (kpM t x r) c), iI (c : Int), h) : Int32 × Int32 × Zh)) (zfst (kpP (kpM t x r) i) (tn t)) rfl (by omega) (fun c hcz => ?_) ?_
  · show bX12_kept_82 g 76 (iI x) (iI i) (iI (bsum (kpM t x r) c)) (iI c) h = some (0, (iI (bsum (kpM t x r) (c + 1)), iI ((c + 1 : Nat) : Int), h))
    have hb := zfst_before hcz
    rw [bod c (by omega), bsum_s]
    unfold kpP at hb
    by_cases q : (kpM t x r).testBit c = true
    · rw [q, Bool.true_and] at hb
      rw [if_pos q, if_neg (of_decide_eq_false hb), if_pos q]
    · rw [if_neg q, if_neg q]
      rfl
  · show bX12_kept_82 g 76 (iI x) (iI i) (iI (bsum (kpM t x r) (zfst (kpP (kpM t x r) i) (tn t)))) (iI (zfst (kpP (kpM t x r) i) (tn t))) h = _
    have ha := zfst_at hz
    rw [bod _ hz]
    generalize zfst (kpP (kpM t x r) i) (tn t) = c at *
    unfold kpP at ha
    rw [Bool.and_eq_true_iff] at ha
    rw [if_pos ha.1, if_pos (of_decide_eq_true ha.2)]
theorem kept_c {h : Zh} {v : Vw} {u tr ra x r i : Nat} (ok : VOK v) (on : v.on = true) (c : KC h v u tr ra) (hx : x < tH v.t) (hi : i < tp v.t) (hw : ∀ j, j < tsh v.t → zI h 75 j = iI (unp (tn v.t) (tsh v.t) (r / tT v.t) j)) : fX0_keptCard (v.td + 1) 75 (iI (pk v.t x)) (iI i) h = some (iI (zfst (kpP (kpM v.t x r) i) (tn v.t)), h) := by
  have tok := (ok.2.2.2.2.2.2 on).1
  obtain ⟨bn4, bn12, bu1, bu4, bnu, bk2, bk5, bkn, bp1, bp2, bpk, bH, bsp, bs1, bs4, bT1, bT16, bR1, bR2, bH1, bff, bff1⟩ := tok.b
  obtain ⟨CR, OW, se, sp, rdy, lg, -⟩ := c.lg on
  have dk := lg.2.2.1.2.2.1
  have s := c.1
  obtain ⟨o1, o2⟩ := pk_ok tok hx
  obtain ⟨hm, hz⟩ := kpM_ok (r := r) tok hx hi
  obtain ⟨u1, u2⟩ := unp_ok (n := tn v.t) (sh := tsh v.t) (q := r / tT v.t) (by omega)
  have hv := hc_vld tok hx
  have e := fX0_keptCard_eq (d := v.td + 1) (r := 75) (p := pk v.t x) (n := tn v.t) (k := tk v.t) (sh := tsh v.t) (i := i) (L := 5) (w := unp (tn v.t) (tsh v.t) (r / tT v.t)) (h := h) dk.fK (sK75 s) (sL75 s) (by decide) dk.f0 dk.f3 dk.f5 bn12 bk5 (by omega) (by omega) o1 (fun j hj => by rw [o2 j hj]; exact hv.1 j hj) (by omega) (fun j hj => ⟨hw j hj, u2 j hj⟩)
  rw [fmask_congr (tk v.t) o2] at e
  rw [e]
  unfold kpM at hz ⊢
  rw [if_pos hz]
theorem kept_m6 {hm h2 : Zh} {i j z n tr : Nat} (sm : St hm) (s2 : St h2) (q3 : zR hm 76 3 = some tr) (kt : zK hm tr = 11) (ntr : tr ≠ 76) (f3 : zI hm tr 3 = iI n) (k0 : fX12_isRule 76 (iI i) (zsI hm 76 0 (iI 0)) = some (iI 1, zsI hm 76 0 (iI 0))) (k1 : fX12_isHand 76 (iI j) (zsI hm 76 0 (iI 0)) = some (iI 1, zsI hm 76 0 (iI 0))) (e0 : fX12_in (iI z) (iI 0) (iI ((n : Int) - 1)) (zsI hm 76 0 (iI 0)) = some (iI 1, zsI hm 76 0 (iI 0))) (q1 : fX12_laysNow 76 (iI i) (iI j) (zsI hm 76 0 (iI 0)) = some (iI (-2), h2)) : fX12_kept 76 (iI i) (iI j) (iI z) hm = some (iI (-1), zsI (zsI h2 76 1 (iI 6)) 76 2 (iI (-1))) := by
  have g2 := refused_m s2 6
  unfold fX12_kept
  simp (maxSteps := 1000000) (disch := (first | assumption | exact ne_b rfl | omega)) only [↓reduceIte, ↓zlet_eq, ↓bdR_sI, ↓bdR_sJ, ↓bdR_aI, zc2_some, Option.bind_some, ↓si_m1, ↓si_m2, ↓si_m3, iI_lit, iI_add, iI_sub, iI_mul, leT, leF, ltT, ltF, eqT, eqF, zinT, clI, Int.toNat_natCast, Int.reduceToNat, tN1, tNa, tN0, tNm, if_pos, if_neg, zI_sI, zI_sJ, zI_sR, zJ_sI, zJ_sJ, zJ_sR, zR_sI, zR_sJ, zR_sR, zK_sI, zK_sJ, zK_sR, zL_sI, zL_sJ, zL_sR, zI_aI, zJ_aI, zR_aI, zK_aI, zL_aI, z2_at, z2_a, z2_k, z1_self, z1_ne, true_and, and_true, bIt, bIf, Bool.false_eq_true, Bool.true_eq_false, eq_self, not_true_eq_false, not_false_eq_true, sK76, sK77, sK78, sK79, sK80, sK81, sK82, sK83, sK84, sK85, sK86, sK87, sK88, sK89, sK90, sK91, sK92, sK93, sK94, sK95, sK96, sK97, sK98, sK99, sK100, sL77, sL78, sL79, sL80, sL81, sL82, sL83, sL84, sL85, sL86, sL87, sL88, sL89, sL90, sL91, sL92, sL93, sL94, sL95, sL96, sL97, sL98, sL99, sL100, sR76_5, sR76_16, sR76_18, sR76_19, sR76_20, sR76_21, sR76_23, sR76_25, sR76_26, sR76_27, sR76_28, sR76_29, sR76_30, sR76_31, sR76_32, sR76_33, sR76_34, sR76_37, sR76_38, sR76_39, sR76_40, sR76_41, sR76_42, ↓sB76_5, ↓sB76_16, ↓sB76_18, ↓sB76_19, ↓sB76_20, ↓sB76_21, ↓sB76_23, ↓sB76_25, ↓sB76_26, ↓sB76_27, ↓sB76_28, ↓sB76_29, ↓sB76_30, ↓sB76_31, ↓sB76_32, ↓sB76_33, ↓sB76_34, ↓sB76_37, ↓sB76_38, ↓sB76_39, ↓sB76_40, ↓sB76_41, ↓sB76_42, ↓zc_of k0, ↓zc_of k1, ↓bd_of q3, kt, f3, ↓zc_of e0, ↓zc_of q1, ↓zc_of g2]
