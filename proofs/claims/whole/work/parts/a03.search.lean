/-! the model's pairing: the search for a free row -/
theorem SM_.put {h : Zh} {t : Tk} {F : Nat → Nat → Prop} {pr : Nat → Option Nat} {s st x y r q n : Nat} {R0 : Nat → Prop} {qu cf : Nat → Nat} (i : SM_ h t F pr s st R0 n qu cf) (hq : q < n) (hqx : qu q = x) (hy : y < tH t) (hys : s ≤ y) (hm : ¬ mkd R0 qu n y) (hr : pr y = some r) (hF : F x r) : n < tH t ∧ SM_ (zsI (zsI h 90 y (iI x)) 89 n (iI y)) t F pr s st R0 (n + 1) (z1 qu n y) (z1 cf y x) ∧ (∀ z, mkd R0 qu n z → mkd R0 (z1 qu n y) (n + 1) z) ∧ mkd R0 (z1 qu n y) (n + 1) y := by
  obtain ⟨⟨t1, t2, t3, t4⟩, i2, i3, i4, i5, i6, i7⟩ := i
  have hnq : ∀ j, j < n → qu j ≠ y := fun j hj e => hm (Or.inr ⟨j, hj, e⟩)
  have hd2 : dst (z1 qu n y) (n + 1) := fun a b h1 h2 => by
    rw [z1_ne _ _ (show a ≠ n by omega)]
    by_cases c : b = n
    · rw [c, z1_self]; exact hnq a (by omega)
    · rw [z1_ne _ _ c]; exact t3 a b h1 (by omega)
  have hlt : ∀ j, j < n + 1 → z1 qu n y j < tH t := fun j hj => by
    by_cases c : j = n
    · rw [c, z1_self]; exact hy
    · rw [z1_ne _ _ c]; exact (i2 j (by omega)).1
  have hn : n + 1 ≤ tH t := holes (tH t) (n + 1) (z1 qu n y) hlt (fun a b h1 h2 => hd2 a b h1 h2)
  have hmon : ∀ z, mkd R0 qu n z → mkd R0 (z1 qu n y) (n + 1) z := fun z hz => by
    rcases hz with h1 | ⟨j, h1, h2⟩
    · exact Or.inl h1
    · exact Or.inr ⟨j, by omega, by rw [z1_ne _ _ (by omega)]; exact h2⟩
  have hnew : mkd R0 (z1 qu n y) (n + 1) y := Or.inr ⟨n, by omega, z1_self _ _ _⟩
  have hst : st ≠ y := by rw [← t2]; exact hnq 0 (by omega)
  refine ⟨by omega, ⟨⟨by omega, by rw [z1_ne _ _ (by omega)]; exact t2, hd2, fun j h1 h2 => ?_⟩, fun j hj => ?_, fun j hj => ?_, ?_, fun j h1 h2 => ?_, fun z hz hz2 => ?_, fun z hz hz2 => ?_⟩, hmon, hnew⟩
  · by_cases c : j = n
    · rw [c, z1_self, z1_self]
      exact ⟨q, hq, by rw [z1_ne _ _ (by omega)]; exact hqx.symm, r, hr, by rw [z1_ne _ _ (by omega), hqx]; exact hF⟩
    · obtain ⟨k, k1, k2, r', k3, k4⟩ := t4 j h1 (by omega)
      rw [z1_ne _ _ c, z1_ne _ _ (hnq j (by omega))]
      exact ⟨k, k1, by rw [z1_ne _ _ (by omega)]; exact k2, r', k3, by rw [z1_ne _ _ (by omega)]; exact k4⟩
  · by_cases c : j = n
    · rw [c, z1_self]
      exact ⟨hy, hys, fun e => hm (Or.inl e)⟩
    · rw [z1_ne _ _ c]; exact i2 j (by omega)
  · by_cases c : j = n
    · rw [c, z1_self, zI_sI, z2_at]
    · rw [z1_ne _ _ c, zI_sI, z2_k _ _ _ c, zI_sI, z2_a _ _ _ _ (by decide)]; exact i3 j (by omega)
  · rw [zI_sI, z2_a _ _ _ _ (by decide), zI_sI, z2_k _ _ _ hst]; exact i4
  · by_cases c : j = n
    · rw [c, z1_self, z1_self, zI_sI, z2_a _ _ _ _ (by decide), zI_sI, z2_at]
    · rw [z1_ne _ _ c, z1_ne _ _ (hnq j (by omega)), zI_sI, z2_a _ _ _ _ (by decide), zI_sI, z2_k _ _ _ (hnq j (by omega))]; exact i5 j h1 (by omega)
  · have c : z ≠ y := fun e => hz2 (by rw [e]; exact hnew)
    rw [zI_sI, z2_a _ _ _ _ (by decide), zI_sI, z2_k _ _ _ c]
    exact i6 z hz (fun e => hz2 (hmon z e))
  · have c : z ≠ y := fun e => hm (Or.inl (by rw [← e]; exact hz2))
    rw [zI_sI, z2_a _ _ _ _ (by decide), zI_sI, z2_k _ _ _ c]
    exact i7 z hz hz2
/-- what is looked through so far, the model's way -/
def SN (h : Zh) (t : Tk) (pr ow : Nat → Option Nat) (s st : Nat) (R0 : Nat → Prop) (q x v n : Nat) (qu cf : Nat → Nat) : Prop := SM_ h t (fcr t (crC t)) pr s st R0 n qu cf ∧ q < n ∧ qu q = x ∧ (∀ j, j < q → ∀ r, fcr t (crC t) (qu j) r → okr ow s (mkd R0 qu n) r) ∧ ∀ w, w < v → okr ow s (mkd R0 qu n) (crC t x (w / tT t) * tT t + w % tT t)
theorem SN.skip {h : Zh} {t : Tk} {pr ow : Nat → Option Nat} {s st : Nat} {R0 : Nat → Prop} {q x v n : Nat} {qu cf : Nat → Nat} (j : SN h t pr ow s st R0 q x v n qu cf) (hok : okr ow s (mkd R0 qu n) (crC t x (v / tT t) * tT t + v % tT t)) : SN h t pr ow s st R0 q x (v + 1) n qu cf := by
  obtain ⟨j1, j2, j3, j4, j5⟩ := j
  refine ⟨j1, j2, j3, j4, fun u hu => ?_⟩
  by_cases c : u = v
  · rw [c]; exact hok
  · exact j5 u (by omega)
theorem goes_b1 {s v n P R x : Nat} {y3 : Int32} {g h : Zh} (sg : St g) (s1 : St h) (hv : v < P) (hP : P < 1921) (hR : R < 190080) (e22 : zI h 76 22 = iI P) (e82 : zI h 82 v = iI R) : bX12_goesOnFrom_86 g 76 (iI s) (iI (R : Int)) (iI x) (iI n) (iI v) y3 h = some (0, (iI n, iI ((v + 1 : Nat) : Int), iI R, h)) := by
  unfold bX12_goesOnFrom_86
  simp (maxSteps := 1000000) (disch := (first | assumption | exact ne_b rfl | omega)) only [↓reduceIte, ↓zlet_eq, ↓bdR_sI, ↓bdR_sJ, ↓bdR_aI, zc2_some, Option.bind_some, ↓si_m1, ↓si_m2, ↓si_m3, iI_lit, iI_add, iI_sub, iI_mul, leT, leF, ltT, ltF, eqT, eqF, zinT, clI, Int.toNat_natCast, Int.reduceToNat, tN1, tNa, tN0, tNm, if_pos, if_neg, zI_sI, zI_sJ, zI_sR, zJ_sI, zJ_sJ, zJ_sR, zR_sI, zR_sJ, zR_sR, zK_sI, zK_sJ, zK_sR, zL_sI, zL_sJ, zL_sR, zI_aI, zJ_aI, zR_aI, zK_aI, zL_aI, z2_at, z2_a, z2_k, z1_self, z1_ne, true_and, and_true, bIt, bIf, Bool.false_eq_true, Bool.true_eq_false, eq_self, not_true_eq_false, not_false_eq_true, sK76, sK77, sK78, sK79, sK80, sK81, sK82, sK83, sK84, sK85, sK86, sK87, sK88, sK89, sK90, sK91, sK92, sK93, sK94, sK95, sK96, sK97, sK98, sK99, sK100, sL77, sL78, sL79, sL80, sL81, sL82, sL83, sL84, sL85, sL86, sL87, sL88, sL89, sL90, sL91, sL92, sL93, sL94, sL95, sL96, sL97, sL98, sL99, sL100, sR76_5, sR76_16, sR76_18, sR76_19, sR76_20, sR76_21, sR76_23, sR76_25, sR76_26, sR76_27, sR76_28, sR76_29, sR76_30, sR76_31, sR76_32, sR76_33, sR76_34, sR76_37, sR76_38, sR76_39, sR76_40, sR76_41, sR76_42, ↓sB76_5, ↓sB76_16, ↓sB76_18, ↓sB76_19, ↓sB76_20, ↓sB76_21, ↓sB76_23, ↓sB76_25, ↓sB76_26, ↓sB76_27, ↓sB76_28, ↓sB76_29, ↓sB76_30, ↓sB76_31, ↓sB76_32, ↓sB76_33, ↓sB76_34, ↓sB76_37, ↓sB76_38, ↓sB76_39, ↓sB76_40, ↓sB76_41, ↓sB76_42, e22, e82]
  all_goals rfl
theorem goes_b2 {s v n P R x : Nat} {bt : Int} {y3 : Int32} {g h : Zh} (sg : St g) (s1 : St h) (hv : v < P) (hP : P < 1921) (hR : R < 190080) (hb1 : -1 ≤ bt) (hb2 : bt < 2147483648) (e22 : zI h 76 22 = iI P) (e82 : zI h 82 v = iI R) (cb : ¬ (R : Int) = bt) (eow : fX12_ownerOf 76 (iI R) h = some (iI (-1), h)) : bX12_goesOnFrom_86 g 76 (iI s) (iI bt) (iI x) (iI n) (iI v) y3 h = some (0 + 1, (iI n, iI v, iI R, h)) := by
  unfold bX12_goesOnFrom_86
  simp (maxSteps := 1000000) (disch := (first | assumption | exact ne_b rfl | omega)) only [↓reduceIte, ↓zlet_eq, ↓bdR_sI, ↓bdR_sJ, ↓bdR_aI, zc2_some, Option.bind_some, ↓si_m1, ↓si_m2, ↓si_m3, iI_lit, iI_add, iI_sub, iI_mul, leT, leF, ltT, ltF, eqT, eqF, zinT, clI, Int.toNat_natCast, Int.reduceToNat, tN1, tNa, tN0, tNm, if_pos, if_neg, zI_sI, zI_sJ, zI_sR, zJ_sI, zJ_sJ, zJ_sR, zR_sI, zR_sJ, zR_sR, zK_sI, zK_sJ, zK_sR, zL_sI, zL_sJ, zL_sR, zI_aI, zJ_aI, zR_aI, zK_aI, zL_aI, z2_at, z2_a, z2_k, z1_self, z1_ne, true_and, and_true, bIt, bIf, Bool.false_eq_true, Bool.true_eq_false, eq_self, not_true_eq_false, not_false_eq_true, sK76, sK77, sK78, sK79, sK80, sK81, sK82, sK83, sK84, sK85, sK86, sK87, sK88, sK89, sK90, sK91, sK92, sK93, sK94, sK95, sK96, sK97, sK98, sK99, sK100, sL77, sL78, sL79, sL80, sL81, sL82, sL83, sL84, sL85, sL86, sL87, sL88, sL89, sL90, sL91, sL92, sL93, sL94, sL95, sL96, sL97, sL98, sL99, sL100, sR76_5, sR76_16, sR76_18, sR76_19, sR76_20, sR76_21, sR76_23, sR76_25, sR76_26, sR76_27, sR76_28, sR76_29, sR76_30, sR76_31, sR76_32, sR76_33, sR76_34, sR76_37, sR76_38, sR76_39, sR76_40, sR76_41, sR76_42, ↓sB76_5, ↓sB76_16, ↓sB76_18, ↓sB76_19, ↓sB76_20, ↓sB76_21, ↓sB76_23, ↓sB76_25, ↓sB76_26, ↓sB76_27, ↓sB76_28, ↓sB76_29, ↓sB76_30, ↓sB76_31, ↓sB76_32, ↓sB76_33, ↓sB76_34, ↓sB76_37, ↓sB76_38, ↓sB76_39, ↓sB76_40, ↓sB76_41, ↓sB76_42, e22, e82, cb, eow]
  all_goals rfl
theorem goes_b3 {s v n P R x y : Nat} {bt : Int} {y3 : Int32} {g h : Zh} (sg : St g) (s1 : St h) (hv : v < P) (hP : P < 1921) (hR : R < 190080) (hb1 : -1 ≤ bt) (hb2 : bt < 2147483648) (e22 : zI h 76 22 = iI P) (e82 : zI h 82 v = iI R) (cb : ¬ (R : Int) = bt) (hy : y < 2000) (hs : s ≤ 2000) (eow : fX12_ownerOf 76 (iI R) h = some (iI (y : Int), h)) (c1 : y < s) : bX12_goesOnFrom_86 g 76 (iI s) (iI bt) (iI x) (iI n) (iI v) y3 h = some (0, (iI n, iI ((v + 1 : Nat) : Int), iI R, h)) := by
  unfold bX12_goesOnFrom_86
  simp (maxSteps := 1000000) (disch := (first | assumption | exact ne_b rfl | omega)) only [↓reduceIte, ↓zlet_eq, ↓bdR_sI, ↓bdR_sJ, ↓bdR_aI, zc2_some, Option.bind_some, ↓si_m1, ↓si_m2, ↓si_m3, iI_lit, iI_add, iI_sub, iI_mul, leT, leF, ltT, ltF, eqT, eqF, zinT, clI, Int.toNat_natCast, Int.reduceToNat, tN1, tNa, tN0, tNm, if_pos, if_neg, zI_sI, zI_sJ, zI_sR, zJ_sI, zJ_sJ, zJ_sR, zR_sI, zR_sJ, zR_sR, zK_sI, zK_sJ, zK_sR, zL_sI, zL_sJ, zL_sR, zI_aI, zJ_aI, zR_aI, zK_aI, zL_aI, z2_at, z2_a, z2_k, z1_self, z1_ne, true_and, and_true, bIt, bIf, Bool.false_eq_true, Bool.true_eq_false, eq_self, not_true_eq_false, not_false_eq_true, sK76, sK77, sK78, sK79, sK80, sK81, sK82, sK83, sK84, sK85, sK86, sK87, sK88, sK89, sK90, sK91, sK92, sK93, sK94, sK95, sK96, sK97, sK98, sK99, sK100, sL77, sL78, sL79, sL80, sL81, sL82, sL83, sL84, sL85, sL86, sL87, sL88, sL89, sL90, sL91, sL92, sL93, sL94, sL95, sL96, sL97, sL98, sL99, sL100, sR76_5, sR76_16, sR76_18, sR76_19, sR76_20, sR76_21, sR76_23, sR76_25, sR76_26, sR76_27, sR76_28, sR76_29, sR76_30, sR76_31, sR76_32, sR76_33, sR76_34, sR76_37, sR76_38, sR76_39, sR76_40, sR76_41, sR76_42, ↓sB76_5, ↓sB76_16, ↓sB76_18, ↓sB76_19, ↓sB76_20, ↓sB76_21, ↓sB76_23, ↓sB76_25, ↓sB76_26, ↓sB76_27, ↓sB76_28, ↓sB76_29, ↓sB76_30, ↓sB76_31, ↓sB76_32, ↓sB76_33, ↓sB76_34, ↓sB76_37, ↓sB76_38, ↓sB76_39, ↓sB76_40, ↓sB76_41, ↓sB76_42, e22, e82, cb, eow]
  all_goals rfl
theorem goes_b4 {s v n P R x y : Nat} {bt w : Int} {y3 : Int32} {g h : Zh} (sg : St g) (s1 : St h) (hv : v < P) (hP : P < 1921) (hR : R < 190080) (hb1 : -1 ≤ bt) (hb2 : bt < 2147483648) (e22 : zI h 76 22 = iI P) (e82 : zI h 82 v = iI R) (cb : ¬ (R : Int) = bt) (hy : y < 2000) (hs : s ≤ 2000) (eow : fX12_ownerOf 76 (iI R) h = some (iI (y : Int), h)) (c1 : ¬ y < s) (w1 : -1 ≤ w) (w2 : w < 2000) (w3 : zI h 90 y = iI w) : bX12_goesOnFrom_86 g 76 (iI s) (iI bt) (iI x) (iI n) (iI v) y3 h = some (0, (iI n, iI ((v + 1 : Nat) : Int), iI R, h)) := by
  unfold bX12_goesOnFrom_86
  simp (maxSteps := 1000000) (disch := (first | assumption | exact ne_b rfl | omega)) only [↓reduceIte, ↓zlet_eq, ↓bdR_sI, ↓bdR_sJ, ↓bdR_aI, zc2_some, Option.bind_some, ↓si_m1, ↓si_m2, ↓si_m3, iI_lit, iI_add, iI_sub, iI_mul, leT, leF, ltT, ltF, eqT, eqF, zinT, clI, Int.toNat_natCast, Int.reduceToNat, tN1, tNa, tN0, tNm, if_pos, if_neg, zI_sI, zI_sJ, zI_sR, zJ_sI, zJ_sJ, zJ_sR, zR_sI, zR_sJ, zR_sR, zK_sI, zK_sJ, zK_sR, zL_sI, zL_sJ, zL_sR, zI_aI, zJ_aI, zR_aI, zK_aI, zL_aI, z2_at, z2_a, z2_k, z1_self, z1_ne, true_and, and_true, bIt, bIf, Bool.false_eq_true, Bool.true_eq_false, eq_self, not_true_eq_false, not_false_eq_true, sK76, sK77, sK78, sK79, sK80, sK81, sK82, sK83, sK84, sK85, sK86, sK87, sK88, sK89, sK90, sK91, sK92, sK93, sK94, sK95, sK96, sK97, sK98, sK99, sK100, sL77, sL78, sL79, sL80, sL81, sL82, sL83, sL84, sL85, sL86, sL87, sL88, sL89, sL90, sL91, sL92, sL93, sL94, sL95, sL96, sL97, sL98, sL99, sL100, sR76_5, sR76_16, sR76_18, sR76_19, sR76_20, sR76_21, sR76_23, sR76_25, sR76_26, sR76_27, sR76_28, sR76_29, sR76_30, sR76_31, sR76_32, sR76_33, sR76_34, sR76_37, sR76_38, sR76_39, sR76_40, sR76_41, sR76_42, ↓sB76_5, ↓sB76_16, ↓sB76_18, ↓sB76_19, ↓sB76_20, ↓sB76_21, ↓sB76_23, ↓sB76_25, ↓sB76_26, ↓sB76_27, ↓sB76_28, ↓sB76_29, ↓sB76_30, ↓sB76_31, ↓sB76_32, ↓sB76_33, ↓sB76_34, ↓sB76_37, ↓sB76_38, ↓sB76_39, ↓sB76_40, ↓sB76_41, ↓sB76_42, e22, e82, cb, eow, w3]
  all_goals rfl
theorem goes_b5 {s v n P R x y : Nat} {bt : Int} {y3 : Int32} {g h : Zh} (sg : St g) (s1 : St h) (hv : v < P) (hP : P < 1921) (hR : R < 190080) (hb1 : -1 ≤ bt) (hb2 : bt < 2147483648) (e22 : zI h 76 22 = iI P) (e82 : zI h 82 v = iI R) (cb : ¬ (R : Int) = bt) (hy : y < 2000) (hs : s ≤ 2000) (hn : n < 2000) (eow : fX12_ownerOf 76 (iI R) h = some (iI (y : Int), h)) (c1 : ¬ y < s) (w3 : zI h 90 y = iI (-2)) : bX12_goesOnFrom_86 g 76 (iI s) (iI bt) (iI x) (iI n) (iI v) y3 h = some (0, (iI ((n + 1 : Nat) : Int), iI ((v + 1 : Nat) : Int), iI R, zsI (zsI h 90 y (iI x)) 89 n (iI y))) := by
  have s2 : St (zsI h 90 y (iI x)) := s1.sI _ _ _
  unfold bX12_goesOnFrom_86
  simp (maxSteps := 1000000) (disch := (first | assumption | exact ne_b rfl | omega)) only [↓reduceIte, ↓zlet_eq, ↓bdR_sI, ↓bdR_sJ, ↓bdR_aI, zc2_some, Option.bind_some, ↓si_m1, ↓si_m2, ↓si_m3, iI_lit, iI_add, iI_sub, iI_mul, leT, leF, ltT, ltF, eqT, eqF, zinT, clI, Int.toNat_natCast, Int.reduceToNat, tN1, tNa, tN0, tNm, if_pos, if_neg, zI_sI, zI_sJ, zI_sR, zJ_sI, zJ_sJ, zJ_sR, zR_sI, zR_sJ, zR_sR, zK_sI, zK_sJ, zK_sR, zL_sI, zL_sJ, zL_sR, zI_aI, zJ_aI, zR_aI, zK_aI, zL_aI, z2_at, z2_a, z2_k, z1_self, z1_ne, true_and, and_true, bIt, bIf, Bool.false_eq_true, Bool.true_eq_false, eq_self, not_true_eq_false, not_false_eq_true, sK76, sK77, sK78, sK79, sK80, sK81, sK82, sK83, sK84, sK85, sK86, sK87, sK88, sK89, sK90, sK91, sK92, sK93, sK94, sK95, sK96, sK97, sK98, sK99, sK100, sL77, sL78, sL79, sL80, sL81, sL82, sL83, sL84, sL85, sL86, sL87, sL88, sL89, sL90, sL91, sL92, sL93, sL94, sL95, sL96, sL97, sL98, sL99, sL100, sR76_5, sR76_16, sR76_18, sR76_19, sR76_20, sR76_21, sR76_23, sR76_25, sR76_26, sR76_27, sR76_28, sR76_29, sR76_30, sR76_31, sR76_32, sR76_33, sR76_34, sR76_37, sR76_38, sR76_39, sR76_40, sR76_41, sR76_42, ↓sB76_5, ↓sB76_16, ↓sB76_18, ↓sB76_19, ↓sB76_20, ↓sB76_21, ↓sB76_23, ↓sB76_25, ↓sB76_26, ↓sB76_27, ↓sB76_28, ↓sB76_29, ↓sB76_30, ↓sB76_31, ↓sB76_32, ↓sB76_33, ↓sB76_34, ↓sB76_37, ↓sB76_38, ↓sB76_39, ↓sB76_40, ↓sB76_41, ↓sB76_42, e22, e82, cb, eow, w3]
  all_goals rfl
theorem goes_in {t : Tk} {ex s st q x c : Nat} {bt : Int} {R0 : Nat → Prop} {pr ow : Nat → Option Nat} {f : Nat → Option Int} {g h0 : Zh} (tok : Tok t) (hH : tH t ≤ 2000) (sg : St g) (s0 : St h0) (hb1 : -1 ≤ bt) (hb2 : bt < 2147483648) (hbt : ∀ r : Nat, (r : Int) = bt → ow r = some st) (hs : s ≤ 2000) (cn : Cns (tH t) (fcr t (crC t)) pr ow) (pm : PM h0 t pr ow f c ex) (fg : FG h0 (tT t) (pcn t) (crC t x)) (hx : x < tH t) {n0 : Nat} {qu0 cf0 : Nat → Nat} (j0 : SN h0 t pr ow s st R0 q x 0 n0 qu0 cf0) : ∃ e n y2 y3 h' qu cf, lp (fun z : Int32 × Int32 × Int32 × Zh => bX12_goesOnFrom_86 g 76 (iI s) (iI bt) (iI x) z.1 z.2.1 z.2.2.1 z.2.2.2) zB (iI n0, iI 0, 0, h0) = some (e + 1, (iI (n : Nat), y2, y3, h')) ∧ Fm [89, 90] h0 h' ∧ ((e = 0 ∧ ∃ r : Nat, y3 = iI r ∧ SM_ h' t (fcr t (crC t)) pr s st R0 n qu cf ∧ q < n ∧ qu q = x ∧ fcr t (crC t) x r ∧ ow r = none) ∨ (e = 1 ∧ SN h' t pr ow s st R0 q x (pcn t * tT t) n qu cf)) := by
  obtain ⟨bn4, bn12, bu1, bu4, bnu, bk2, bk5, bkn, bp1, bp2, bpk, bH, bsp, bs1, bs4, bT1, bT16, bR1, bR2, bH1, bff, bff1⟩ := tok.b
  have hcr := crC_lt tok
  have hpT : pcn t * tT t ≤ 120 * 16 := Nat.mul_le_mul (pcn_b tok).2 bT16
  have := lp_cnt (body := fun z : Int32 × Int32 × Int32 × Zh => bX12_goesOnFrom_86 g 76 (iI s) (iI bt) (iI x) z.1 z.2.1 z.2.2.1 z.2.2.2) (pcn t * tT t) (fun v z => ∃ n y3 h qu cf, z = ((iI (n : Nat), iI (v : Int), y3, h) : Int32 × Int32 × Int32 × Zh) ∧ Fm [89, 90] h0 h ∧ SN h t pr ow s st R0 q x v n qu cf) (fun e z => ∃ n y2 y3 h' qu cf, z = ((iI (n : Nat), y2, y3, h') : Int32 × Int32 × Int32 × Zh) ∧ Fm [89, 90] h0 h' ∧ ((e = 1 ∧ ∃ r : Nat, y3 = iI r ∧ SM_ h' t (fcr t (crC t)) pr s st R0 n qu cf ∧ q < n ∧ qu q = x ∧ fcr t (crC t) x r ∧ ow r = none) ∨ (e = 2 ∧ SN h' t pr ow s st R0 q x (pcn t * tT t) n qu cf))) ?_ ?_ (by omega) (s := (iI n0, iI 0, 0, h0)) ⟨n0, 0, h0, qu0, cf0, rfl, Fm.rf, j0⟩
  · obtain ⟨e, z, l1, n, y2, y3, h', qu, cf, l2, l3, l4⟩ := this
    subst l2
    refine ⟨e, n, y2, y3, h', qu, cf, l1, l3, ?_⟩
    rcases l4 with ⟨l5, l6⟩ | ⟨l5, l6⟩
    · exact Or.inl ⟨by omega, l6⟩
    · exact Or.inr ⟨by omega, l6⟩
  · intro v z hv ⟨n, y3, h, qu, cf, ez, fm, sj⟩
    subst ez
    have s1 : St h := s0.fm fm
    have pm1 := pm.fm fm (by simp) (by simp) (by simp)
    have e22 : zI h 76 22 = iI ((pcn t * tT t : Nat) : Int) := by rw [fm.I (by simp)]; exact fg.1
    have hdv : v / tT t < pcn t := Nat.div_lt_of_lt_mul (by rw [Nat.mul_comm]; exact hv)
    have hmv : v % tT t < tT t := Nat.mod_lt _ (by omega)
    have hci := hcr x (v / tT t) hx hdv
    have e82 : zI h 82 v = iI ((crC t x (v / tT t) * tT t + v % tT t : Nat) : Int) := by
      have := fg.2 (v / tT t) (v % tT t) hdv hmv
      rw [Nat.div_add_mod' v (tT t)] at this
      rw [fm.I (by simp)]; exact this
    have hF : fcr t (crC t) x (crC t x (v / tT t) * tT t + v % tT t) := ⟨v / tT t, hdv, (row_div (by omega) hmv).symm⟩
    have hrow : crC t x (v / tT t) * tT t + v % tT t < 11880 * 16 := by
      have h1 : (crC t x (v / tT t) + 1) * tT t ≤ 11880 * 16 := Nat.mul_le_mul (by omega) bT16
      rw [Nat.add_mul, Nat.one_mul] at h1
      omega
    have sj0 := sj
    obtain ⟨j1, j2, j3, j4, j5⟩ := sj
    have hnH : n ≤ tH t := holes (tH t) n qu (fun j hj => (j1.2.1 j hj).1) j1.1.2.2.1
    have hmst : mkd R0 qu n st := Or.inr ⟨0, by omega, j1.1.2.1⟩
    generalize hR : crC t x (v / tT t) * tT t + v % tT t = R at e82 hF hrow
    have eow := fX12_ownerOf_eq (r := R) s1 pm1.2.1 (by omega)
    rw [pm1.2.2 R] at eow
    have hv1 : v < 1920 := by omega
    have hpT2 : pcn t * tT t < 1921 := by omega
    generalize hP : pcn t * tT t = P at hv e22 hpT2
    clear hpT hcr
    show (∃ s', bX12_goesOnFrom_86 g 76 (iI s) (iI bt) (iI x) (iI n) (iI v) y3 h = some (0, s') ∧ _) ∨ (∃ e s', bX12_goesOnFrom_86 g 76 (iI s) (iI bt) (iI x) (iI n) (iI v) y3 h = some (e + 1, s') ∧ _)
    by_cases cb : (R : Int) = bt
    · refine Or.inl ⟨(iI n, iI ((v + 1 : Nat) : Int), iI R, h), ?_, n, iI R, h, qu, cf, rfl, fm, sj0.skip (by rw [hR]; exact ⟨st, hbt R cb, Or.inr hmst⟩)⟩
      subst cb
      exact goes_b1 sg s1 hv hpT2 hrow e22 e82
    · cases ho : ow R with
      | none =>
        rw [ho] at eow
        have eow2 : fX12_ownerOf 76 (iI R) h = some (iI (-1), h) := eow
        refine Or.inr ⟨0, (iI n, iI v, iI R, h), ?_, n, iI v, iI R, h, qu, cf, rfl, fm, Or.inl ⟨rfl, R, rfl, j1, j2, j3, hF, ho⟩⟩
        exact goes_b2 sg s1 hv hpT2 hrow hb1 hb2 e22 e82 cb eow2
      | some y =>
        rw [ho] at eow
        have eow2 : fX12_ownerOf 76 (iI R) h = some (iI (y : Int), h) := eow
        have hyc := cn.2 _ _ ho
        have hyH := hyc.1
        by_cases c1 : y < s
        · refine Or.inl ⟨(iI n, iI ((v + 1 : Nat) : Int), iI R, h), ?_, n, iI R, h, qu, cf, rfl, fm, sj0.skip (by rw [hR]; exact ⟨y, ho, Or.inl c1⟩)⟩
          exact goes_b3 sg s1 hv hpT2 hrow hb1 hb2 e22 e82 cb (by omega) hs eow2 c1
        · by_cases c2 : mkd R0 qu n y
          · have e90 : ∃ w : Int, -1 ≤ w ∧ w < 2000 ∧ zI h 90 y = iI w := by
              rcases c2 with c2 | ⟨j, c2, c3⟩
              · exact ⟨-1, by omega, by omega, j1.2.2.2.2.2.2 y hyH c2⟩
              · by_cases cj : j = 0
                · have : y = st := by rw [← c3, cj]; exact j1.1.2.1
                  exact ⟨-1, by omega, by omega, by rw [this]; exact j1.2.2.2.1⟩
                · obtain ⟨k, k1, k2, _⟩ := j1.1.2.2.2 j (by omega) c2
                  have := (j1.2.1 k (by omega)).1
                  exact ⟨cf (qu j), by omega, by rw [k2]; omega, by rw [← c3]; exact j1.2.2.2.2.1 j (by omega) c2⟩
            obtain ⟨w, w1, w2, w3⟩ := e90
            refine Or.inl ⟨(iI n, iI ((v + 1 : Nat) : Int), iI R, h), ?_, n, iI R, h, qu, cf, rfl, fm, sj0.skip (by rw [hR]; exact ⟨y, ho, Or.inr c2⟩)⟩
            exact goes_b4 sg s1 hv hpT2 hrow hb1 hb2 e22 e82 cb (by omega) hs eow2 c1 w1 w2 w3
          · have e90 := j1.2.2.2.2.2.1 y hyH c2
            obtain ⟨k1, k2, k3, k4⟩ := j1.put (y := y) (r := R) j2 j3 hyH (by omega) c2 hyc.2 hF
            refine Or.inl ⟨(iI ((n + 1 : Nat) : Int), iI ((v + 1 : Nat) : Int), iI R, zsI (zsI h 90 y (iI x)) 89 n (iI y)), ?_, n + 1, iI R, zsI (zsI h 90 y (iI x)) 89 n (iI y), z1 qu n y, z1 cf y x, rfl, fm.tr ((Fm_sI _ _ _ (by simp)).tr (Fm_sI _ _ _ (by simp))), ?_⟩
            · exact goes_b5 sg s1 hv hpT2 hrow hb1 hb2 e22 e82 cb (by omega) hs (by omega) eow2 c1 e90
            · refine SN.skip ⟨k2, by omega, by rw [z1_ne _ _ (by omega)]; exact j3, fun j hj r hr => ?_, fun u hu => (j5 u hu).mono k3⟩ (by rw [hR]; exact ⟨y, ho, Or.inr k4⟩)
              rw [z1_ne _ _ (by omega)] at hr
              exact (j4 j hj r hr).mono k3
  · intro z ⟨n, y3, h, qu, cf, ez, fm, sj⟩
    subst ez
    have s1 : St h := s0.fm fm
    have e22 : zI h 76 22 = iI ((pcn t * tT t : Nat) : Int) := by rw [fm.I (by simp)]; exact fg.1
    refine ⟨1, (iI n, iI ((pcn t * tT t : Nat) : Int), 0, h), ?_, n, _, 0, h, qu, cf, rfl, fm, Or.inr ⟨rfl, sj⟩⟩
    show bX12_goesOnFrom_86 g 76 (iI s) (iI bt) (iI x) (iI n) (iI ((pcn t * tT t : Nat) : Int)) y3 h = _
    generalize pcn t * tT t = P at e22 hpT
    unfold bX12_goesOnFrom_86
    simp (maxSteps := 1000000) (disch := (first | assumption | exact ne_b rfl | omega)) only [↓reduceIte, ↓zlet_eq, ↓bdR_sI, ↓bdR_sJ, ↓bdR_aI, zc2_some, Option.bind_some, ↓si_m1, ↓si_m2, ↓si_m3, iI_lit, iI_add, iI_sub, iI_mul, leT, leF, ltT, ltF, eqT, eqF, zinT, clI, Int.toNat_natCast, Int.reduceToNat, tN1, tNa, tN0, tNm, if_pos, if_neg, zI_sI, zI_sJ, zI_sR, zJ_sI, zJ_sJ, zJ_sR, zR_sI, zR_sJ, zR_sR, zK_sI, zK_sJ, zK_sR, zL_sI, zL_sJ, zL_sR, zI_aI, zJ_aI, zR_aI, zK_aI, zL_aI, z2_at, z2_a, z2_k, z1_self, z1_ne, true_and, and_true, bIt, bIf, Bool.false_eq_true, Bool.true_eq_false, eq_self, not_true_eq_false, not_false_eq_true, e22]
