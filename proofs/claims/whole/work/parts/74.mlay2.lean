/-! the model: orders, rows by words and by suit -/
theorem orders_in {i a b : Nat} {u : Nat → Nat} {B : Nat → Int32} {g h : Zh} (sg : St g) (s : St h) (h1 : i ≤ a) (h2 : a < b) (hb : b ≤ 5) : lp (fun q : Int32 × Zh => bX12_orders_84 g 76 (iI i) q.1 q.2) zB (iI a, zaI h 80 (afill b (fun j => iI (u j)) B)) = some (1, (iI i, zaI h 80 (fun j => if i < j ∧ j ≤ a then iI (u (j - 1)) else afill b (fun j => iI (u j)) B j))) := by
  refine lp_for0 (st := fun e => ((iI ((a - e : Nat) : Int), zaI h 80 (fun j => if a - e < j ∧ j ≤ a then iI (u (j - 1)) else afill b (fun j => iI (u j)) B j)) : Int32 × Zh)) (e := 0) (a - i) ?_ (by omega) ?_ ?_
  · congr 2
    funext j
    rw [if_neg (by omega)]
  · intro e he
    show bX12_orders_84 g 76 (iI i) (iI ((a - e : Nat) : Int)) (zaI h 80 _) = _
    unfold bX12_orders_84
    have e1 : ((a - e : Nat) : Int) - 1 = ((a - e - 1 : Nat) : Int) := by omega
    simp (maxSteps := 1000000) (disch := (first | assumption | exact ne_b rfl | omega)) only [↓reduceIte, ↓zlet_eq, ↓bdR_sI, ↓bdR_sJ, ↓bdR_aI, zc2_some, Option.bind_some, ↓si_m1, ↓si_m2, ↓si_m3, iI_lit, iI_add, iI_sub, iI_mul, leT, leF, ltT, ltF, eqT, eqF, zinT, clI, Int.toNat_natCast, Int.reduceToNat, tN1, tNa, tN0, tNm, if_pos, if_neg, zI_sI, zI_sJ, zI_sR, zJ_sI, zJ_sJ, zJ_sR, zR_sI, zR_sJ, zR_sR, zK_sI, zK_sJ, zK_sR, zL_sI, zL_sJ, zL_sR, zI_aI, zJ_aI, zR_aI, zK_aI, zL_aI, z2_at, z2_a, z2_k, z1_self, z1_ne, true_and, and_true, bIt, bIf, Bool.false_eq_true, Bool.true_eq_false, eq_self, not_true_eq_false, not_false_eq_true, sK76, sK77, sK78, sK79, sK80, sK81, sK82, sK83, sK84, sK85, sK86, sK87, sK88, sK89, sK90, sK91, sK92, sK93, sK94, sK95, sK96, sK97, sK98, sK99, sK100, sL77, sL78, sL79, sL80, sL81, sL82, sL83, sL84, sL85, sL86, sL87, sL88, sL89, sL90, sL91, sL92, sL93, sL94, sL95, sL96, sL97, sL98, sL99, sL100, sR76_5, sR76_16, sR76_18, sR76_19, sR76_20, sR76_21, sR76_23, sR76_25, sR76_26, sR76_27, sR76_28, sR76_29, sR76_30, sR76_31, sR76_32, sR76_33, sR76_34, sR76_37, sR76_38, sR76_39, sR76_40, sR76_41, sR76_42, ↓sB76_5, ↓sB76_16, ↓sB76_18, ↓sB76_19, ↓sB76_20, ↓sB76_21, ↓sB76_23, ↓sB76_25, ↓sB76_26, ↓sB76_27, ↓sB76_28, ↓sB76_29, ↓sB76_30, ↓sB76_31, ↓sB76_32, ↓sB76_33, ↓sB76_34, ↓sB76_37, ↓sB76_38, ↓sB76_39, ↓sB76_40, ↓sB76_41, ↓sB76_42, e1, zsI_aI]
    rw [show ((a - e : Nat) : Int) + -1 = ((a - (e + 1) : Nat) : Int) by omega, afill_lt (by omega)]
    congr 4
    funext j
    unfold z1
    dsimp only
    by_cases c : j = a - e
    · rw [if_pos c, if_pos (by omega), c]
    · rw [if_neg c]
      by_cases c2 : a - e < j ∧ j ≤ a
      · rw [if_pos c2, if_pos (by omega)]
      · rw [if_neg c2, if_neg (by omega)]
  · show bX12_orders_84 g 76 (iI i) (iI ((a - (a - i) : Nat) : Int)) (zaI h 80 _) = _
    unfold bX12_orders_84
    rw [show a - (a - i) = i by omega]
    simp (maxSteps := 1000000) (disch := (first | assumption | exact ne_b rfl | omega)) only [↓reduceIte, ↓zlet_eq, ↓bdR_sI, ↓bdR_sJ, ↓bdR_aI, zc2_some, Option.bind_some, ↓si_m1, ↓si_m2, ↓si_m3, iI_lit, iI_add, iI_sub, iI_mul, leT, leF, ltT, ltF, eqT, eqF, zinT, clI, Int.toNat_natCast, Int.reduceToNat, tN1, tNa, tN0, tNm, if_pos, if_neg, zI_sI, zI_sJ, zI_sR, zJ_sI, zJ_sJ, zJ_sR, zR_sI, zR_sJ, zR_sR, zK_sI, zK_sJ, zK_sR, zL_sI, zL_sJ, zL_sR, zI_aI, zJ_aI, zR_aI, zK_aI, zL_aI, z2_at, z2_a, z2_k, z1_self, z1_ne, true_and, and_true, bIt, bIf, Bool.false_eq_true, Bool.true_eq_false, eq_self, not_true_eq_false, not_false_eq_true]
theorem fX12_orders_eq {tr fr num : Nat} {t : Tk} {u : Nat → Nat} {B : Nat → Int32} {h : Zh} (s : St h) (htr : 101 ≤ tr) (r3 : zR h 76 3 = some tr) (q : Tr h tr t) (tok : Tok t) (hfr : fr ≤ tsh t) (hnum : num < ff (tsh t - fr) (tsh t - fr)) : fX12_orders 76 (iI num) (iI fr) (zaI h 80 (afill (tsh t) (fun j => iI (u j)) B)) = some (zaI h 80 (afill (tsh t) (fun j => iI (arA u fr (tsh t - fr) num (tsh t - fr) j)) B)) := by
  obtain ⟨bn4, bn12, bu1, bu4, bnu, bk2, bk5, bkn, bp1, bp2, bpk, bH, bsp, bs1, bs4, bT1, bT16, bR1, bR2, bH1, bff, bff1⟩ := tok.b
  obtain ⟨cnt, hcnt⟩ : ∃ c, tsh t - fr = c := ⟨_, rfl⟩
  rw [hcnt] at hnum ⊢
  have hs : tsh t = fr + cnt := by omega
  have n80 : tr ≠ 80 := by omega
  have s1 : ∀ f, St (zaI h 80 f) := fun f => s.aI _ _
  have hn0 : num < 200 := by have := (ff_k cnt (by omega)).2.1; omega
  have hrl : ∀ i, i < cnt → rsA cnt num i < 200 := fun i hi => by
    have h1 := rsA_lt (by omega) hnum i hi
    have := (ff_k (cnt - i) (by omega)).2.1
    omega
  unfold fX12_orders
  simp (maxSteps := 1000000) (disch := (first | assumption | exact ne_b rfl | omega)) only [↓reduceIte, ↓zlet_eq, ↓bdR_sI, ↓bdR_sJ, ↓bdR_aI, zc2_some, Option.bind_some, ↓si_m1, ↓si_m2, ↓si_m3, iI_lit, iI_add, iI_sub, iI_mul, leT, leF, ltT, ltF, eqT, eqF, zinT, clI, Int.toNat_natCast, Int.reduceToNat, tN1, tNa, tN0, tNm, if_pos, if_neg, zI_sI, zI_sJ, zI_sR, zJ_sI, zJ_sJ, zJ_sR, zR_sI, zR_sJ, zR_sR, zK_sI, zK_sJ, zK_sR, zL_sI, zL_sJ, zL_sR, zI_aI, zJ_aI, zR_aI, zK_aI, zL_aI, z2_at, z2_a, z2_k, z1_self, z1_ne, true_and, and_true, bIt, bIf, Bool.false_eq_true, Bool.true_eq_false, eq_self, not_true_eq_false, not_false_eq_true, sK76, sK77, sK78, sK79, sK80, sK81, sK82, sK83, sK84, sK85, sK86, sK87, sK88, sK89, sK90, sK91, sK92, sK93, sK94, sK95, sK96, sK97, sK98, sK99, sK100, sL77, sL78, sL79, sL80, sL81, sL82, sL83, sL84, sL85, sL86, sL87, sL88, sL89, sL90, sL91, sL92, sL93, sL94, sL95, sL96, sL97, sL98, sL99, sL100, sR76_5, sR76_16, sR76_18, sR76_19, sR76_20, sR76_21, sR76_23, sR76_25, sR76_26, sR76_27, sR76_28, sR76_29, sR76_30, sR76_31, sR76_32, sR76_33, sR76_34, sR76_37, sR76_38, sR76_39, sR76_40, sR76_41, sR76_42, ↓sB76_5, ↓sB76_16, ↓sB76_18, ↓sB76_19, ↓sB76_20, ↓sB76_21, ↓sB76_23, ↓sB76_25, ↓sB76_26, ↓sB76_27, ↓sB76_28, ↓sB76_29, ↓sB76_30, ↓sB76_31, ↓sB76_32, ↓sB76_33, ↓sB76_34, ↓sB76_37, ↓sB76_38, ↓sB76_39, ↓sB76_40, ↓sB76_41, ↓sB76_42, ↓bd_of r3, q.fK, q.f0, q.f1, q.f2, q.f3, q.f4, q.f7, q.f8, q.f9]
  refine (lp_fb (st := fun i => ((iI (rsA cnt num i), iI ((fr + i : Nat) : Int), zaI h 80 (afill (tsh t) (fun j => iI (arA u fr cnt num i j)) B)) : Int32 × Int32 × Zh)) (e := 0) (s' := (iI (rsA cnt num cnt), iI ((fr + cnt : Nat) : Int), zaI h 80 (afill (tsh t) (fun j => iI (arA u fr cnt num cnt j)) B))) cnt rfl (by omega) ?_ ?_).trans rfl
  · intro i hi
    show bX12_orders_16 (zaI h 80 _) 76 (iI (rsA cnt num i)) (iI ((fr + i : Nat) : Int)) (zaI h 80 _) = _
    unfold bX12_orders_16
    have hf := ff_k (cnt - 1 - i) (by omega)
    have hf1 := hf.1
    have hf2 := hf.2.1
    have hr1 := hrl i (by omega)
    have hdv := rsA_div (by omega) hnum (show i < cnt by omega)
    have hsd : iI (rsA cnt num i) / iI (ff (cnt - 1 - i) (cnt - 1 - i)) = iI ((rsA cnt num i / ff (cnt - 1 - i) (cnt - 1 - i) : Nat) : Int) := si_divN (by omega) (by omega) (by omega)
    have e1 : (tsh t : Int) - 1 - ((fr + i : Nat) : Int) = ((cnt - 1 - i : Nat) : Int) := by omega
    have e0 := fX12_rowsOf_eq (n := ((cnt - 1 - i : Nat) : Int)) (k := cnt - 1 - i) ⟨by omega, by omega⟩ (by omega) (zaI h 80 (afill (tsh t) (fun j => iI (arA u fr cnt num i j)) B))
    rw [hf.2.2] at e0
    have e2 : ((fr + i : Nat) : Int) + ((rsA cnt num i / ff (cnt - 1 - i) (cnt - 1 - i) : Nat) : Int) = ((fr + i + rsA cnt num i / ff (cnt - 1 - i) (cnt - 1 - i) : Nat) : Int) := by omega
    have s2 := s1 (afill (tsh t) (fun j => iI (arA u fr cnt num i j)) B)
    have s3 := s1 (afill (tsh t) (fun j => iI (u j)) B)
    rw [arA]
    generalize rsA cnt num i / ff (cnt - 1 - i) (cnt - 1 - i) = y at hdv hsd e2
    simp (maxSteps := 1000000) (disch := (first | assumption | exact ne_b rfl | omega)) only [↓reduceIte, ↓zlet_eq, ↓bdR_sI, ↓bdR_sJ, ↓bdR_aI, zc2_some, Option.bind_some, ↓si_m1, ↓si_m2, ↓si_m3, iI_lit, iI_add, iI_sub, iI_mul, leT, leF, ltT, ltF, eqT, eqF, zinT, clI, Int.toNat_natCast, Int.reduceToNat, tN1, tNa, tN0, tNm, if_pos, if_neg, zI_sI, zI_sJ, zI_sR, zJ_sI, zJ_sJ, zJ_sR, zR_sI, zR_sJ, zR_sR, zK_sI, zK_sJ, zK_sR, zL_sI, zL_sJ, zL_sR, zI_aI, zJ_aI, zR_aI, zK_aI, zL_aI, z2_at, z2_a, z2_k, z1_self, z1_ne, true_and, and_true, bIt, bIf, Bool.false_eq_true, Bool.true_eq_false, eq_self, not_true_eq_false, not_false_eq_true, sK76, sK77, sK78, sK79, sK80, sK81, sK82, sK83, sK84, sK85, sK86, sK87, sK88, sK89, sK90, sK91, sK92, sK93, sK94, sK95, sK96, sK97, sK98, sK99, sK100, sL77, sL78, sL79, sL80, sL81, sL82, sL83, sL84, sL85, sL86, sL87, sL88, sL89, sL90, sL91, sL92, sL93, sL94, sL95, sL96, sL97, sL98, sL99, sL100, sR76_5, sR76_16, sR76_18, sR76_19, sR76_20, sR76_21, sR76_23, sR76_25, sR76_26, sR76_27, sR76_28, sR76_29, sR76_30, sR76_31, sR76_32, sR76_33, sR76_34, sR76_37, sR76_38, sR76_39, sR76_40, sR76_41, sR76_42, ↓sB76_5, ↓sB76_16, ↓sB76_18, ↓sB76_19, ↓sB76_20, ↓sB76_21, ↓sB76_23, ↓sB76_25, ↓sB76_26, ↓sB76_27, ↓sB76_28, ↓sB76_29, ↓sB76_30, ↓sB76_31, ↓sB76_32, ↓sB76_33, ↓sB76_34, ↓sB76_37, ↓sB76_38, ↓sB76_39, ↓sB76_40, ↓sB76_41, ↓sB76_42, ↓bd_of r3, q.fK, q.f0, q.f1, q.f2, q.f3, q.f4, q.f7, q.f8, q.f9, e1, e0, jI_int, hsd, si_remN, e2]
    rw [afill_lt (by omega)]
    refine (lp_bd (orders_in (u := arA u fr cnt num i) (B := B) s3 s (show fr + i ≤ fr + i + y by omega) (show fr + i + y < tsh t by omega) (by omega))).trans ?_
    show kX12_orders_84 _ 76 (iI _) (iI ((fr + i : Nat) : Int)) (iI _) 1 (iI ((fr + i : Nat) : Int)) (zaI h 80 _) = _
    unfold kX12_orders_84
    simp (maxSteps := 1000000) (disch := (first | assumption | exact ne_b rfl | omega)) only [↓reduceIte, ↓zlet_eq, ↓bdR_sI, ↓bdR_sJ, ↓bdR_aI, zc2_some, Option.bind_some, ↓si_m1, ↓si_m2, ↓si_m3, iI_lit, iI_add, iI_sub, iI_mul, leT, leF, ltT, ltF, eqT, eqF, zinT, clI, Int.toNat_natCast, Int.reduceToNat, tN1, tNa, tN0, tNm, if_pos, if_neg, zI_sI, zI_sJ, zI_sR, zJ_sI, zJ_sJ, zJ_sR, zR_sI, zR_sJ, zR_sR, zK_sI, zK_sJ, zK_sR, zL_sI, zL_sJ, zL_sR, zI_aI, zJ_aI, zR_aI, zK_aI, zL_aI, z2_at, z2_a, z2_k, z1_self, z1_ne, true_and, and_true, bIt, bIf, Bool.false_eq_true, Bool.true_eq_false, eq_self, not_true_eq_false, not_false_eq_true, sK76, sK77, sK78, sK79, sK80, sK81, sK82, sK83, sK84, sK85, sK86, sK87, sK88, sK89, sK90, sK91, sK92, sK93, sK94, sK95, sK96, sK97, sK98, sK99, sK100, sL77, sL78, sL79, sL80, sL81, sL82, sL83, sL84, sL85, sL86, sL87, sL88, sL89, sL90, sL91, sL92, sL93, sL94, sL95, sL96, sL97, sL98, sL99, sL100, sR76_5, sR76_16, sR76_18, sR76_19, sR76_20, sR76_21, sR76_23, sR76_25, sR76_26, sR76_27, sR76_28, sR76_29, sR76_30, sR76_31, sR76_32, sR76_33, sR76_34, sR76_37, sR76_38, sR76_39, sR76_40, sR76_41, sR76_42, ↓sB76_5, ↓sB76_16, ↓sB76_18, ↓sB76_19, ↓sB76_20, ↓sB76_21, ↓sB76_23, ↓sB76_25, ↓sB76_26, ↓sB76_27, ↓sB76_28, ↓sB76_29, ↓sB76_30, ↓sB76_31, ↓sB76_32, ↓sB76_33, ↓sB76_34, ↓sB76_37, ↓sB76_38, ↓sB76_39, ↓sB76_40, ↓sB76_41, ↓sB76_42, zsI_aI]
    rw [rot_step (by omega) (by omega)]
    rfl
  · show bX12_orders_16 (zaI h 80 _) 76 _ (iI ((fr + cnt : Nat) : Int)) (zaI h 80 _) = _
    unfold bX12_orders_16
    simp (maxSteps := 1000000) (disch := (first | assumption | exact ne_b rfl | omega)) only [↓reduceIte, ↓zlet_eq, ↓bdR_sI, ↓bdR_sJ, ↓bdR_aI, zc2_some, Option.bind_some, ↓si_m1, ↓si_m2, ↓si_m3, iI_lit, iI_add, iI_sub, iI_mul, leT, leF, ltT, ltF, eqT, eqF, zinT, clI, Int.toNat_natCast, Int.reduceToNat, tN1, tNa, tN0, tNm, if_pos, if_neg, zI_sI, zI_sJ, zI_sR, zJ_sI, zJ_sJ, zJ_sR, zR_sI, zR_sJ, zR_sR, zK_sI, zK_sJ, zK_sR, zL_sI, zL_sJ, zL_sR, zI_aI, zJ_aI, zR_aI, zK_aI, zL_aI, z2_at, z2_a, z2_k, z1_self, z1_ne, true_and, and_true, bIt, bIf, Bool.false_eq_true, Bool.true_eq_false, eq_self, not_true_eq_false, not_false_eq_true, sK76, sK77, sK78, sK79, sK80, sK81, sK82, sK83, sK84, sK85, sK86, sK87, sK88, sK89, sK90, sK91, sK92, sK93, sK94, sK95, sK96, sK97, sK98, sK99, sK100, sL77, sL78, sL79, sL80, sL81, sL82, sL83, sL84, sL85, sL86, sL87, sL88, sL89, sL90, sL91, sL92, sL93, sL94, sL95, sL96, sL97, sL98, sL99, sL100, sR76_5, sR76_16, sR76_18, sR76_19, sR76_20, sR76_21, sR76_23, sR76_25, sR76_26, sR76_27, sR76_28, sR76_29, sR76_30, sR76_31, sR76_32, sR76_33, sR76_34, sR76_37, sR76_38, sR76_39, sR76_40, sR76_41, sR76_42, ↓sB76_5, ↓sB76_16, ↓sB76_18, ↓sB76_19, ↓sB76_20, ↓sB76_21, ↓sB76_23, ↓sB76_25, ↓sB76_26, ↓sB76_27, ↓sB76_28, ↓sB76_29, ↓sB76_30, ↓sB76_31, ↓sB76_32, ↓sB76_33, ↓sB76_34, ↓sB76_37, ↓sB76_38, ↓sB76_39, ↓sB76_40, ↓sB76_41, ↓sB76_42, ↓bd_of r3, q.fK, q.f0, q.f1, q.f2, q.f3, q.f4, q.f7, q.f8, q.f9]
theorem mrow_end {tr v : Nat} {t : Tk} {u : Nat → Nat} {B : Nat → Int32} {g h : Zh} (s : St h) (htr : 101 ≤ tr) (r3 : zR h 76 3 = some tr) (qg : zK g tr = 11) (q : Tr h tr t) (tok : Tok t) (hv : v < 2147483648) (hd : dst u (tsh t)) (hn : ∀ i, i < tsh t → u i < tn t) (e0 : Nat) (y0 y1 : Int32) : ∃ h', kX12_laysWords_148 g 76 (iI v) e0 y0 y1 (zaI h 80 (afill (tsh t) (fun j => iI (u j)) B)) = some (iI (rwT t u v), h') ∧ Fm [80] h h' := by
  obtain ⟨bn4, bn12, bu1, bu4, bnu, bk2, bk5, bkn, bp1, bp2, bpk, bH, bsp, bs1, bs4, bT1, bT16, bR1, bR2, bH1, bff, bff1⟩ := tok.b
  have hf := ff_k (tsh t) (by omega)
  have hf1 := hf.1
  have hf2 := hf.2.1
  have n80 : tr ≠ 80 := by omega
  have s1 : ∀ f, St (zaI h 80 f) := fun f => s.aI _ _
  have q1 : ∀ f, Tr (zaI h 80 f) tr t := fun f => q.fm (Fm_aI (S := [80]) _ _ (by simp)) (by simp; omega)
  have hrow : ∀ (w : Nat → Nat), dst w (tsh t) → (∀ i, i < tsh t → w i < tn t) → fX12_rowNumber 76 80 (iI 0) (zaI h 80 (afill (tsh t) (fun j => iI (w j)) B)) = some (iI (rowN (tn t) w (tsh t)), zaI h 80 (afill (tsh t) (fun j => iI (w j)) B)) := fun w h1 h2 => by
    have sw := s1 (afill (tsh t) (fun j => iI (w j)) B)
    exact fX12_rowNumber_eq (fr := 0) (L := 5) sw r3 (q1 _) tok (sK80 sw) (sL80 sw) (by decide) (by omega) (fun i hi => ⟨by rw [zI_aI, z1_self, Nat.zero_add, afill_lt hi], h2 i hi⟩) h1
  have hti : ∀ f, fX11_tilts tr (zaI h 80 f) = some (iI (tT t), zaI h 80 f) := fun f => fX11_tilts_eq (q1 f) tok
  have hdv : v / ff (tsh t) (tsh t) < 2147483648 := Nat.lt_of_le_of_lt (Nat.div_le_self _ _) hv
  have su := s1 (afill (tsh t) (fun j => iI (u j)) B)
  have qu := q1 (afill (tsh t) (fun j => iI (u j)) B)
  have h1o := fX12_isOneOrder_eq su r3 qu
  unfold kX12_laysWords_148 rwT
  cases e : anyO t
  · rw [e] at h1o
    have h3 := rowN_lt (tsh t) hd hn
    refine ⟨zaI h 80 (afill (tsh t) (fun j => iI (u j)) B), ?_, Fm_aI _ _ (by simp)⟩
    simp (maxSteps := 1000000) (disch := (first | assumption | exact ne_b rfl | omega)) only [↓reduceIte, ↓zlet_eq, ↓bdR_sI, ↓bdR_sJ, ↓bdR_aI, zc2_some, Option.bind_some, ↓si_m1, ↓si_m2, ↓si_m3, iI_lit, iI_add, iI_sub, iI_mul, leT, leF, ltT, ltF, eqT, eqF, zinT, clI, Int.toNat_natCast, Int.reduceToNat, tN1, tNa, tN0, tNm, if_pos, if_neg, zI_sI, zI_sJ, zI_sR, zJ_sI, zJ_sJ, zJ_sR, zR_sI, zR_sJ, zR_sR, zK_sI, zK_sJ, zK_sR, zL_sI, zL_sJ, zL_sR, zI_aI, zJ_aI, zR_aI, zK_aI, zL_aI, z2_at, z2_a, z2_k, z1_self, z1_ne, true_and, and_true, bIt, bIf, Bool.false_eq_true, Bool.true_eq_false, eq_self, not_true_eq_false, not_false_eq_true, sK76, sK77, sK78, sK79, sK80, sK81, sK82, sK83, sK84, sK85, sK86, sK87, sK88, sK89, sK90, sK91, sK92, sK93, sK94, sK95, sK96, sK97, sK98, sK99, sK100, sL77, sL78, sL79, sL80, sL81, sL82, sL83, sL84, sL85, sL86, sL87, sL88, sL89, sL90, sL91, sL92, sL93, sL94, sL95, sL96, sL97, sL98, sL99, sL100, sR76_5, sR76_16, sR76_18, sR76_19, sR76_20, sR76_21, sR76_23, sR76_25, sR76_26, sR76_27, sR76_28, sR76_29, sR76_30, sR76_31, sR76_32, sR76_33, sR76_34, sR76_37, sR76_38, sR76_39, sR76_40, sR76_41, sR76_42, ↓sB76_5, ↓sB76_16, ↓sB76_18, ↓sB76_19, ↓sB76_20, ↓sB76_21, ↓sB76_23, ↓sB76_25, ↓sB76_26, ↓sB76_27, ↓sB76_28, ↓sB76_29, ↓sB76_30, ↓sB76_31, ↓sB76_32, ↓sB76_33, ↓sB76_34, ↓sB76_37, ↓sB76_38, ↓sB76_39, ↓sB76_40, ↓sB76_41, ↓sB76_42, ↓zc_of h1o, ↓bd_of r3, qg, q.fK, q.f0, q.f1, q.f2, q.f3, q.f4, q.f7, q.f8, q.f9, hrow u hd hn, hti, si_remN, Bool.not_false]
    rw [← Int.natCast_mul, ← Int.natCast_add]
  · rw [e] at h1o
    have e0 := fX12_orders_eq (fr := 0) (num := v % ff (tsh t) (tsh t)) (u := u) (B := B) s htr r3 q tok (by omega) (by rw [Nat.sub_zero]; exact Nat.mod_lt _ hf1)
    rw [Nat.sub_zero] at e0
    obtain ⟨a1, a2⟩ := arA_ok (u := u) (fr := 0) (cnt := tsh t) (num := v % ff (tsh t) (tsh t)) (n := tn t) (by omega) (Nat.mod_lt _ hf1) (by simpa using hd) (by simpa using hn) (tsh t) (Nat.le_refl _)
    simp only [Nat.zero_add] at a1 a2
    have h3 := rowN_lt (tsh t) a1 a2
    have e4 := fX12_rowsOf_eq (n := ((tsh t : Nat) : Int)) (k := tsh t) ⟨by omega, by omega⟩ (by omega) (zaI h 80 (afill (tsh t) (fun j => iI (u j)) B))
    rw [hf.2.2] at e4
    have sw := s1 (afill (tsh t) (fun j => iI (arA u 0 (tsh t) (v % ff (tsh t) (tsh t)) (tsh t) j)) B)
    have hrm : zrem (iI v) (iI (ff (tsh t) (tsh t))) = iI ((v % ff (tsh t) (tsh t) : Nat) : Int) := si_remN hv hf1 (by omega)
    have hdd : iI v / iI (ff (tsh t) (tsh t)) = iI ((v / ff (tsh t) (tsh t) : Nat) : Int) := si_divN hv hf1 (by omega)
    have hr2 : zrem (iI ((v / ff (tsh t) (tsh t) : Nat) : Int)) (iI (tT t)) = iI ((v / ff (tsh t) (tsh t) % tT t : Nat) : Int) := si_remN hdv (by omega) (by omega)
    refine ⟨zaI h 80 (afill (tsh t) (fun j => iI (arA u 0 (tsh t) (v % ff (tsh t) (tsh t)) (tsh t) j)) B), ?_, Fm_aI _ _ (by simp)⟩
    have e0' : fX12_orders 76 (iI ((v % ff (tsh t) (tsh t) : Nat) : Int)) (iI 0) (zaI h 80 (afill (tsh t) (fun j => iI (u j)) B)) = some (zaI h 80 (afill (tsh t) (fun j => iI (arA u 0 (tsh t) (v % ff (tsh t) (tsh t)) (tsh t) j)) B)) := e0
    simp (maxSteps := 1000000) (disch := (first | assumption | exact ne_b rfl | omega)) only [↓reduceIte, ↓zlet_eq, ↓bdR_sI, ↓bdR_sJ, ↓bdR_aI, zc2_some, Option.bind_some, ↓si_m1, ↓si_m2, ↓si_m3, iI_lit, iI_add, iI_sub, iI_mul, leT, leF, ltT, ltF, eqT, eqF, zinT, clI, Int.toNat_natCast, Int.reduceToNat, tN1, tNa, tN0, tNm, if_pos, if_neg, zI_sI, zI_sJ, zI_sR, zJ_sI, zJ_sJ, zJ_sR, zR_sI, zR_sJ, zR_sR, zK_sI, zK_sJ, zK_sR, zL_sI, zL_sJ, zL_sR, zI_aI, zJ_aI, zR_aI, zK_aI, zL_aI, z2_at, z2_a, z2_k, z1_self, z1_ne, true_and, and_true, bIt, bIf, Bool.false_eq_true, Bool.true_eq_false, eq_self, not_true_eq_false, not_false_eq_true, sK76, sK77, sK78, sK79, sK80, sK81, sK82, sK83, sK84, sK85, sK86, sK87, sK88, sK89, sK90, sK91, sK92, sK93, sK94, sK95, sK96, sK97, sK98, sK99, sK100, sL77, sL78, sL79, sL80, sL81, sL82, sL83, sL84, sL85, sL86, sL87, sL88, sL89, sL90, sL91, sL92, sL93, sL94, sL95, sL96, sL97, sL98, sL99, sL100, sR76_5, sR76_16, sR76_18, sR76_19, sR76_20, sR76_21, sR76_23, sR76_25, sR76_26, sR76_27, sR76_28, sR76_29, sR76_30, sR76_31, sR76_32, sR76_33, sR76_34, sR76_37, sR76_38, sR76_39, sR76_40, sR76_41, sR76_42, ↓sB76_5, ↓sB76_16, ↓sB76_18, ↓sB76_19, ↓sB76_20, ↓sB76_21, ↓sB76_23, ↓sB76_25, ↓sB76_26, ↓sB76_27, ↓sB76_28, ↓sB76_29, ↓sB76_30, ↓sB76_31, ↓sB76_32, ↓sB76_33, ↓sB76_34, ↓sB76_37, ↓sB76_38, ↓sB76_39, ↓sB76_40, ↓sB76_41, ↓sB76_42, ↓zc_of h1o, ↓bd_of r3, qg, q.fK, q.f0, q.f1, q.f2, q.f3, q.f4, q.f7, q.f8, q.f9, e4, jI_int, hrm, hdd, hr2, e0', hrow _ a1 a2, hti, Bool.not_true]
    rw [← Int.natCast_mul, ← Int.natCast_add]
theorem fX12_laysWords_eq {tr x words : Nat} {t : Tk} {h : Zh} (s : St h) (htr : 101 ≤ tr) (r3 : zR h 76 3 = some tr) (q : Tr h tr t) (cd : Cd h t) (tok : Tok t) (hx : x < tH t) (hw : words < 20) : ∃ h', fX12_laysWords 76 (iI words) (iI x) h = some (iI (layW t x words), h') ∧ Fm [80, 81] h h' := by
  obtain ⟨bn4, bn12, bu1, bu4, bnu, bk2, bk5, bkn, bp1, bp2, bpk, bH, bsp, bs1, bs4, bT1, bT16, bR1, bR2, bH1, bff, bff1⟩ := tok.b
  have hv := hc_vld tok hx
  obtain ⟨c1, c2, c3⟩ := cS_ok tok hx
  obtain ⟨i1, i2, i3, i4, i5, i6⟩ := kA_in tok hx (words / 5)
  obtain ⟨d1, d2⟩ := shw_ok tok hx (words / 5)
  have hcn := kM_cnt tok hx (words / 5)
  have hkp := kpl_lt tok x (words / 5)
  have htv := tlv_lt tok hx words
  have n81 : tr ≠ 81 := by omega
  have n80 : tr ≠ 80 := by omega
  have fm1 : Fm [81] h (msH t x h) := Fm_aI _ _ (by simp)
  have s1 : St (msH t x h) := s.fm fm1
  have q1 : Tr (msH t x h) tr t := q.fm fm1 (by simp; omega)
  have cd1 : Cd (msH t x h) t := cd.fm fm1 (by simp) (by simp)
  have r31 : zR (msH t x h) 76 3 = some tr := r3
  have hr : ∀ j, j < tk t → zI (msH t x h) 81 j = iI (cS t x j) := fun j hj => by unfold msH; rw [zI_aI, z1_self, afill_lt hj]
  have e1 := fX12_keepsAt_eq (keep := words / 5) s1 r31 q1 tok hx (by omega) hr
  have hlo : kLo t x (words / 5) < tn t := by unfold kLo; omega
  have hhi : kHi t x (words / 5) < tn t := by unfold kHi; omega
  have hkl : kM t x (words / 5) < 4096 := Nat.or_lt_two_pow (n := 12) (Nat.pow_lt_pow_right (by decide) (by omega)) (Nat.pow_lt_pow_right (by decide) (by omega))
  have hblo : (kM t x (words / 5)).testBit (kLo t x (words / 5)) = true := by
    unfold kM kLo
    rw [or_pow_bit]
    rcases Nat.le_total (kA t x (words / 5)) (kB t x (words / 5)) with c | c
    · rw [Nat.min_eq_left c]; simp
    · rw [Nat.min_eq_right c]; simp
  have hbhi : (kM t x (words / 5)).testBit (kHi t x (words / 5)) = true := by
    unfold kM kHi
    rw [or_pow_bit]
    rcases Nat.le_total (kA t x (words / 5)) (kB t x (words / 5)) with c | c
    · rw [Nat.max_eq_right c]; simp
    · rw [Nat.max_eq_left c]; simp
  -- the cards that are shown, then the row
  have hshow : ∀ v : Nat, v < 2147483648 → ∃ h', jX12_laysWords_142 h 76 (iI x) (iI (kM t x (words / 5))) (iI v) (msH t x h) = some (iI (rwT t (shw t x (kM t x (words / 5))) v), h') ∧ Fm [80] (msH t x h) h' := by
    intro v hvl
    obtain ⟨h', r1, r2⟩ := mrow_end (v := v) (u := shw t x (kM t x (words / 5))) (B := zI (msH t x h) 80) (g := h) s1 htr r31 q.fK q1 tok hvl d1 d2 1 (iI (tsh t)) (iI (tk t))
    refine ⟨h', ?_, r2⟩
    unfold jX12_laysWords_142
    refine (lp_fb (st := fun i => ((iI (fcn (fun c => !(kM t x (words / 5)).testBit c) (hc t x) i), iI (i : Int), zaI (msH t x h) 80 (afill (fcn (fun c => !(kM t x (words / 5)).testBit c) (hc t x) i) (fun j => iI (fls (fun c => !(kM t x (words / 5)).testBit c) (hc t x) i j)) (zI (msH t x h) 80))) : Int32 × Int32 × Zh)) (e := 0) (s' := (iI (tsh t), iI (tk t), zaI (msH t x h) 80 (afill (tsh t) (fun j => iI (shw t x (kM t x (words / 5)) j)) (zI (msH t x h) 80)))) (tk t) (by rw [fcn, zaI_f0]; rfl) (by omega) ?_ ?_).trans r1
    · intro i hi
      show bX12_laysWords_148 h 76 (iI x) (iI (kM t x (words / 5))) _ (iI i) (zaI (msH t x h) 80 _) = _
      have fm2 : Fm [80] (msH t x h) (zaI (msH t x h) 80 (afill (fcn (fun c => !(kM t x (words / 5)).testBit c) (hc t x) i) (fun j => iI (fls (fun c => !(kM t x (words / 5)).testBit c) (hc t x) i j)) (zI (msH t x h) 80))) := Fm_aI _ _ (by simp)
      have s2 := s1.fm fm2
      have cd2 := cd1.fm fm2 (by simp) (by simp)
      have hcl := hv.1 i hi
      have hfl := fcn_le (fun c => !(kM t x (words / 5)).testBit c) (hc t x) i
      have hj : jX12_laysWords_187 h 76 (iI x) (iI (kM t x (words / 5))) (iI (fcn (fun c => !(kM t x (words / 5)).testBit c) (hc t x) i)) (iI i) (iI (hc t x i)) (zaI (msH t x h) 80 (afill (fcn (fun c => !(kM t x (words / 5)).testBit c) (hc t x) i) (fun j => iI (fls (fun c => !(kM t x (words / 5)).testBit c) (hc t x) i j)) (zI (msH t x h) 80))) = some (0, (iI (fcn (fun c => !(kM t x (words / 5)).testBit c) (hc t x) (i + 1)), iI ((i + 1 : Nat) : Int), zaI (msH t x h) 80 (afill (fcn (fun c => !(kM t x (words / 5)).testBit c) (hc t x) (i + 1)) (fun j => iI (fls (fun c => !(kM t x (words / 5)).testBit c) (hc t x) (i + 1) j)) (zI (msH t x h) 80)))) := by
        unfold jX12_laysWords_187
        cases e : (kM t x (words / 5)).testBit (hc t x i)
        · have hp : (fun c => !(kM t x (words / 5)).testBit c) (hc t x i) = true := by simp [e]
          simp (maxSteps := 1000000) (disch := (first | assumption | exact ne_b rfl | omega)) only [↓reduceIte, ↓zlet_eq, ↓bdR_sI, ↓bdR_sJ, ↓bdR_aI, zc2_some, Option.bind_some, ↓si_m1, ↓si_m2, ↓si_m3, iI_lit, iI_add, iI_sub, iI_mul, leT, leF, ltT, ltF, eqT, eqF, zinT, clI, Int.toNat_natCast, Int.reduceToNat, tN1, tNa, tN0, tNm, if_pos, if_neg, zI_sI, zI_sJ, zI_sR, zJ_sI, zJ_sJ, zJ_sR, zR_sI, zR_sJ, zR_sR, zK_sI, zK_sJ, zK_sR, zL_sI, zL_sJ, zL_sR, zI_aI, zJ_aI, zR_aI, zK_aI, zL_aI, z2_at, z2_a, z2_k, z1_self, z1_ne, true_and, and_true, bIt, bIf, Bool.false_eq_true, Bool.true_eq_false, eq_self, not_true_eq_false, not_false_eq_true, sK76, sK77, sK78, sK79, sK80, sK81, sK82, sK83, sK84, sK85, sK86, sK87, sK88, sK89, sK90, sK91, sK92, sK93, sK94, sK95, sK96, sK97, sK98, sK99, sK100, sL77, sL78, sL79, sL80, sL81, sL82, sL83, sL84, sL85, sL86, sL87, sL88, sL89, sL90, sL91, sL92, sL93, sL94, sL95, sL96, sL97, sL98, sL99, sL100, sR76_5, sR76_16, sR76_18, sR76_19, sR76_20, sR76_21, sR76_23, sR76_25, sR76_26, sR76_27, sR76_28, sR76_29, sR76_30, sR76_31, sR76_32, sR76_33, sR76_34, sR76_37, sR76_38, sR76_39, sR76_40, sR76_41, sR76_42, ↓sB76_5, ↓sB76_16, ↓sB76_18, ↓sB76_19, ↓sB76_20, ↓sB76_21, ↓sB76_23, ↓sB76_25, ↓sB76_26, ↓sB76_27, ↓sB76_28, ↓sB76_29, ↓sB76_30, ↓sB76_31, ↓sB76_32, ↓sB76_33, ↓sB76_34, ↓sB76_37, ↓sB76_38, ↓sB76_39, ↓sB76_40, ↓sB76_41, ↓sB76_42, ↓si_bit1, e, zsI_aI]
          rw [fls_step (P := fun c => !(kM t x (words / 5)).testBit c) hp]
          have e2 : fcn (fun c => !(kM t x (words / 5)).testBit c) (hc t x) (i + 1) = fcn (fun c => !(kM t x (words / 5)).testBit c) (hc t x) i + 1 := by rw [fcn, if_pos hp]
          rw [e2]
          rfl
        · have hp : (fun c => !(kM t x (words / 5)).testBit c) (hc t x i) = false := by simp [e]
          obtain ⟨f1, f2⟩ := fls_skip (P := fun c => !(kM t x (words / 5)).testBit c) hp
          simp (maxSteps := 1000000) (disch := (first | assumption | exact ne_b rfl | omega)) only [↓reduceIte, ↓zlet_eq, ↓bdR_sI, ↓bdR_sJ, ↓bdR_aI, zc2_some, Option.bind_some, ↓si_m1, ↓si_m2, ↓si_m3, iI_lit, iI_add, iI_sub, iI_mul, leT, leF, ltT, ltF, eqT, eqF, zinT, clI, Int.toNat_natCast, Int.reduceToNat, tN1, tNa, tN0, tNm, if_pos, if_neg, zI_sI, zI_sJ, zI_sR, zJ_sI, zJ_sJ, zJ_sR, zR_sI, zR_sJ, zR_sR, zK_sI, zK_sJ, zK_sR, zL_sI, zL_sJ, zL_sR, zI_aI, zJ_aI, zR_aI, zK_aI, zL_aI, z2_at, z2_a, z2_k, z1_self, z1_ne, true_and, and_true, bIt, bIf, Bool.false_eq_true, Bool.true_eq_false, eq_self, not_true_eq_false, not_false_eq_true, sK76, sK77, sK78, sK79, sK80, sK81, sK82, sK83, sK84, sK85, sK86, sK87, sK88, sK89, sK90, sK91, sK92, sK93, sK94, sK95, sK96, sK97, sK98, sK99, sK100, sL77, sL78, sL79, sL80, sL81, sL82, sL83, sL84, sL85, sL86, sL87, sL88, sL89, sL90, sL91, sL92, sL93, sL94, sL95, sL96, sL97, sL98, sL99, sL100, sR76_5, sR76_16, sR76_18, sR76_19, sR76_20, sR76_21, sR76_23, sR76_25, sR76_26, sR76_27, sR76_28, sR76_29, sR76_30, sR76_31, sR76_32, sR76_33, sR76_34, sR76_37, sR76_38, sR76_39, sR76_40, sR76_41, sR76_42, ↓sB76_5, ↓sB76_16, ↓sB76_18, ↓sB76_19, ↓sB76_20, ↓sB76_21, ↓sB76_23, ↓sB76_25, ↓sB76_26, ↓sB76_27, ↓sB76_28, ↓sB76_29, ↓sB76_30, ↓sB76_31, ↓sB76_32, ↓sB76_33, ↓sB76_34, ↓sB76_37, ↓sB76_38, ↓sB76_39, ↓sB76_40, ↓sB76_41, ↓sB76_42, ↓si_bit1, e]
          rw [f1, f2]
          rfl
      unfold bX12_laysWords_148
      cases est : tst t
      · have hcs : zI (msH t x h) 81 i = iI (hc t x i) := by rw [hr i hi, cS_she tok hx est i hi]
        simp (maxSteps := 1000000) (disch := (first | assumption | exact ne_b rfl | omega)) only [↓reduceIte, ↓zlet_eq, ↓bdR_sI, ↓bdR_sJ, ↓bdR_aI, zc2_some, Option.bind_some, ↓si_m1, ↓si_m2, ↓si_m3, iI_lit, iI_add, iI_sub, iI_mul, leT, leF, ltT, ltF, eqT, eqF, zinT, clI, Int.toNat_natCast, Int.reduceToNat, tN1, tNa, tN0, tNm, if_pos, if_neg, zI_sI, zI_sJ, zI_sR, zJ_sI, zJ_sJ, zJ_sR, zR_sI, zR_sJ, zR_sR, zK_sI, zK_sJ, zK_sR, zL_sI, zL_sJ, zL_sR, zI_aI, zJ_aI, zR_aI, zK_aI, zL_aI, z2_at, z2_a, z2_k, z1_self, z1_ne, true_and, and_true, bIt, bIf, Bool.false_eq_true, Bool.true_eq_false, eq_self, not_true_eq_false, not_false_eq_true, sK76, sK77, sK78, sK79, sK80, sK81, sK82, sK83, sK84, sK85, sK86, sK87, sK88, sK89, sK90, sK91, sK92, sK93, sK94, sK95, sK96, sK97, sK98, sK99, sK100, sL77, sL78, sL79, sL80, sL81, sL82, sL83, sL84, sL85, sL86, sL87, sL88, sL89, sL90, sL91, sL92, sL93, sL94, sL95, sL96, sL97, sL98, sL99, sL100, sR76_5, sR76_16, sR76_18, sR76_19, sR76_20, sR76_21, sR76_23, sR76_25, sR76_26, sR76_27, sR76_28, sR76_29, sR76_30, sR76_31, sR76_32, sR76_33, sR76_34, sR76_37, sR76_38, sR76_39, sR76_40, sR76_41, sR76_42, ↓sB76_5, ↓sB76_16, ↓sB76_18, ↓sB76_19, ↓sB76_20, ↓sB76_21, ↓sB76_23, ↓sB76_25, ↓sB76_26, ↓sB76_27, ↓sB76_28, ↓sB76_29, ↓sB76_30, ↓sB76_31, ↓sB76_32, ↓sB76_33, ↓sB76_34, ↓sB76_37, ↓sB76_38, ↓sB76_39, ↓sB76_40, ↓sB76_41, ↓sB76_42, ↓bd_of r31, q.fK, q1.fK, q1.f0, q1.f1, q1.f2, q1.f3, q1.f4, q1.f7, q1.f8, q1.f9, est, hcs, hj]
      · simp (maxSteps := 1000000) (disch := (first | assumption | exact ne_b rfl | omega)) only [↓reduceIte, ↓zlet_eq, ↓bdR_sI, ↓bdR_sJ, ↓bdR_aI, zc2_some, Option.bind_some, ↓si_m1, ↓si_m2, ↓si_m3, iI_lit, iI_add, iI_sub, iI_mul, leT, leF, ltT, ltF, eqT, eqF, zinT, clI, Int.toNat_natCast, Int.reduceToNat, tN1, tNa, tN0, tNm, if_pos, if_neg, zI_sI, zI_sJ, zI_sR, zJ_sI, zJ_sJ, zJ_sR, zR_sI, zR_sJ, zR_sR, zK_sI, zK_sJ, zK_sR, zL_sI, zL_sJ, zL_sR, zI_aI, zJ_aI, zR_aI, zK_aI, zL_aI, z2_at, z2_a, z2_k, z1_self, z1_ne, true_and, and_true, bIt, bIf, Bool.false_eq_true, Bool.true_eq_false, eq_self, not_true_eq_false, not_false_eq_true, sK76, sK77, sK78, sK79, sK80, sK81, sK82, sK83, sK84, sK85, sK86, sK87, sK88, sK89, sK90, sK91, sK92, sK93, sK94, sK95, sK96, sK97, sK98, sK99, sK100, sL77, sL78, sL79, sL80, sL81, sL82, sL83, sL84, sL85, sL86, sL87, sL88, sL89, sL90, sL91, sL92, sL93, sL94, sL95, sL96, sL97, sL98, sL99, sL100, sR76_5, sR76_16, sR76_18, sR76_19, sR76_20, sR76_21, sR76_23, sR76_25, sR76_26, sR76_27, sR76_28, sR76_29, sR76_30, sR76_31, sR76_32, sR76_33, sR76_34, sR76_37, sR76_38, sR76_39, sR76_40, sR76_41, sR76_42, ↓sB76_5, ↓sB76_16, ↓sB76_18, ↓sB76_19, ↓sB76_20, ↓sB76_21, ↓sB76_23, ↓sB76_25, ↓sB76_26, ↓sB76_27, ↓sB76_28, ↓sB76_29, ↓sB76_30, ↓sB76_31, ↓sB76_32, ↓sB76_33, ↓sB76_34, ↓sB76_37, ↓sB76_38, ↓sB76_39, ↓sB76_40, ↓sB76_41, ↓sB76_42, ↓bd_of r31, q.fK, q1.fK, q1.f0, q1.f1, q1.f2, q1.f3, q1.f4, q1.f7, q1.f8, q1.f9, est, ↓zc_of (fX12_cardOf_eq s2 cd2 tok hx hi), hj]
    · show bX12_laysWords_148 h 76 (iI x) _ _ (iI (tk t)) (zaI (msH t x h) 80 _) = _
      unfold bX12_laysWords_148
      rw [hcn]
      simp (maxSteps := 1000000) (disch := (first | assumption | exact ne_b rfl | omega)) only [↓reduceIte, ↓zlet_eq, ↓bdR_sI, ↓bdR_sJ, ↓bdR_aI, zc2_some, Option.bind_some, ↓si_m1, ↓si_m2, ↓si_m3, iI_lit, iI_add, iI_sub, iI_mul, leT, leF, ltT, ltF, eqT, eqF, zinT, clI, Int.toNat_natCast, Int.reduceToNat, tN1, tNa, tN0, tNm, if_pos, if_neg, zI_sI, zI_sJ, zI_sR, zJ_sI, zJ_sJ, zJ_sR, zR_sI, zR_sJ, zR_sR, zK_sI, zK_sJ, zK_sR, zL_sI, zL_sJ, zL_sR, zI_aI, zJ_aI, zR_aI, zK_aI, zL_aI, z2_at, z2_a, z2_k, z1_self, z1_ne, true_and, and_true, bIt, bIf, Bool.false_eq_true, Bool.true_eq_false, eq_self, not_true_eq_false, not_false_eq_true, sK76, sK77, sK78, sK79, sK80, sK81, sK82, sK83, sK84, sK85, sK86, sK87, sK88, sK89, sK90, sK91, sK92, sK93, sK94, sK95, sK96, sK97, sK98, sK99, sK100, sL77, sL78, sL79, sL80, sL81, sL82, sL83, sL84, sL85, sL86, sL87, sL88, sL89, sL90, sL91, sL92, sL93, sL94, sL95, sL96, sL97, sL98, sL99, sL100, sR76_5, sR76_16, sR76_18, sR76_19, sR76_20, sR76_21, sR76_23, sR76_25, sR76_26, sR76_27, sR76_28, sR76_29, sR76_30, sR76_31, sR76_32, sR76_33, sR76_34, sR76_37, sR76_38, sR76_39, sR76_40, sR76_41, sR76_42, ↓sB76_5, ↓sB76_16, ↓sB76_18, ↓sB76_19, ↓sB76_20, ↓sB76_21, ↓sB76_23, ↓sB76_25, ↓sB76_26, ↓sB76_27, ↓sB76_28, ↓sB76_29, ↓sB76_30, ↓sB76_31, ↓sB76_32, ↓sB76_33, ↓sB76_34, ↓sB76_37, ↓sB76_38, ↓sB76_39, ↓sB76_40, ↓sB76_41, ↓sB76_42, ↓bd_of r31, q.fK, q1.fK, q1.f0, q1.f1, q1.f2, q1.f3, q1.f4, q1.f7, q1.f8, q1.f9]
      rfl
  obtain ⟨h', r1, r2⟩ := hshow (tlv t x words) (by omega)
  refine ⟨h', ?_, (fm1.mono (by simp)).tr (r2.mono (by simp))⟩
  have hm5 : words % 5 < 5 := Nat.mod_lt _ (by decide)
  have hrem : zrem (iI (words : Int)) (iI 5) = iI ((words % 5 : Nat) : Int) := si_remN (by omega) (by decide) (by decide)
  have hdiv : iI (words : Int) / iI 5 = iI ((words / 5 : Nat) : Int) := si_divN (by omega) (by decide) (by decide)
  have tl1 := fX12_tells_eq (keep := words / 5) (tl := words % 5) s1 r31 q1 cd1 tok hx hm5 hlo hblo hkl
  have tl2 := fX12_tells_eq (keep := words / 5) (tl := words % 5) s1 r31 q1 cd1 tok hx hm5 hhi hbhi hkl
  -- behind the two that are kept
  have key : jX12_laysWords_57 h 76 (iI words) (iI x) (iI (kA t x (words / 5))) (iI (kB t x (words / 5))) (msH t x h) = some (iI (layW t x words), h') := by
    have hk84 : jX12_laysWords_84 h 76 (iI words) (iI x) (iI (kA t x (words / 5))) (iI (kB t x (words / 5))) (iI (kM t x (words / 5))) (iI (kLo t x (words / 5))) (msH t x h) = some (iI (layW t x words), h') := by
      have hsum : (kA t x (words / 5) : Int) + (kB t x (words / 5) : Int) - (kLo t x (words / 5) : Int) = (kHi t x (words / 5) : Nat) := by unfold kLo kHi; omega
      unfold jX12_laysWords_84
      clear i3 i4
      by_cases c : tp t = 2
      · have htl : tlv t x words = tel t (opn t x (kM t x (words / 5))) (kSm t x (words / 5)) (words % 5) (kLo t x (words / 5)) * tn t + tel t (opn t x (kM t x (words / 5))) (kSm t x (words / 5)) (words % 5) (kHi t x (words / 5)) := by unfold tlv; rw [if_neg (by omega)]
        have r1' : jX12_laysWords_142 h 76 (iI x) (iI (kM t x (words / 5))) (iI ((tel t (opn t x (kM t x (words / 5))) (kSm t x (words / 5)) (words % 5) (kLo t x (words / 5)) : Int) * (tn t : Int) + (tel t (opn t x (kM t x (words / 5))) (kSm t x (words / 5)) (words % 5) (kHi t x (words / 5)) : Int))) (msH t x h) = some (iI (layW t x words), h') := by
          rw [← Int.natCast_mul, ← Int.natCast_add, ← htl]
          exact r1
        simp (maxSteps := 1000000) (disch := (first | assumption | exact ne_b rfl | omega)) only [↓reduceIte, ↓zlet_eq, ↓bdR_sI, ↓bdR_sJ, ↓bdR_aI, zc2_some, Option.bind_some, ↓si_m1, ↓si_m2, ↓si_m3, iI_lit, iI_add, iI_sub, iI_mul, leT, leF, ltT, ltF, eqT, eqF, zinT, clI, Int.toNat_natCast, Int.reduceToNat, tN1, tNa, tN0, tNm, if_pos, if_neg, zI_sI, zI_sJ, zI_sR, zJ_sI, zJ_sJ, zJ_sR, zR_sI, zR_sJ, zR_sR, zK_sI, zK_sJ, zK_sR, zL_sI, zL_sJ, zL_sR, zI_aI, zJ_aI, zR_aI, zK_aI, zL_aI, z2_at, z2_a, z2_k, z1_self, z1_ne, true_and, and_true, bIt, bIf, Bool.false_eq_true, Bool.true_eq_false, eq_self, not_true_eq_false, not_false_eq_true, sK76, sK77, sK78, sK79, sK80, sK81, sK82, sK83, sK84, sK85, sK86, sK87, sK88, sK89, sK90, sK91, sK92, sK93, sK94, sK95, sK96, sK97, sK98, sK99, sK100, sL77, sL78, sL79, sL80, sL81, sL82, sL83, sL84, sL85, sL86, sL87, sL88, sL89, sL90, sL91, sL92, sL93, sL94, sL95, sL96, sL97, sL98, sL99, sL100, sR76_5, sR76_16, sR76_18, sR76_19, sR76_20, sR76_21, sR76_23, sR76_25, sR76_26, sR76_27, sR76_28, sR76_29, sR76_30, sR76_31, sR76_32, sR76_33, sR76_34, sR76_37, sR76_38, sR76_39, sR76_40, sR76_41, sR76_42, ↓sB76_5, ↓sB76_16, ↓sB76_18, ↓sB76_19, ↓sB76_20, ↓sB76_21, ↓sB76_23, ↓sB76_25, ↓sB76_26, ↓sB76_27, ↓sB76_28, ↓sB76_29, ↓sB76_30, ↓sB76_31, ↓sB76_32, ↓sB76_33, ↓sB76_34, ↓sB76_37, ↓sB76_38, ↓sB76_39, ↓sB76_40, ↓sB76_41, ↓sB76_42, ↓bd_of r31, q.fK, q1.fK, q1.f0, q1.f1, q1.f2, q1.f3, q1.f4, q1.f7, q1.f8, q1.f9, hrem, tl1, tl2, hsum, r1']
      · have htl : tlv t x words = tel t (opn t x (kM t x (words / 5))) (kSm t x (words / 5)) (words % 5) (kLo t x (words / 5)) := by unfold tlv; rw [if_pos (by omega)]
        rw [htl] at r1
        simp (maxSteps := 1000000) (disch := (first | assumption | exact ne_b rfl | omega)) only [↓reduceIte, ↓zlet_eq, ↓bdR_sI, ↓bdR_sJ, ↓bdR_aI, zc2_some, Option.bind_some, ↓si_m1, ↓si_m2, ↓si_m3, iI_lit, iI_add, iI_sub, iI_mul, leT, leF, ltT, ltF, eqT, eqF, zinT, clI, Int.toNat_natCast, Int.reduceToNat, tN1, tNa, tN0, tNm, if_pos, if_neg, zI_sI, zI_sJ, zI_sR, zJ_sI, zJ_sJ, zJ_sR, zR_sI, zR_sJ, zR_sR, zK_sI, zK_sJ, zK_sR, zL_sI, zL_sJ, zL_sR, zI_aI, zJ_aI, zR_aI, zK_aI, zL_aI, z2_at, z2_a, z2_k, z1_self, z1_ne, true_and, and_true, bIt, bIf, Bool.false_eq_true, Bool.true_eq_false, eq_self, not_true_eq_false, not_false_eq_true, sK76, sK77, sK78, sK79, sK80, sK81, sK82, sK83, sK84, sK85, sK86, sK87, sK88, sK89, sK90, sK91, sK92, sK93, sK94, sK95, sK96, sK97, sK98, sK99, sK100, sL77, sL78, sL79, sL80, sL81, sL82, sL83, sL84, sL85, sL86, sL87, sL88, sL89, sL90, sL91, sL92, sL93, sL94, sL95, sL96, sL97, sL98, sL99, sL100, sR76_5, sR76_16, sR76_18, sR76_19, sR76_20, sR76_21, sR76_23, sR76_25, sR76_26, sR76_27, sR76_28, sR76_29, sR76_30, sR76_31, sR76_32, sR76_33, sR76_34, sR76_37, sR76_38, sR76_39, sR76_40, sR76_41, sR76_42, ↓sB76_5, ↓sB76_16, ↓sB76_18, ↓sB76_19, ↓sB76_20, ↓sB76_21, ↓sB76_23, ↓sB76_25, ↓sB76_26, ↓sB76_27, ↓sB76_28, ↓sB76_29, ↓sB76_30, ↓sB76_31, ↓sB76_32, ↓sB76_33, ↓sB76_34, ↓sB76_37, ↓sB76_38, ↓sB76_39, ↓sB76_40, ↓sB76_41, ↓sB76_42, ↓bd_of r31, q.fK, q1.fK, q1.f0, q1.f1, q1.f2, q1.f3, q1.f4, q1.f7, q1.f8, q1.f9, hrem, tl1, r1]
        unfold layW
        rw [htl]
    have hkm : iI ((2 ^ kA t x (words / 5) ||| 2 ^ kB t x (words / 5) : Nat) : Int) = iI (kM t x (words / 5)) := rfl
    unfold jX12_laysWords_57
    by_cases c : kB t x (words / 5) ≤ kA t x (words / 5)
    · have hl : kLo t x (words / 5) = kB t x (words / 5) := by unfold kLo; omega
      rw [hl] at hk84
      simp (maxSteps := 1000000) (disch := (first | assumption | exact ne_b rfl | omega)) only [↓reduceIte, ↓zlet_eq, ↓bdR_sI, ↓bdR_sJ, ↓bdR_aI, zc2_some, Option.bind_some, ↓si_m1, ↓si_m2, ↓si_m3, iI_lit, iI_add, iI_sub, iI_mul, leT, leF, ltT, ltF, eqT, eqF, zinT, clI, Int.toNat_natCast, Int.reduceToNat, tN1, tNa, tN0, tNm, if_pos, if_neg, zI_sI, zI_sJ, zI_sR, zJ_sI, zJ_sJ, zJ_sR, zR_sI, zR_sJ, zR_sR, zK_sI, zK_sJ, zK_sR, zL_sI, zL_sJ, zL_sR, zI_aI, zJ_aI, zR_aI, zK_aI, zL_aI, z2_at, z2_a, z2_k, z1_self, z1_ne, true_and, and_true, bIt, bIf, Bool.false_eq_true, Bool.true_eq_false, eq_self, not_true_eq_false, not_false_eq_true, si_one, iI_or, hkm, hk84]
    · have hl : kLo t x (words / 5) = kA t x (words / 5) := by unfold kLo; omega
      rw [hl] at hk84
      simp (maxSteps := 1000000) (disch := (first | assumption | exact ne_b rfl | omega)) only [↓reduceIte, ↓zlet_eq, ↓bdR_sI, ↓bdR_sJ, ↓bdR_aI, zc2_some, Option.bind_some, ↓si_m1, ↓si_m2, ↓si_m3, iI_lit, iI_add, iI_sub, iI_mul, leT, leF, ltT, ltF, eqT, eqF, zinT, clI, Int.toNat_natCast, Int.reduceToNat, tN1, tNa, tN0, tNm, if_pos, if_neg, zI_sI, zI_sJ, zI_sR, zJ_sI, zJ_sJ, zJ_sR, zR_sI, zR_sJ, zR_sR, zK_sI, zK_sJ, zK_sR, zL_sI, zL_sJ, zL_sR, zI_aI, zJ_aI, zR_aI, zK_aI, zL_aI, z2_at, z2_a, z2_k, z1_self, z1_ne, true_and, and_true, bIt, bIf, Bool.false_eq_true, Bool.true_eq_false, eq_self, not_true_eq_false, not_false_eq_true, si_one, iI_or, hkm, hk84]
  have b1 : zI (msH t x h) 81 (kpl t x (words / 5)) = iI (kA t x (words / 5)) := hr _ hkp
  have hp2 : (kpl t x (words / 5) + 1) % tk t < tk t := Nat.mod_lt _ (by omega)
  have hrem2 : zrem (iI ((kpl t x (words / 5) : Int) + 1)) (iI (tk t)) = iI (((kpl t x (words / 5) + 1) % tk t : Nat) : Int) := si_remN (a := kpl t x (words / 5) + 1) (by omega) (by omega) (by omega)
  unfold fX12_laysWords
  by_cases c : tp t = 2
  · have hB : kB t x (words / 5) = cS t x ((kpl t x (words / 5) + 1) % tk t) := by unfold kB; rw [if_pos c]
    have b2 := hr _ hp2
    rw [← hB] at b2
    generalize (kpl t x (words / 5) + 1) % tk t = y at hp2 hrem2 b2
    simp (maxSteps := 1000000) (disch := (first | assumption | exact ne_b rfl | omega)) only [↓reduceIte, ↓zlet_eq, ↓bdR_sI, ↓bdR_sJ, ↓bdR_aI, zc2_some, Option.bind_some, ↓si_m1, ↓si_m2, ↓si_m3, iI_lit, iI_add, iI_sub, iI_mul, leT, leF, ltT, ltF, eqT, eqF, zinT, clI, Int.toNat_natCast, Int.reduceToNat, tN1, tNa, tN0, tNm, if_pos, if_neg, zI_sI, zI_sJ, zI_sR, zJ_sI, zJ_sJ, zJ_sR, zR_sI, zR_sJ, zR_sR, zK_sI, zK_sJ, zK_sR, zL_sI, zL_sJ, zL_sR, zI_aI, zJ_aI, zR_aI, zK_aI, zL_aI, z2_at, z2_a, z2_k, z1_self, z1_ne, true_and, and_true, bIt, bIf, Bool.false_eq_true, Bool.true_eq_false, eq_self, not_true_eq_false, not_false_eq_true, sK76, sK77, sK78, sK79, sK80, sK81, sK82, sK83, sK84, sK85, sK86, sK87, sK88, sK89, sK90, sK91, sK92, sK93, sK94, sK95, sK96, sK97, sK98, sK99, sK100, sL77, sL78, sL79, sL80, sL81, sL82, sL83, sL84, sL85, sL86, sL87, sL88, sL89, sL90, sL91, sL92, sL93, sL94, sL95, sL96, sL97, sL98, sL99, sL100, sR76_5, sR76_16, sR76_18, sR76_19, sR76_20, sR76_21, sR76_23, sR76_25, sR76_26, sR76_27, sR76_28, sR76_29, sR76_30, sR76_31, sR76_32, sR76_33, sR76_34, sR76_37, sR76_38, sR76_39, sR76_40, sR76_41, sR76_42, ↓sB76_5, ↓sB76_16, ↓sB76_18, ↓sB76_19, ↓sB76_20, ↓sB76_21, ↓sB76_23, ↓sB76_25, ↓sB76_26, ↓sB76_27, ↓sB76_28, ↓sB76_29, ↓sB76_30, ↓sB76_31, ↓sB76_32, ↓sB76_33, ↓sB76_34, ↓sB76_37, ↓sB76_38, ↓sB76_39, ↓sB76_40, ↓sB76_41, ↓sB76_42, ↓bd_of (fX12_sorts_eq s htr r3 q cd tok hx), hdiv, e1, ↓bd_of r31, q.fK, q1.fK, q1.f0, q1.f1, q1.f2, q1.f3, q1.f4, q1.f7, q1.f8, q1.f9, hrem2, b1, b2, key]
  · have hAB : kA t x (words / 5) = kB t x (words / 5) := i4 (by omega)
    rw [← hAB] at key
    generalize (kpl t x (words / 5) + 1) % tk t = y at hp2 hrem2
    simp (maxSteps := 1000000) (disch := (first | assumption | exact ne_b rfl | omega)) only [↓reduceIte, ↓zlet_eq, ↓bdR_sI, ↓bdR_sJ, ↓bdR_aI, zc2_some, Option.bind_some, ↓si_m1, ↓si_m2, ↓si_m3, iI_lit, iI_add, iI_sub, iI_mul, leT, leF, ltT, ltF, eqT, eqF, zinT, clI, Int.toNat_natCast, Int.reduceToNat, tN1, tNa, tN0, tNm, if_pos, if_neg, zI_sI, zI_sJ, zI_sR, zJ_sI, zJ_sJ, zJ_sR, zR_sI, zR_sJ, zR_sR, zK_sI, zK_sJ, zK_sR, zL_sI, zL_sJ, zL_sR, zI_aI, zJ_aI, zR_aI, zK_aI, zL_aI, z2_at, z2_a, z2_k, z1_self, z1_ne, true_and, and_true, bIt, bIf, Bool.false_eq_true, Bool.true_eq_false, eq_self, not_true_eq_false, not_false_eq_true, sK76, sK77, sK78, sK79, sK80, sK81, sK82, sK83, sK84, sK85, sK86, sK87, sK88, sK89, sK90, sK91, sK92, sK93, sK94, sK95, sK96, sK97, sK98, sK99, sK100, sL77, sL78, sL79, sL80, sL81, sL82, sL83, sL84, sL85, sL86, sL87, sL88, sL89, sL90, sL91, sL92, sL93, sL94, sL95, sL96, sL97, sL98, sL99, sL100, sR76_5, sR76_16, sR76_18, sR76_19, sR76_20, sR76_21, sR76_23, sR76_25, sR76_26, sR76_27, sR76_28, sR76_29, sR76_30, sR76_31, sR76_32, sR76_33, sR76_34, sR76_37, sR76_38, sR76_39, sR76_40, sR76_41, sR76_42, ↓sB76_5, ↓sB76_16, ↓sB76_18, ↓sB76_19, ↓sB76_20, ↓sB76_21, ↓sB76_23, ↓sB76_25, ↓sB76_26, ↓sB76_27, ↓sB76_28, ↓sB76_29, ↓sB76_30, ↓sB76_31, ↓sB76_32, ↓sB76_33, ↓sB76_34, ↓sB76_37, ↓sB76_38, ↓sB76_39, ↓sB76_40, ↓sB76_41, ↓sB76_42, ↓bd_of (fX12_sorts_eq s htr r3 q cd tok hx), hdiv, e1, ↓bd_of r31, q.fK, q1.fK, q1.f0, q1.f1, q1.f2, q1.f3, q1.f4, q1.f7, q1.f8, q1.f9, hrem2, b1, key]
