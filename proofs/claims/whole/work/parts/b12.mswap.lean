/-! the model: rows that become others -/
theorem mw_bits : ∀ a : Nat, a < 16 → ∀ i : Nat, i < 3 → (((iI a >>> (iI i &&& 31)) &&& iI 1 = (iI a >>> (iI ((i + 1 : Nat) : Int) &&& 31)) &&& iI 1) ↔ a.testBit i = a.testBit (i + 1)) ∧ iI a ^^^ (iI 3 <<< (iI i &&& 31)) = iI ((a ^^^ (3 * 2 ^ i) : Nat) : Int) := by decide +kernel
theorem fX12_becomes_eq {h : Zh} {t : Tk} {tr r i : Nat} (tok : Tok t) (s : St h) (htr : 101 ≤ tr) (r3 : zR h 76 3 = some tr) (qt : Tr h tr t) (hi : i + 1 < tsh t) (hr : r < 2147483648) : ∃ h', fX12_becomes 76 (iI r) (iI i) h = some (iI (swR t r i), h') ∧ Fm [81, 85] h h' := by
  obtain ⟨bn4, bn12, bu1, bu4, bnu, bk2, bk5, bkn, bp1, bp2, bpk, bH, bsp, bs1, bs4, bT1, bT16, bR1, bR2, bH1, bff, bff1⟩ := tok.b
  obtain ⟨u1, u2⟩ := unp_ok (n := tn t) (sh := tsh t) (q := r / tT t) (by omega)
  have hm := Nat.mod_lt r (show tT t > 0 by omega)
  have e1 := fX12_rowCards_eq (r2 := 85) s htr r3 qt tok (sK85 s) (sL85 s) (by decide) (by decide) hr
  have f1 := rcH_fm t r 85 h
  have s1 := s.fm f1
  have w1 := rcH_at (t := t) (q := r) (r2 := 85) (j := i) (h := h) (by omega)
  have w2 := rcH_at (t := t) (q := r) (r2 := 85) (j := i + 1) (h := h) hi
  have wj : ∀ j, j < tsh t → zI (rcH t r 85 h) 85 j = iI (unp (tn t) (tsh t) (r / tT t) j) := fun j hj => rcH_at hj
  generalize rcH t r 85 h = h1 at *
  have n1 : i ≠ i + 1 := by omega
  have n2 : i + 1 ≠ i := by omega
  have ei : (i : Int) + 1 = ((i + 1 : Nat) : Int) := by omega
  have f2 : Fm [81, 85] h1 (zsI (zsI h1 85 i (iI (unp (tn t) (tsh t) (r / tT t) (i + 1)))) 85 (i + 1) (iI (unp (tn t) (tsh t) (r / tT t) i))) := (Fm_sI _ _ _ (by simp)).tr (Fm_sI _ _ _ (by simp))
  have w3 : ∀ j, j < tsh t → zI (zsI (zsI h1 85 i (iI (unp (tn t) (tsh t) (r / tT t) (i + 1)))) 85 (i + 1) (iI (unp (tn t) (tsh t) (r / tT t) i))) 85 (0 + j) = iI (swC (unp (tn t) (tsh t) (r / tT t)) i j) ∧ swC (unp (tn t) (tsh t) (r / tT t)) i j < tn t := by
    intro j hj
    refine ⟨?_, swC_lt u2 hi j hj⟩
    rw [Nat.zero_add]
    unfold swC
    by_cases c1 : j = i
    · rw [if_pos c1, c1, zI_sI, z2_k _ _ _ n1, zI_sI, z2_at]
    · rw [if_neg c1]
      by_cases c2 : j = i + 1
      · rw [if_pos c2, c2, zI_sI, z2_at]
      · rw [if_neg c2, zI_sI, z2_k _ _ _ c2, zI_sI, z2_k _ _ _ c1]
        exact wj j hj
  have s2 := s1.fm f2
  have r32 : zR (zsI (zsI h1 85 i (iI (unp (tn t) (tsh t) (r / tT t) (i + 1)))) 85 (i + 1) (iI (unp (tn t) (tsh t) (r / tT t) i))) 76 3 = some tr := by rw [f2.R, f1.R]; exact r3
  have q2 : Tr (zsI (zsI h1 85 i (iI (unp (tn t) (tsh t) (r / tT t) (i + 1)))) 85 (i + 1) (iI (unp (tn t) (tsh t) (r / tT t) i))) tr t := (qt.fm f1 (by simp; omega)).fm f2 (by simp; omega)
  have e2 := fX12_rowNumber_eq (r1 := 85) (fr := 0) (L := 5) (w := swC (unp (tn t) (tsh t) (r / tT t)) i) s2 r32 q2 tok (sK85 s2) (sL85 s2) (by decide) (by omega) w3 (swC_d u1 hi)
  have e3 := fX11_tilts_eq q2 tok
  have r31 : zR h1 76 3 = some tr := by rw [f1.R]; exact r3
  generalize hh2 : zsI (zsI h1 85 i (iI (unp (tn t) (tsh t) (r / tT t) (i + 1)))) 85 (i + 1) (iI (unp (tn t) (tsh t) (r / tT t) i)) = h2 at *
  refine ⟨h2, ?_, f1.tr f2⟩
  obtain ⟨b1, b2⟩ := mw_bits (r % tT t) (by omega) i (by omega)
  have hz : zrem (iI (r : Int)) (iI (tT t : Int)) = iI ((r % tT t : Nat) : Int) := by
    rw [iI_rem ⟨by omega, by omega⟩ ⟨by omega, by omega⟩ (by omega) (by omega)]
    rfl
  have hj : ∀ a : Nat, jX12_becomes_83 h 76 (iI a) h2 = some (iI ((rowN (tn t) (swC (unp (tn t) (tsh t) (r / tT t)) i) (tsh t) * tT t + a : Nat) : Int), h2) := by
    intro a
    unfold jX12_becomes_83
    have e2' : fX12_rowNumber 76 85 (iI 0) h2 = some (iI (rowN (tn t) (swC (unp (tn t) (tsh t) (r / tT t)) i) (tsh t)), h2) := e2
    simp (maxSteps := 1000000) (disch := (first | assumption | exact ne_b rfl | omega)) only [↓reduceIte, ↓zlet_eq, ↓bdR_sI, ↓bdR_sJ, ↓bdR_aI, zc2_some, Option.bind_some, ↓si_m1, ↓si_m2, ↓si_m3, iI_lit, iI_add, iI_sub, iI_mul, leT, leF, ltT, ltF, eqT, eqF, zinT, clI, Int.toNat_natCast, Int.reduceToNat, tN1, tNa, tN0, tNm, if_pos, if_neg, zI_sI, zI_sJ, zI_sR, zJ_sI, zJ_sJ, zJ_sR, zR_sI, zR_sJ, zR_sR, zK_sI, zK_sJ, zK_sR, zL_sI, zL_sJ, zL_sR, zI_aI, zJ_aI, zR_aI, zK_aI, zL_aI, z2_at, z2_a, z2_k, z1_self, z1_ne, true_and, and_true, bIt, bIf, Bool.false_eq_true, Bool.true_eq_false, eq_self, not_true_eq_false, not_false_eq_true, sK76, sK77, sK78, sK79, sK80, sK81, sK82, sK83, sK84, sK85, sK86, sK87, sK88, sK89, sK90, sK91, sK92, sK93, sK94, sK95, sK96, sK97, sK98, sK99, sK100, sL77, sL78, sL79, sL80, sL81, sL82, sL83, sL84, sL85, sL86, sL87, sL88, sL89, sL90, sL91, sL92, sL93, sL94, sL95, sL96, sL97, sL98, sL99, sL100, sR76_5, sR76_16, sR76_18, sR76_19, sR76_20, sR76_21, sR76_23, sR76_25, sR76_26, sR76_27, sR76_28, sR76_29, sR76_30, sR76_31, sR76_32, sR76_33, sR76_34, sR76_37, sR76_38, sR76_39, sR76_40, sR76_41, sR76_42, ↓sB76_5, ↓sB76_16, ↓sB76_18, ↓sB76_19, ↓sB76_20, ↓sB76_21, ↓sB76_23, ↓sB76_25, ↓sB76_26, ↓sB76_27, ↓sB76_28, ↓sB76_29, ↓sB76_30, ↓sB76_31, ↓sB76_32, ↓sB76_33, ↓sB76_34, ↓sB76_37, ↓sB76_38, ↓sB76_39, ↓sB76_40, ↓sB76_41, ↓sB76_42, ↓zc_of e2', ↓bd_of r32, qt.fK, ↓zc_of e3]
    all_goals rfl
  have hT0 : ¬ iI (tT t : Int) = 0 := by
    rw [show (0 : Int32) = iI ((0 : Nat) : Int) from rfl, iI_eq ⟨by omega, by omega⟩ ⟨by omega, by omega⟩]
    omega
  have hneT : ¬ (tT t : Int) = 0 := by omega
  have b1' : ((iI ((r % tT t : Nat) : Int) >>> (iI i &&& iI 31)) &&& iI 1 = (iI ((r % tT t : Nat) : Int) >>> (iI ((i + 1 : Nat) : Int) &&& iI 31)) &&& iI 1) ↔ (r % tT t).testBit i = (r % tT t).testBit (i + 1) := b1
  have b2' : iI ((r % tT t : Nat) : Int) ^^^ (iI 3 <<< (iI i &&& iI 31)) = iI ((r % tT t ^^^ (3 * 2 ^ i) : Nat) : Int) := b2
  unfold fX12_becomes swR swT
  by_cases c : (r % tT t).testBit i = (r % tT t).testBit (i + 1)
  · have q := b1'.mpr c
    rw [if_pos c]
    have hj' := hj (r % tT t)
    clear b1 b2 b1' b2' hj w3 wj
    simp (maxSteps := 1000000) (disch := (first | assumption | exact ne_b rfl | omega)) only [↓reduceIte, ↓zlet_eq, ↓bdR_sI, ↓bdR_sJ, ↓bdR_aI, zc2_some, Option.bind_some, ↓si_m1, ↓si_m2, ↓si_m3, iI_lit, iI_add, iI_sub, iI_mul, leT, leF, ltT, ltF, eqT, eqF, zinT, clI, Int.toNat_natCast, Int.reduceToNat, tN1, tNa, tN0, tNm, if_pos, if_neg, zI_sI, zI_sJ, zI_sR, zJ_sI, zJ_sJ, zJ_sR, zR_sI, zR_sJ, zR_sR, zK_sI, zK_sJ, zK_sR, zL_sI, zL_sJ, zL_sR, zI_aI, zJ_aI, zR_aI, zK_aI, zL_aI, z2_at, z2_a, z2_k, z1_self, z1_ne, true_and, and_true, bIt, bIf, Bool.false_eq_true, Bool.true_eq_false, eq_self, not_true_eq_false, not_false_eq_true, sK76, sK77, sK78, sK79, sK80, sK81, sK82, sK83, sK84, sK85, sK86, sK87, sK88, sK89, sK90, sK91, sK92, sK93, sK94, sK95, sK96, sK97, sK98, sK99, sK100, sL77, sL78, sL79, sL80, sL81, sL82, sL83, sL84, sL85, sL86, sL87, sL88, sL89, sL90, sL91, sL92, sL93, sL94, sL95, sL96, sL97, sL98, sL99, sL100, sR76_5, sR76_16, sR76_18, sR76_19, sR76_20, sR76_21, sR76_23, sR76_25, sR76_26, sR76_27, sR76_28, sR76_29, sR76_30, sR76_31, sR76_32, sR76_33, sR76_34, sR76_37, sR76_38, sR76_39, sR76_40, sR76_41, sR76_42, ↓sB76_5, ↓sB76_16, ↓sB76_18, ↓sB76_19, ↓sB76_20, ↓sB76_21, ↓sB76_23, ↓sB76_25, ↓sB76_26, ↓sB76_27, ↓sB76_28, ↓sB76_29, ↓sB76_30, ↓sB76_31, ↓sB76_32, ↓sB76_33, ↓sB76_34, ↓sB76_37, ↓sB76_38, ↓sB76_39, ↓sB76_40, ↓sB76_41, ↓sB76_42, ↓bd_of e1, w1, w2, ei, hh2, ↓bd_of r31, ↓bd_of r32, qt.fK, ↓zc_of e3, hz, q, hj']
  · have q : ¬ _ := fun z => c (b1'.mp z)
    rw [if_neg c]
    have hj' := hj (r % tT t ^^^ (3 * 2 ^ i))
    clear b1 b2 b1' hj w3 wj
    simp (maxSteps := 1000000) (disch := (first | assumption | exact ne_b rfl | omega)) only [↓reduceIte, ↓zlet_eq, ↓bdR_sI, ↓bdR_sJ, ↓bdR_aI, zc2_some, Option.bind_some, ↓si_m1, ↓si_m2, ↓si_m3, iI_lit, iI_add, iI_sub, iI_mul, leT, leF, ltT, ltF, eqT, eqF, zinT, clI, Int.toNat_natCast, Int.reduceToNat, tN1, tNa, tN0, tNm, if_pos, if_neg, zI_sI, zI_sJ, zI_sR, zJ_sI, zJ_sJ, zJ_sR, zR_sI, zR_sJ, zR_sR, zK_sI, zK_sJ, zK_sR, zL_sI, zL_sJ, zL_sR, zI_aI, zJ_aI, zR_aI, zK_aI, zL_aI, z2_at, z2_a, z2_k, z1_self, z1_ne, true_and, and_true, bIt, bIf, Bool.false_eq_true, Bool.true_eq_false, eq_self, not_true_eq_false, not_false_eq_true, sK76, sK77, sK78, sK79, sK80, sK81, sK82, sK83, sK84, sK85, sK86, sK87, sK88, sK89, sK90, sK91, sK92, sK93, sK94, sK95, sK96, sK97, sK98, sK99, sK100, sL77, sL78, sL79, sL80, sL81, sL82, sL83, sL84, sL85, sL86, sL87, sL88, sL89, sL90, sL91, sL92, sL93, sL94, sL95, sL96, sL97, sL98, sL99, sL100, sR76_5, sR76_16, sR76_18, sR76_19, sR76_20, sR76_21, sR76_23, sR76_25, sR76_26, sR76_27, sR76_28, sR76_29, sR76_30, sR76_31, sR76_32, sR76_33, sR76_34, sR76_37, sR76_38, sR76_39, sR76_40, sR76_41, sR76_42, ↓sB76_5, ↓sB76_16, ↓sB76_18, ↓sB76_19, ↓sB76_20, ↓sB76_21, ↓sB76_23, ↓sB76_25, ↓sB76_26, ↓sB76_27, ↓sB76_28, ↓sB76_29, ↓sB76_30, ↓sB76_31, ↓sB76_32, ↓sB76_33, ↓sB76_34, ↓sB76_37, ↓sB76_38, ↓sB76_39, ↓sB76_40, ↓sB76_41, ↓sB76_42, ↓bd_of e1, w1, w2, ei, hh2, ↓bd_of r31, ↓bd_of r32, qt.fK, ↓zc_of e3, hz, q, b2', hj']
