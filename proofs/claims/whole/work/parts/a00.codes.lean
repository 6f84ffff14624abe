/-! the model's codes: the places of a hand's rows -/
def dgc (s c i : Nat) : Nat := c / 2 ^ (3 * (s - 1 - i)) % 8
def okc (k s : Nat) (rs : Bool) (c : Nat) : Nat → Bool
  | 0 => true
  | i + 1 => okc k s rs c i && (decide (dgc s c i < k) && !(fmask (dgc s c) i).testBit (dgc s c i) && (!rs || decide (fmask (dgc s c) i < 2 ^ dgc s c i)))
def encd (s : Nat) (e : List Nat) : Nat := match s with
  | 0 => 0
  | 1 => pw e 0
  | 2 => pw e 0 * 8 + pw e 1
  | 3 => (pw e 0 * 8 + pw e 1) * 8 + pw e 2
  | _ => ((pw e 0 * 8 + pw e 1) * 8 + pw e 2) * 8 + pw e 3
def cdl (k s : Nat) (rs : Bool) : List Nat := (List.range (2 ^ (3 * s))).filter (fun c => okc k s rs c s)
theorem cdl_kt : ∀ k : Nat, k < 6 → ∀ s : Nat, s < 5 → 1 ≤ s → s < k → cdl k s true = (dls k s true).map (encd s) := by decide +kernel
theorem cdl_kf : ∀ k : Nat, k < 6 → ∀ s : Nat, s < 5 → 1 ≤ s → s < k → cdl k s false = (dls k s false).map (encd s) := by decide +kernel
def dgk (s : Nat) (e : List Nat) : Bool := (List.range s).all (fun i => dgc s (encd s e) i == pw e i)
theorem dgk_kt : ∀ k : Nat, k < 6 → ∀ s : Nat, s < 5 → 1 ≤ s → s < k → (dls k s true).all (dgk s) = true := by decide +kernel
theorem dgk_kf : ∀ k : Nat, k < 6 → ∀ s : Nat, s < 5 → 1 ≤ s → s < k → (dls k s false).all (dgk s) = true := by decide +kernel
theorem cdl_at {t : Tk} (tok : Tok t) : (cdl (tk t) (tsh t) (!anyO t)).length = pcn t ∧ ∀ j, j < pcn t → ∃ c, (cdl (tk t) (tsh t) (!anyO t))[j]? = some c ∧ c < 2 ^ (3 * tsh t) ∧ ∀ i, i < tsh t → dgc (tsh t) c i = plc t j i := by
  obtain ⟨bn4, bn12, bu1, bu4, bnu, bk2, bk5, bkn, bp1, bp2, bpk, bH, bsp, bs1, bs4, bT1, bT16, bR1, bR2, bH1, bff, bff1⟩ := tok.b
  have hpb := (pcn_b tok).2
  have hl : cdl (tk t) (tsh t) (!anyO t) = (dls (tk t) (tsh t) (!anyO t)).map (encd (tsh t)) := by
    cases !anyO t
    · exact cdl_kf (tk t) (by omega) (tsh t) (by omega) bs1 (by omega)
    · exact cdl_kt (tk t) (by omega) (tsh t) (by omega) bs1 (by omega)
  have hd : (dls (tk t) (tsh t) (!anyO t)).all (dgk (tsh t)) = true := by
    cases !anyO t
    · exact dgk_kf (tk t) (by omega) (tsh t) (by omega) bs1 (by omega)
    · exact dgk_kt (tk t) (by omega) (tsh t) (by omega) bs1 (by omega)
  unfold pcn at hpb
  have hlen := dls_len (n := tk t) (k := tsh t) (rs := !anyO t) (by omega) bs1 (by omega) (by omega) (by omega)
  refine ⟨by rw [hl, List.length_map, hlen]; rfl, fun j hj => ?_⟩
  obtain ⟨e, e1, e2, -⟩ := hcd_at (n := tk t) (k := tsh t) (rs := !anyO t) (by omega) bs1 (by omega) (by omega) (by omega) (h := j) hj
  have e3 : (cdl (tk t) (tsh t) (!anyO t))[j]? = some (encd (tsh t) e) := by rw [hl, List.getElem?_map, e1]; rfl
  have hm := List.mem_of_getElem? e3
  refine ⟨encd (tsh t) e, e3, ?_, fun i hi => ?_⟩
  · unfold cdl at hm
    exact List.mem_range.mp (List.mem_filter.mp hm).1
  · have h1 := List.all_eq_true.mp hd e (List.mem_of_getElem? e1)
    unfold dgk at h1
    have h2 := List.all_eq_true.mp h1 i (List.mem_range.mpr hi)
    have h3 := eq_of_beq h2
    rw [h3]
    exact (e2 i).symm
theorem okc_b {k s c : Nat} {rs : Bool} : ∀ i, okc k s rs c i = true → ∀ j, j < i → okc k s rs c j = true
  | 0, _, j, h => by omega
  | i + 1, h, j, hj => by
    rw [okc, Bool.and_eq_true] at h
    by_cases e : j = i
    · rw [e]; exact h.1
    · exact okc_b i h.1 j (by omega)
theorem dgc_lt (s c i : Nat) : dgc s c i < 8 := Nat.mod_lt _ (by decide)
theorem codes_in {tr c : Nat} {t : Tk} {g h : Zh} (s : St h) (r3 : zR h 76 3 = some tr) (qg : zK g tr = 11) (q : Tr h tr t) (tok : Tok t) (hc2 : c < 2 ^ (3 * tsh t)) : ∃ y1 y3, lp (fun z : Int32 × Int32 × Int32 × Zh => bX12_laysCodes_29 g 76 (iI c) z.1 z.2.1 z.2.2.1 z.2.2.2) zB (iI 0, iI 1, iI 0, h) = some (1, (y1, iI (bI (okc (tk t) (tsh t) (!anyO t) c (tsh t))), y3, h)) := by
  obtain ⟨bn4, bn12, bu1, bu4, bnu, bk2, bk5, bkn, bp1, bp2, bpk, bH, bsp, bs1, bs4, bT1, bT16, bR1, bR2, bH1, bff, bff1⟩ := tok.b
  have hc4 : c < 4096 := by
    have : 2 ^ (3 * tsh t) ≤ 2 ^ 12 := Nat.pow_le_pow_right (by decide) (by omega)
    omega
  have hm : ∀ i, fmask (dgc (tsh t) c) i < 256 := fun i => fmask_lt (N := 8) i (fun j _ => dgc_lt _ _ _)
  have := lp_cnt (body := fun z : Int32 × Int32 × Int32 × Zh => bX12_laysCodes_29 g 76 (iI c) z.1 z.2.1 z.2.2.1 z.2.2.2) (tsh t) (fun i z => z = ((iI (fmask (dgc (tsh t) c) i), iI (bI (okc (tk t) (tsh t) (!anyO t) c i)), iI (i : Int), h) : Int32 × Int32 × Int32 × Zh)) (fun e z => e = 1 ∧ z.2.1 = iI (bI (okc (tk t) (tsh t) (!anyO t) c (tsh t))) ∧ z.2.2.2 = h) ?_ ?_ (by omega) (s := (iI 0, iI 1, iI 0, h)) rfl
  · obtain ⟨e, z, l1, l2, l3, l4⟩ := this
    have e0 : e = 0 := by omega
    subst e0
    refine ⟨z.1, z.2.2.1, ?_⟩
    rw [l1, ← l3]
    rw [← l4]
  · intro i z hi ez
    subst ez
    show (∃ s', bX12_laysCodes_29 g 76 (iI c) (iI (fmask (dgc (tsh t) c) i)) (iI (bI (okc (tk t) (tsh t) (!anyO t) c i))) (iI i) h = some (0, s') ∧ _) ∨ (∃ e s', bX12_laysCodes_29 g 76 (iI c) (iI (fmask (dgc (tsh t) c) i)) (iI (bI (okc (tk t) (tsh t) (!anyO t) c i))) (iI i) h = some (e + 1, s') ∧ _)
    cases eo : okc (tk t) (tsh t) (!anyO t) c i
    · refine Or.inr ⟨0, (iI (fmask (dgc (tsh t) c) i), iI (bI false), iI i, h), ?_, rfl, ?_, rfl⟩
      · unfold bX12_laysCodes_29
        simp (maxSteps := 1000000) (disch := (first | assumption | exact ne_b rfl | omega)) only [↓reduceIte, ↓zlet_eq, ↓bdR_sI, ↓bdR_sJ, ↓bdR_aI, zc2_some, Option.bind_some, ↓si_m1, ↓si_m2, ↓si_m3, iI_lit, iI_add, iI_sub, iI_mul, leT, leF, ltT, ltF, eqT, eqF, zinT, clI, Int.toNat_natCast, Int.reduceToNat, tN1, tNa, tN0, tNm, if_pos, if_neg, zI_sI, zI_sJ, zI_sR, zJ_sI, zJ_sJ, zJ_sR, zR_sI, zR_sJ, zR_sR, zK_sI, zK_sJ, zK_sR, zL_sI, zL_sJ, zL_sR, zI_aI, zJ_aI, zR_aI, zK_aI, zL_aI, z2_at, z2_a, z2_k, z1_self, z1_ne, true_and, and_true, bIt, bIf, Bool.false_eq_true, Bool.true_eq_false, eq_self, not_true_eq_false, not_false_eq_true, sK76, sK77, sK78, sK79, sK80, sK81, sK82, sK83, sK84, sK85, sK86, sK87, sK88, sK89, sK90, sK91, sK92, sK93, sK94, sK95, sK96, sK97, sK98, sK99, sK100, sL77, sL78, sL79, sL80, sL81, sL82, sL83, sL84, sL85, sL86, sL87, sL88, sL89, sL90, sL91, sL92, sL93, sL94, sL95, sL96, sL97, sL98, sL99, sL100, sR76_5, sR76_16, sR76_18, sR76_19, sR76_20, sR76_21, sR76_23, sR76_25, sR76_26, sR76_27, sR76_28, sR76_29, sR76_30, sR76_31, sR76_32, sR76_33, sR76_34, sR76_37, sR76_38, sR76_39, sR76_40, sR76_41, sR76_42, ↓sB76_5, ↓sB76_16, ↓sB76_18, ↓sB76_19, ↓sB76_20, ↓sB76_21, ↓sB76_23, ↓sB76_25, ↓sB76_26, ↓sB76_27, ↓sB76_28, ↓sB76_29, ↓sB76_30, ↓sB76_31, ↓sB76_32, ↓sB76_33, ↓sB76_34, ↓sB76_37, ↓sB76_38, ↓sB76_39, ↓sB76_40, ↓sB76_41, ↓sB76_42, ↓bd_of r3, qg, q.fK, q.f0, q.f1, q.f2, q.f3, q.f4, q.f7, q.f8, q.f9]
      · have : okc (tk t) (tsh t) (!anyO t) c (tsh t) = false := by
          cases e2 : okc (tk t) (tsh t) (!anyO t) c (tsh t)
          · rfl
          · have := okc_b _ e2 i hi
            rw [eo] at this
            cases this
        rw [this]
    · refine Or.inl ⟨(iI (fmask (dgc (tsh t) c) (i + 1)), iI (bI (okc (tk t) (tsh t) (!anyO t) c (i + 1))), iI ((i + 1 : Nat) : Int), h), ?_, rfl⟩
      have e1 : (3 : Int) * ((tsh t : Int) - 1 - (i : Int)) = ((3 * (tsh t - 1 - i) : Nat) : Int) := by omega
      have hdig : (iI (c : Int) >>> (iI ((3 * (tsh t - 1 - i) : Nat) : Int) &&& iI 31)) &&& iI 7 = iI (dgc (tsh t) c i) := by
        rw [show iI 31 = (31 : Int32) from rfl, iI_shr (by omega) (by omega), show iI 7 = iI ((7 : Nat) : Int) from rfl, iI_and]
        unfold dgc
        rw [show (7 : Nat) = 2 ^ 3 - 1 from rfl, Nat.and_two_pow_sub_one_eq_mod]
      have hd8 := dgc_lt (tsh t) c i
      have hmi := hm i
      have h1o := fX12_isOneOrder_eq s r3 q
      have hpow : 2 ^ dgc (tsh t) c i ≤ 2 ^ 7 := Nat.pow_le_pow_right (by decide) (by omega)
      rw [okc, eo, fmask]
      generalize hD : dgc (tsh t) c i = D at *
      generalize hF : fmask (dgc (tsh t) c) i = F at *
      have hp0 : 0 < 2 ^ D := Nat.two_pow_pos D
      unfold bX12_laysCodes_29
      by_cases c1 : D < tk t
      · cases c2 : F.testBit D
        · cases c3 : anyO t
          · rw [c3] at h1o
            by_cases c4 : F < 2 ^ D
            · simp (maxSteps := 1000000) (disch := (first | assumption | exact ne_b rfl | omega)) only [↓reduceIte, ↓zlet_eq, ↓bdR_sI, ↓bdR_sJ, ↓bdR_aI, zc2_some, Option.bind_some, ↓si_m1, ↓si_m2, ↓si_m3, iI_lit, iI_add, iI_sub, iI_mul, leT, leF, ltT, ltF, eqT, eqF, zinT, clI, Int.toNat_natCast, Int.reduceToNat, tN1, tNa, tN0, tNm, if_pos, if_neg, zI_sI, zI_sJ, zI_sR, zJ_sI, zJ_sJ, zJ_sR, zR_sI, zR_sJ, zR_sR, zK_sI, zK_sJ, zK_sR, zL_sI, zL_sJ, zL_sR, zI_aI, zJ_aI, zR_aI, zK_aI, zL_aI, z2_at, z2_a, z2_k, z1_self, z1_ne, true_and, and_true, bIt, bIf, Bool.false_eq_true, Bool.true_eq_false, eq_self, not_true_eq_false, not_false_eq_true, sK76, sK77, sK78, sK79, sK80, sK81, sK82, sK83, sK84, sK85, sK86, sK87, sK88, sK89, sK90, sK91, sK92, sK93, sK94, sK95, sK96, sK97, sK98, sK99, sK100, sL77, sL78, sL79, sL80, sL81, sL82, sL83, sL84, sL85, sL86, sL87, sL88, sL89, sL90, sL91, sL92, sL93, sL94, sL95, sL96, sL97, sL98, sL99, sL100, sR76_5, sR76_16, sR76_18, sR76_19, sR76_20, sR76_21, sR76_23, sR76_25, sR76_26, sR76_27, sR76_28, sR76_29, sR76_30, sR76_31, sR76_32, sR76_33, sR76_34, sR76_37, sR76_38, sR76_39, sR76_40, sR76_41, sR76_42, ↓sB76_5, ↓sB76_16, ↓sB76_18, ↓sB76_19, ↓sB76_20, ↓sB76_21, ↓sB76_23, ↓sB76_25, ↓sB76_26, ↓sB76_27, ↓sB76_28, ↓sB76_29, ↓sB76_30, ↓sB76_31, ↓sB76_32, ↓sB76_33, ↓sB76_34, ↓sB76_37, ↓sB76_38, ↓sB76_39, ↓sB76_40, ↓sB76_41, ↓sB76_42, ↓bd_of r3, qg, q.fK, q.f0, q.f1, q.f2, q.f3, q.f4, q.f7, q.f8, q.f9, e1, hdig, ↓si_bit0, c2, ↓zc_of h1o, si_one, iI_or, Bool.not_false, c1, c4, decide_true, decide_eq_true, Bool.and_self, Bool.not_true, Bool.false_or, Bool.true_and]
              rfl
            · simp (maxSteps := 1000000) (disch := (first | assumption | exact ne_b rfl | omega)) only [↓reduceIte, ↓zlet_eq, ↓bdR_sI, ↓bdR_sJ, ↓bdR_aI, zc2_some, Option.bind_some, ↓si_m1, ↓si_m2, ↓si_m3, iI_lit, iI_add, iI_sub, iI_mul, leT, leF, ltT, ltF, eqT, eqF, zinT, clI, Int.toNat_natCast, Int.reduceToNat, tN1, tNa, tN0, tNm, if_pos, if_neg, zI_sI, zI_sJ, zI_sR, zJ_sI, zJ_sJ, zJ_sR, zR_sI, zR_sJ, zR_sR, zK_sI, zK_sJ, zK_sR, zL_sI, zL_sJ, zL_sR, zI_aI, zJ_aI, zR_aI, zK_aI, zL_aI, z2_at, z2_a, z2_k, z1_self, z1_ne, true_and, and_true, bIt, bIf, Bool.false_eq_true, Bool.true_eq_false, eq_self, not_true_eq_false, not_false_eq_true, sK76, sK77, sK78, sK79, sK80, sK81, sK82, sK83, sK84, sK85, sK86, sK87, sK88, sK89, sK90, sK91, sK92, sK93, sK94, sK95, sK96, sK97, sK98, sK99, sK100, sL77, sL78, sL79, sL80, sL81, sL82, sL83, sL84, sL85, sL86, sL87, sL88, sL89, sL90, sL91, sL92, sL93, sL94, sL95, sL96, sL97, sL98, sL99, sL100, sR76_5, sR76_16, sR76_18, sR76_19, sR76_20, sR76_21, sR76_23, sR76_25, sR76_26, sR76_27, sR76_28, sR76_29, sR76_30, sR76_31, sR76_32, sR76_33, sR76_34, sR76_37, sR76_38, sR76_39, sR76_40, sR76_41, sR76_42, ↓sB76_5, ↓sB76_16, ↓sB76_18, ↓sB76_19, ↓sB76_20, ↓sB76_21, ↓sB76_23, ↓sB76_25, ↓sB76_26, ↓sB76_27, ↓sB76_28, ↓sB76_29, ↓sB76_30, ↓sB76_31, ↓sB76_32, ↓sB76_33, ↓sB76_34, ↓sB76_37, ↓sB76_38, ↓sB76_39, ↓sB76_40, ↓sB76_41, ↓sB76_42, ↓bd_of r3, qg, q.fK, q.f0, q.f1, q.f2, q.f3, q.f4, q.f7, q.f8, q.f9, e1, hdig, ↓si_bit0, c2, ↓zc_of h1o, si_one, iI_or, Bool.not_false, c1, c4, decide_false, decide_true, Bool.and_self, Bool.not_true, Bool.false_or, Bool.true_and, Bool.and_false]
              rfl
          · rw [c3] at h1o
            simp (maxSteps := 1000000) (disch := (first | assumption | exact ne_b rfl | omega)) only [↓reduceIte, ↓zlet_eq, ↓bdR_sI, ↓bdR_sJ, ↓bdR_aI, zc2_some, Option.bind_some, ↓si_m1, ↓si_m2, ↓si_m3, iI_lit, iI_add, iI_sub, iI_mul, leT, leF, ltT, ltF, eqT, eqF, zinT, clI, Int.toNat_natCast, Int.reduceToNat, tN1, tNa, tN0, tNm, if_pos, if_neg, zI_sI, zI_sJ, zI_sR, zJ_sI, zJ_sJ, zJ_sR, zR_sI, zR_sJ, zR_sR, zK_sI, zK_sJ, zK_sR, zL_sI, zL_sJ, zL_sR, zI_aI, zJ_aI, zR_aI, zK_aI, zL_aI, z2_at, z2_a, z2_k, z1_self, z1_ne, true_and, and_true, bIt, bIf, Bool.false_eq_true, Bool.true_eq_false, eq_self, not_true_eq_false, not_false_eq_true, sK76, sK77, sK78, sK79, sK80, sK81, sK82, sK83, sK84, sK85, sK86, sK87, sK88, sK89, sK90, sK91, sK92, sK93, sK94, sK95, sK96, sK97, sK98, sK99, sK100, sL77, sL78, sL79, sL80, sL81, sL82, sL83, sL84, sL85, sL86, sL87, sL88, sL89, sL90, sL91, sL92, sL93, sL94, sL95, sL96, sL97, sL98, sL99, sL100, sR76_5, sR76_16, sR76_18, sR76_19, sR76_20, sR76_21, sR76_23, sR76_25, sR76_26, sR76_27, sR76_28, sR76_29, sR76_30, sR76_31, sR76_32, sR76_33, sR76_34, sR76_37, sR76_38, sR76_39, sR76_40, sR76_41, sR76_42, ↓sB76_5, ↓sB76_16, ↓sB76_18, ↓sB76_19, ↓sB76_20, ↓sB76_21, ↓sB76_23, ↓sB76_25, ↓sB76_26, ↓sB76_27, ↓sB76_28, ↓sB76_29, ↓sB76_30, ↓sB76_31, ↓sB76_32, ↓sB76_33, ↓sB76_34, ↓sB76_37, ↓sB76_38, ↓sB76_39, ↓sB76_40, ↓sB76_41, ↓sB76_42, ↓bd_of r3, qg, q.fK, q.f0, q.f1, q.f2, q.f3, q.f4, q.f7, q.f8, q.f9, e1, hdig, ↓si_bit0, c2, ↓zc_of h1o, si_one, iI_or, Bool.not_true, c1, decide_true, Bool.and_self, Bool.not_false, Bool.true_or, Bool.true_and]
            rfl
        · simp (maxSteps := 1000000) (disch := (first | assumption | exact ne_b rfl | omega)) only [↓reduceIte, ↓zlet_eq, ↓bdR_sI, ↓bdR_sJ, ↓bdR_aI, zc2_some, Option.bind_some, ↓si_m1, ↓si_m2, ↓si_m3, iI_lit, iI_add, iI_sub, iI_mul, leT, leF, ltT, ltF, eqT, eqF, zinT, clI, Int.toNat_natCast, Int.reduceToNat, tN1, tNa, tN0, tNm, if_pos, if_neg, zI_sI, zI_sJ, zI_sR, zJ_sI, zJ_sJ, zJ_sR, zR_sI, zR_sJ, zR_sR, zK_sI, zK_sJ, zK_sR, zL_sI, zL_sJ, zL_sR, zI_aI, zJ_aI, zR_aI, zK_aI, zL_aI, z2_at, z2_a, z2_k, z1_self, z1_ne, true_and, and_true, bIt, bIf, Bool.false_eq_true, Bool.true_eq_false, eq_self, not_true_eq_false, not_false_eq_true, sK76, sK77, sK78, sK79, sK80, sK81, sK82, sK83, sK84, sK85, sK86, sK87, sK88, sK89, sK90, sK91, sK92, sK93, sK94, sK95, sK96, sK97, sK98, sK99, sK100, sL77, sL78, sL79, sL80, sL81, sL82, sL83, sL84, sL85, sL86, sL87, sL88, sL89, sL90, sL91, sL92, sL93, sL94, sL95, sL96, sL97, sL98, sL99, sL100, sR76_5, sR76_16, sR76_18, sR76_19, sR76_20, sR76_21, sR76_23, sR76_25, sR76_26, sR76_27, sR76_28, sR76_29, sR76_30, sR76_31, sR76_32, sR76_33, sR76_34, sR76_37, sR76_38, sR76_39, sR76_40, sR76_41, sR76_42, ↓sB76_5, ↓sB76_16, ↓sB76_18, ↓sB76_19, ↓sB76_20, ↓sB76_21, ↓sB76_23, ↓sB76_25, ↓sB76_26, ↓sB76_27, ↓sB76_28, ↓sB76_29, ↓sB76_30, ↓sB76_31, ↓sB76_32, ↓sB76_33, ↓sB76_34, ↓sB76_37, ↓sB76_38, ↓sB76_39, ↓sB76_40, ↓sB76_41, ↓sB76_42, ↓bd_of r3, qg, q.fK, q.f0, q.f1, q.f2, q.f3, q.f4, q.f7, q.f8, q.f9, e1, hdig, ↓si_bit0, c2, si_one, iI_or, Bool.not_true, c1, decide_true, Bool.and_false, Bool.false_and]
          rfl
      · simp (maxSteps := 1000000) (disch := (first | assumption | exact ne_b rfl | omega)) only [↓reduceIte, ↓zlet_eq, ↓bdR_sI, ↓bdR_sJ, ↓bdR_aI, zc2_some, Option.bind_some, ↓si_m1, ↓si_m2, ↓si_m3, iI_lit, iI_add, iI_sub, iI_mul, leT, leF, ltT, ltF, eqT, eqF, zinT, clI, Int.toNat_natCast, Int.reduceToNat, tN1, tNa, tN0, tNm, if_pos, if_neg, zI_sI, zI_sJ, zI_sR, zJ_sI, zJ_sJ, zJ_sR, zR_sI, zR_sJ, zR_sR, zK_sI, zK_sJ, zK_sR, zL_sI, zL_sJ, zL_sR, zI_aI, zJ_aI, zR_aI, zK_aI, zL_aI, z2_at, z2_a, z2_k, z1_self, z1_ne, true_and, and_true, bIt, bIf, Bool.false_eq_true, Bool.true_eq_false, eq_self, not_true_eq_false, not_false_eq_true, sK76, sK77, sK78, sK79, sK80, sK81, sK82, sK83, sK84, sK85, sK86, sK87, sK88, sK89, sK90, sK91, sK92, sK93, sK94, sK95, sK96, sK97, sK98, sK99, sK100, sL77, sL78, sL79, sL80, sL81, sL82, sL83, sL84, sL85, sL86, sL87, sL88, sL89, sL90, sL91, sL92, sL93, sL94, sL95, sL96, sL97, sL98, sL99, sL100, sR76_5, sR76_16, sR76_18, sR76_19, sR76_20, sR76_21, sR76_23, sR76_25, sR76_26, sR76_27, sR76_28, sR76_29, sR76_30, sR76_31, sR76_32, sR76_33, sR76_34, sR76_37, sR76_38, sR76_39, sR76_40, sR76_41, sR76_42, ↓sB76_5, ↓sB76_16, ↓sB76_18, ↓sB76_19, ↓sB76_20, ↓sB76_21, ↓sB76_23, ↓sB76_25, ↓sB76_26, ↓sB76_27, ↓sB76_28, ↓sB76_29, ↓sB76_30, ↓sB76_31, ↓sB76_32, ↓sB76_33, ↓sB76_34, ↓sB76_37, ↓sB76_38, ↓sB76_39, ↓sB76_40, ↓sB76_41, ↓sB76_42, ↓bd_of r3, qg, q.fK, q.f0, q.f1, q.f2, q.f3, q.f4, q.f7, q.f8, q.f9, e1, hdig, si_one, iI_or, c1, decide_false, Bool.false_and, Bool.and_false]
        rfl
  · intro z ez
    subst ez
    refine ⟨0, (iI (fmask (dgc (tsh t) c) (tsh t)), iI (bI (okc (tk t) (tsh t) (!anyO t) c (tsh t))), iI (tsh t), h), ?_, rfl, rfl, rfl⟩
    show bX12_laysCodes_29 g 76 (iI c) _ _ (iI (tsh t)) h = _
    unfold bX12_laysCodes_29
    simp (maxSteps := 1000000) (disch := (first | assumption | exact ne_b rfl | omega)) only [↓reduceIte, ↓zlet_eq, ↓bdR_sI, ↓bdR_sJ, ↓bdR_aI, zc2_some, Option.bind_some, ↓si_m1, ↓si_m2, ↓si_m3, iI_lit, iI_add, iI_sub, iI_mul, leT, leF, ltT, ltF, eqT, eqF, zinT, clI, Int.toNat_natCast, Int.reduceToNat, tN1, tNa, tN0, tNm, if_pos, if_neg, zI_sI, zI_sJ, zI_sR, zJ_sI, zJ_sJ, zJ_sR, zR_sI, zR_sJ, zR_sR, zK_sI, zK_sJ, zK_sR, zL_sI, zL_sJ, zL_sR, zI_aI, zJ_aI, zR_aI, zK_aI, zL_aI, z2_at, z2_a, z2_k, z1_self, z1_ne, true_and, and_true, bIt, bIf, Bool.false_eq_true, Bool.true_eq_false, eq_self, not_true_eq_false, not_false_eq_true, sK76, sK77, sK78, sK79, sK80, sK81, sK82, sK83, sK84, sK85, sK86, sK87, sK88, sK89, sK90, sK91, sK92, sK93, sK94, sK95, sK96, sK97, sK98, sK99, sK100, sL77, sL78, sL79, sL80, sL81, sL82, sL83, sL84, sL85, sL86, sL87, sL88, sL89, sL90, sL91, sL92, sL93, sL94, sL95, sL96, sL97, sL98, sL99, sL100, sR76_5, sR76_16, sR76_18, sR76_19, sR76_20, sR76_21, sR76_23, sR76_25, sR76_26, sR76_27, sR76_28, sR76_29, sR76_30, sR76_31, sR76_32, sR76_33, sR76_34, sR76_37, sR76_38, sR76_39, sR76_40, sR76_41, sR76_42, ↓sB76_5, ↓sB76_16, ↓sB76_18, ↓sB76_19, ↓sB76_20, ↓sB76_21, ↓sB76_23, ↓sB76_25, ↓sB76_26, ↓sB76_27, ↓sB76_28, ↓sB76_29, ↓sB76_30, ↓sB76_31, ↓sB76_32, ↓sB76_33, ↓sB76_34, ↓sB76_37, ↓sB76_38, ↓sB76_39, ↓sB76_40, ↓sB76_41, ↓sB76_42, ↓bd_of r3, qg, q.fK, q.f0, q.f1, q.f2, q.f3, q.f4, q.f7, q.f8, q.f9]
/-- the codes as the model holds them -/
def Cdm (h : Zh) (t : Tk) : Prop := zI h 76 24 = iI (pcn t) ∧ ∀ j, j < pcn t → ∃ c : Nat, zI h 83 j = iI c ∧ c < 4096 ∧ ∀ i, i < tsh t → dgc (tsh t) c i = plc t j i
theorem Cdm.fm {S : List Nat} {h h' : Zh} {t : Tk} (c : Cdm h t) (f : Fm S h h') (h1 : zI h' 76 24 = zI h 76 24) (h2 : 83 ∉ S) : Cdm h' t := by
  unfold Cdm
  rw [h1, f.I h2]
  exact c
theorem fX12_laysCodes_eq {tr : Nat} {t : Tk} {h : Zh} (tok : Tok t) (s : St h) (htr : 101 ≤ tr) (r3 : zR h 76 3 = some tr) (q : Tr h tr t) : ∃ h', fX12_laysCodes 76 h = some h' ∧ Fm [76, 83] h h' ∧ (∀ j, j ≠ 24 → zI h' 76 j = zI h 76 j) ∧ Cdm h' t := by
  obtain ⟨bn4, bn12, bu1, bu4, bnu, bk2, bk5, bkn, bp1, bp2, bpk, bH, bsp, bs1, bs4, bT1, bT16, bR1, bR2, bH1, bff, bff1⟩ := tok.b
  obtain ⟨L1, L2⟩ := cdl_at tok
  have hpb := (pcn_b tok).2
  have fl : ∀ c, ((List.range (c + 1)).filter (fun c => okc (tk t) (tsh t) (!anyO t) c (tsh t))) = ((List.range c).filter (fun c => okc (tk t) (tsh t) (!anyO t) c (tsh t))) ++ (if okc (tk t) (tsh t) (!anyO t) c (tsh t) = true then [c] else []) := fun c => by
    rw [List.range_succ, List.filter_append, List.filter_cons, List.filter_nil]
  have hpre : ∀ c, c ≤ 2 ^ (3 * tsh t) → ((List.range c).filter (fun c => okc (tk t) (tsh t) (!anyO t) c (tsh t))).length ≤ 120 := fun c hc => by
    have h1 : ∀ d, ((List.range c).filter (fun c => okc (tk t) (tsh t) (!anyO t) c (tsh t))).length ≤ ((List.range (c + d)).filter (fun c => okc (tk t) (tsh t) (!anyO t) c (tsh t))).length := by
      intro d
      induction d with
      | zero => exact Nat.le_refl _
      | succ d ih =>
        rw [← Nat.add_assoc, fl, List.length_append]
        omega
    have h2 := h1 (2 ^ (3 * tsh t) - c)
    rw [show c + (2 ^ (3 * tsh t) - c) = 2 ^ (3 * tsh t) by omega] at h2
    unfold cdl at L1
    omega
  have hpw : 2 ^ (3 * tsh t) ≤ 2 ^ 12 := Nat.pow_le_pow_right (by decide) (by omega)
  have := lp_cnt (body := fun z : Int32 × Zh => bX12_laysCodes_7 h 76 z.1 z.2) (2 ^ (3 * tsh t)) (fun c z => ∃ h1, z = ((iI (c : Int), h1) : Int32 × Zh) ∧ Fm [76, 83] h h1 ∧ (∀ j, j ≠ 24 → zI h1 76 j = zI h 76 j) ∧ zI h1 76 24 = iI (((List.range c).filter (fun c => okc (tk t) (tsh t) (!anyO t) c (tsh t))).length : Nat) ∧ ∀ j v, ((List.range c).filter (fun c => okc (tk t) (tsh t) (!anyO t) c (tsh t)))[j]? = some v → zI h1 83 j = iI (v : Nat)) (fun e z => e = 1 ∧ Fm [76, 83] h z.2 ∧ (∀ j, j ≠ 24 → zI z.2 76 j = zI h 76 j) ∧ zI z.2 76 24 = iI ((cdl (tk t) (tsh t) (!anyO t)).length : Nat) ∧ ∀ j v, (cdl (tk t) (tsh t) (!anyO t))[j]? = some v → zI z.2 83 j = iI (v : Nat)) ?_ ?_ (by omega) (s := (iI 0, zsI h 76 24 (iI 0))) ⟨zsI h 76 24 (iI 0), rfl, Fm_sI _ _ _ (by simp), fun j hj => by rw [zI_sI, z2_k _ _ _ hj], by rw [zI_sI, z2_at]; rfl, fun j v hv => by simp at hv⟩
  · obtain ⟨e, z, l1, l2, l3, l4, l5, l6⟩ := this
    have e0 : e = 0 := by omega
    subst e0
    refine ⟨z.2, ?_, l3, l4, by rw [l5, L1], fun j hj => ?_⟩
    · unfold fX12_laysCodes
      simp (maxSteps := 1000000) (disch := (first | assumption | exact ne_b rfl | omega)) only [↓reduceIte, ↓zlet_eq, ↓bdR_sI, ↓bdR_sJ, ↓bdR_aI, zc2_some, Option.bind_some, ↓si_m1, ↓si_m2, ↓si_m3, iI_lit, iI_add, iI_sub, iI_mul, leT, leF, ltT, ltF, eqT, eqF, zinT, clI, Int.toNat_natCast, Int.reduceToNat, tN1, tNa, tN0, tNm, if_pos, if_neg, zI_sI, zI_sJ, zI_sR, zJ_sI, zJ_sJ, zJ_sR, zR_sI, zR_sJ, zR_sR, zK_sI, zK_sJ, zK_sR, zL_sI, zL_sJ, zL_sR, zI_aI, zJ_aI, zR_aI, zK_aI, zL_aI, z2_at, z2_a, z2_k, z1_self, z1_ne, true_and, and_true, bIt, bIf, Bool.false_eq_true, Bool.true_eq_false, eq_self, not_true_eq_false, not_false_eq_true, sK76, sK77, sK78, sK79, sK80, sK81, sK82, sK83, sK84, sK85, sK86, sK87, sK88, sK89, sK90, sK91, sK92, sK93, sK94, sK95, sK96, sK97, sK98, sK99, sK100, sL77, sL78, sL79, sL80, sL81, sL82, sL83, sL84, sL85, sL86, sL87, sL88, sL89, sL90, sL91, sL92, sL93, sL94, sL95, sL96, sL97, sL98, sL99, sL100, sR76_5, sR76_16, sR76_18, sR76_19, sR76_20, sR76_21, sR76_23, sR76_25, sR76_26, sR76_27, sR76_28, sR76_29, sR76_30, sR76_31, sR76_32, sR76_33, sR76_34, sR76_37, sR76_38, sR76_39, sR76_40, sR76_41, sR76_42, ↓sB76_5, ↓sB76_16, ↓sB76_18, ↓sB76_19, ↓sB76_20, ↓sB76_21, ↓sB76_23, ↓sB76_25, ↓sB76_26, ↓sB76_27, ↓sB76_28, ↓sB76_29, ↓sB76_30, ↓sB76_31, ↓sB76_32, ↓sB76_33, ↓sB76_34, ↓sB76_37, ↓sB76_38, ↓sB76_39, ↓sB76_40, ↓sB76_41, ↓sB76_42]
      exact lp_bd l1
    · obtain ⟨c, c1, c2, c3⟩ := L2 j hj
      exact ⟨c, l6 j c c1, by omega, c3⟩
  · intro c z hc ⟨h1, ez, fm, k1, k2, k3⟩
    subst ez
    have s1 := s.fm fm
    have q1 := q.fm fm (by simp; omega)
    have r31 : zR h1 76 3 = some tr := by rw [fm.R]; exact r3
    obtain ⟨y1, y3, l1⟩ := codes_in (g := h) s1 r31 q.fK q1 tok hc
    refine Or.inl ?_
    show ∃ s', bX12_laysCodes_7 h 76 (iI c) h1 = some (0, s') ∧ _
    have hsh : iI 1 <<< (iI ((3 * tsh t : Nat) : Int) &&& iI 31) = iI ((2 ^ (3 * tsh t) : Nat) : Int) := si_one (by omega)
    have e3 : (3 : Int) * (tsh t : Int) = ((3 * tsh t : Nat) : Int) := by omega
    have hb : bX12_laysCodes_7 h 76 (iI c) h1 = kX12_laysCodes_29 h 76 (iI c) 1 y1 (iI (bI (okc (tk t) (tsh t) (!anyO t) c (tsh t)))) y3 h1 := by
      unfold bX12_laysCodes_7
      generalize 2 ^ (3 * tsh t) = P at *
      simp (maxSteps := 1000000) (disch := (first | assumption | exact ne_b rfl | omega)) only [↓reduceIte, ↓zlet_eq, ↓bdR_sI, ↓bdR_sJ, ↓bdR_aI, zc2_some, Option.bind_some, ↓si_m1, ↓si_m2, ↓si_m3, iI_lit, iI_add, iI_sub, iI_mul, leT, leF, ltT, ltF, eqT, eqF, zinT, clI, Int.toNat_natCast, Int.reduceToNat, tN1, tNa, tN0, tNm, if_pos, if_neg, zI_sI, zI_sJ, zI_sR, zJ_sI, zJ_sJ, zJ_sR, zR_sI, zR_sJ, zR_sR, zK_sI, zK_sJ, zK_sR, zL_sI, zL_sJ, zL_sR, zI_aI, zJ_aI, zR_aI, zK_aI, zL_aI, z2_at, z2_a, z2_k, z1_self, z1_ne, true_and, and_true, bIt, bIf, Bool.false_eq_true, Bool.true_eq_false, eq_self, not_true_eq_false, not_false_eq_true, sK76, sK77, sK78, sK79, sK80, sK81, sK82, sK83, sK84, sK85, sK86, sK87, sK88, sK89, sK90, sK91, sK92, sK93, sK94, sK95, sK96, sK97, sK98, sK99, sK100, sL77, sL78, sL79, sL80, sL81, sL82, sL83, sL84, sL85, sL86, sL87, sL88, sL89, sL90, sL91, sL92, sL93, sL94, sL95, sL96, sL97, sL98, sL99, sL100, sR76_5, sR76_16, sR76_18, sR76_19, sR76_20, sR76_21, sR76_23, sR76_25, sR76_26, sR76_27, sR76_28, sR76_29, sR76_30, sR76_31, sR76_32, sR76_33, sR76_34, sR76_37, sR76_38, sR76_39, sR76_40, sR76_41, sR76_42, ↓sB76_5, ↓sB76_16, ↓sB76_18, ↓sB76_19, ↓sB76_20, ↓sB76_21, ↓sB76_23, ↓sB76_25, ↓sB76_26, ↓sB76_27, ↓sB76_28, ↓sB76_29, ↓sB76_30, ↓sB76_31, ↓sB76_32, ↓sB76_33, ↓sB76_34, ↓sB76_37, ↓sB76_38, ↓sB76_39, ↓sB76_40, ↓sB76_41, ↓sB76_42, ↓bd_of r31, q.fK, q1.fK, q1.f0, q1.f1, q1.f2, q1.f3, q1.f4, q1.f7, q1.f8, q1.f9, e3, hsh]
      exact lp_bd l1
    have hlen := hpre c (by omega)
    have hlen2 := hpre (c + 1) (by omega)
    rw [hb]
    unfold kX12_laysCodes_29
    cases eo : okc (tk t) (tsh t) (!anyO t) c (tsh t)
    · refine ⟨(iI ((c + 1 : Nat) : Int), h1), ?_, h1, rfl, fm, k1, ?_, fun j v hv => ?_⟩
      · simp (maxSteps := 1000000) (disch := (first | assumption | exact ne_b rfl | omega)) only [↓reduceIte, ↓zlet_eq, ↓bdR_sI, ↓bdR_sJ, ↓bdR_aI, zc2_some, Option.bind_some, ↓si_m1, ↓si_m2, ↓si_m3, iI_lit, iI_add, iI_sub, iI_mul, leT, leF, ltT, ltF, eqT, eqF, zinT, clI, Int.toNat_natCast, Int.reduceToNat, tN1, tNa, tN0, tNm, if_pos, if_neg, zI_sI, zI_sJ, zI_sR, zJ_sI, zJ_sJ, zJ_sR, zR_sI, zR_sJ, zR_sR, zK_sI, zK_sJ, zK_sR, zL_sI, zL_sJ, zL_sR, zI_aI, zJ_aI, zR_aI, zK_aI, zL_aI, z2_at, z2_a, z2_k, z1_self, z1_ne, true_and, and_true, bIt, bIf, Bool.false_eq_true, Bool.true_eq_false, eq_self, not_true_eq_false, not_false_eq_true]
        rfl
      · rw [fl, eo, if_neg (by decide), List.append_nil]; exact k2
      · rw [fl, eo, if_neg (by decide), List.append_nil] at hv; exact k3 j v hv
    · rw [fl, eo, if_pos rfl, List.length_append] at hlen2
      simp only [List.length_cons, List.length_nil] at hlen2
      have fm2 : Fm [76, 83] h (zsI (zsI h1 83 (((List.range c).filter (fun c => okc (tk t) (tsh t) (!anyO t) c (tsh t))).length) (iI c)) 76 24 (iI (((List.range c).filter (fun c => okc (tk t) (tsh t) (!anyO t) c (tsh t))).length + 1 : Nat))) := fm.tr ((Fm_sI _ _ _ (by simp)).tr (Fm_sI _ _ _ (by simp)))
      refine ⟨(iI ((c + 1 : Nat) : Int), zsI (zsI h1 83 (((List.range c).filter (fun c => okc (tk t) (tsh t) (!anyO t) c (tsh t))).length) (iI c)) 76 24 (iI (((List.range c).filter (fun c => okc (tk t) (tsh t) (!anyO t) c (tsh t))).length + 1 : Nat))), ?_, _, rfl, fm2, fun j hj => ?_, ?_, fun j v hv => ?_⟩
      · generalize ((List.range c).filter (fun c => okc (tk t) (tsh t) (!anyO t) c (tsh t))).length = m at *
        simp (maxSteps := 1000000) (disch := (first | assumption | exact ne_b rfl | omega)) only [↓reduceIte, ↓zlet_eq, ↓bdR_sI, ↓bdR_sJ, ↓bdR_aI, zc2_some, Option.bind_some, ↓si_m1, ↓si_m2, ↓si_m3, iI_lit, iI_add, iI_sub, iI_mul, leT, leF, ltT, ltF, eqT, eqF, zinT, clI, Int.toNat_natCast, Int.reduceToNat, tN1, tNa, tN0, tNm, if_pos, if_neg, zI_sI, zI_sJ, zI_sR, zJ_sI, zJ_sJ, zJ_sR, zR_sI, zR_sJ, zR_sR, zK_sI, zK_sJ, zK_sR, zL_sI, zL_sJ, zL_sR, zI_aI, zJ_aI, zR_aI, zK_aI, zL_aI, z2_at, z2_a, z2_k, z1_self, z1_ne, true_and, and_true, bIt, bIf, Bool.false_eq_true, Bool.true_eq_false, eq_self, not_true_eq_false, not_false_eq_true, sK76, sK77, sK78, sK79, sK80, sK81, sK82, sK83, sK84, sK85, sK86, sK87, sK88, sK89, sK90, sK91, sK92, sK93, sK94, sK95, sK96, sK97, sK98, sK99, sK100, sL77, sL78, sL79, sL80, sL81, sL82, sL83, sL84, sL85, sL86, sL87, sL88, sL89, sL90, sL91, sL92, sL93, sL94, sL95, sL96, sL97, sL98, sL99, sL100, sR76_5, sR76_16, sR76_18, sR76_19, sR76_20, sR76_21, sR76_23, sR76_25, sR76_26, sR76_27, sR76_28, sR76_29, sR76_30, sR76_31, sR76_32, sR76_33, sR76_34, sR76_37, sR76_38, sR76_39, sR76_40, sR76_41, sR76_42, ↓sB76_5, ↓sB76_16, ↓sB76_18, ↓sB76_19, ↓sB76_20, ↓sB76_21, ↓sB76_23, ↓sB76_25, ↓sB76_26, ↓sB76_27, ↓sB76_28, ↓sB76_29, ↓sB76_30, ↓sB76_31, ↓sB76_32, ↓sB76_33, ↓sB76_34, ↓sB76_37, ↓sB76_38, ↓sB76_39, ↓sB76_40, ↓sB76_41, ↓sB76_42, k2]
        rfl
      · rw [zI_sI, z2_k _ _ _ hj, zI_sI, z2_a _ _ _ _ (by decide), k1 j hj]
      · rw [zI_sI, z2_at, fl, eo, if_pos rfl, List.length_append]; rfl
      · rw [fl, eo, if_pos rfl] at hv
        rw [zI_sI, z2_a _ _ _ _ (by decide), zI_sI]
        by_cases cj : j < ((List.range c).filter (fun c => okc (tk t) (tsh t) (!anyO t) c (tsh t))).length
        · rw [List.getElem?_append_left cj] at hv
          rw [z2_k _ _ _ (by omega)]
          exact k3 j v hv
        · rw [List.getElem?_append_right (by omega)] at hv
          have hj0 : j - ((List.range c).filter (fun c => okc (tk t) (tsh t) (!anyO t) c (tsh t))).length = 0 := by
            cases hq : j - ((List.range c).filter (fun c => okc (tk t) (tsh t) (!anyO t) c (tsh t))).length with
            | zero => rfl
            | succ m => rw [hq] at hv; simp at hv
          rw [hj0] at hv
          have hv2 : c = v := by simpa using hv
          have hj1 : j = ((List.range c).filter (fun c => okc (tk t) (tsh t) (!anyO t) c (tsh t))).length := by omega
          rw [hj1, z2_at, hv2]
  · intro z ⟨h1, ez, fm, k1, k2, k3⟩
    subst ez
    have q1 := q.fm fm (by simp; omega)
    have s1 := s.fm fm
    have r31 : zR h1 76 3 = some tr := by rw [fm.R]; exact r3
    have hsh : iI 1 <<< (iI ((3 * tsh t : Nat) : Int) &&& iI 31) = iI ((2 ^ (3 * tsh t) : Nat) : Int) := si_one (by omega)
    have e3 : (3 : Int) * (tsh t : Int) = ((3 * tsh t : Nat) : Int) := by omega
    have hp0 : 0 < 2 ^ (3 * tsh t) := Nat.two_pow_pos _
    refine ⟨0, (iI ((2 ^ (3 * tsh t) : Nat) : Int), h1), ?_, rfl, fm, k1, k2, k3⟩
    show bX12_laysCodes_7 h 76 (iI ((2 ^ (3 * tsh t) : Nat) : Int)) h1 = _
    unfold bX12_laysCodes_7
    generalize 2 ^ (3 * tsh t) = P at *
    simp (maxSteps := 1000000) (disch := (first | assumption | exact ne_b rfl | omega)) only [↓reduceIte, ↓zlet_eq, ↓bdR_sI, ↓bdR_sJ, ↓bdR_aI, zc2_some, Option.bind_some, ↓si_m1, ↓si_m2, ↓si_m3, iI_lit, iI_add, iI_sub, iI_mul, leT, leF, ltT, ltF, eqT, eqF, zinT, clI, Int.toNat_natCast, Int.reduceToNat, tN1, tNa, tN0, tNm, if_pos, if_neg, zI_sI, zI_sJ, zI_sR, zJ_sI, zJ_sJ, zJ_sR, zR_sI, zR_sJ, zR_sR, zK_sI, zK_sJ, zK_sR, zL_sI, zL_sJ, zL_sR, zI_aI, zJ_aI, zR_aI, zK_aI, zL_aI, z2_at, z2_a, z2_k, z1_self, z1_ne, true_and, and_true, bIt, bIf, Bool.false_eq_true, Bool.true_eq_false, eq_self, not_true_eq_false, not_false_eq_true, sK76, sK77, sK78, sK79, sK80, sK81, sK82, sK83, sK84, sK85, sK86, sK87, sK88, sK89, sK90, sK91, sK92, sK93, sK94, sK95, sK96, sK97, sK98, sK99, sK100, sL77, sL78, sL79, sL80, sL81, sL82, sL83, sL84, sL85, sL86, sL87, sL88, sL89, sL90, sL91, sL92, sL93, sL94, sL95, sL96, sL97, sL98, sL99, sL100, sR76_5, sR76_16, sR76_18, sR76_19, sR76_20, sR76_21, sR76_23, sR76_25, sR76_26, sR76_27, sR76_28, sR76_29, sR76_30, sR76_31, sR76_32, sR76_33, sR76_34, sR76_37, sR76_38, sR76_39, sR76_40, sR76_41, sR76_42, ↓sB76_5, ↓sB76_16, ↓sB76_18, ↓sB76_19, ↓sB76_20, ↓sB76_21, ↓sB76_23, ↓sB76_25, ↓sB76_26, ↓sB76_27, ↓sB76_28, ↓sB76_29, ↓sB76_30, ↓sB76_31, ↓sB76_32, ↓sB76_33, ↓sB76_34, ↓sB76_37, ↓sB76_38, ↓sB76_39, ↓sB76_40, ↓sB76_41, ↓sB76_42, ↓bd_of r31, q.fK, q1.fK, q1.f0, q1.f1, q1.f2, q1.f3, q1.f4, q1.f7, q1.f8, q1.f9, e3, hsh]
