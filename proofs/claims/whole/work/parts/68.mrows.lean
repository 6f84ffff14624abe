/-! the model's rows: their cards, whether they fit -/
theorem uP_low {m d n : Nat} : ∀ c, c ≤ zfst (uP m d) n → c ≤ bsum m c + d
  | 0, _ => by omega
  | c + 1, h => by
    have ih := uP_low (m := m) (d := d) (n := n) c (by omega)
    have h1 := zfst_before (P := uP m d) (n := n) (i := c) (by omega)
    rw [bsum]
    cases e : m.testBit c
    · have : ¬ (c = bsum m c + d) := fun q => by
        have := uP_t.mpr ⟨e, q⟩
        rw [h1] at this
        cases this
      simp
      omega
    · simp
      omega
theorem bsum_s (m c : Nat) : bsum m (c + 1) = bsum m c + (if m.testBit c then 1 else 0) := rfl
theorem rowCards_in {m d n : Nat} {g h : Zh} (hm : m < 4096) (hn : n ≤ 12) (hd : d ≤ 12) (hu : zfst (uP m d) n < n) : lp (fun q : Int32 × Int32 × Zh => bX12_rowCards_96 g (iI m) q.1 q.2.1 q.2.2) zB (iI 0, iI d, h) = some (1, (iI (zfst (uP m d) n), iI 0, h)) := by
  have hat := uP_t.mp (zfst_at hu)
  refine lp_for0 (st := fun c => ((iI (c : Int), iI ((d : Int) - (c - bsum m c)), h) : Int32 × Int32 × Zh)) (e := 0) (zfst (uP m d) n) (by simp [bsum]) (by omega) ?_ ?_
  · intro c hc
    have h1 := zfst_before (P := uP m d) (n := n) (i := c) hc
    have h2 := uP_low (m := m) (d := d) (n := n) c (by omega)
    have h3 := bsum_c m c
    show bX12_rowCards_96 g (iI m) (iI c) (iI ((d : Int) - (c - bsum m c))) h = _
    unfold bX12_rowCards_96 jX12_rowCards_112
    cases e : m.testBit c
    · have h4 : ¬ (c = bsum m c + d) := fun q => by
        have := uP_t.mpr ⟨e, q⟩
        rw [h1] at this
        cases this
      simp (maxSteps := 1000000) (disch := (first | assumption | exact ne_b rfl | omega)) only [↓reduceIte, ↓zlet_eq, ↓bdR_sI, ↓bdR_sJ, ↓bdR_aI, zc2_some, Option.bind_some, ↓si_m1, ↓si_m2, ↓si_m3, iI_lit, iI_add, iI_sub, iI_mul, leT, leF, ltT, ltF, eqT, eqF, zinT, clI, Int.toNat_natCast, tN1, tNa, tN0, tNm, if_pos, if_neg, zI_sI, zI_sJ, zI_sR, zJ_sI, zJ_sJ, zJ_sR, zR_sI, zR_sJ, zR_sR, zK_sI, zK_sJ, zK_sR, zL_sI, zL_sJ, zL_sR, zI_aI, zJ_aI, zR_aI, zK_aI, zL_aI, z2_at, z2_a, z2_k, z1_self, z1_ne, true_and, and_true, bIt, bIf, Bool.false_eq_true, Bool.true_eq_false, eq_self, not_true_eq_false, not_false_eq_true, ↓si_bit1, ↓si_bit0, e, Bool.false_eq_true, if_false]
      rw [bsum_s, e]
      simp only [Bool.false_eq_true, if_false, Nat.add_zero]
      rw [show (d : Int) - ((c : Int) - (bsum m c : Nat)) + -1 = (d : Int) - (((c + 1 : Nat) : Int) - (bsum m c : Nat)) by omega]
      rfl
    · simp (maxSteps := 1000000) (disch := (first | assumption | exact ne_b rfl | omega)) only [↓reduceIte, ↓zlet_eq, ↓bdR_sI, ↓bdR_sJ, ↓bdR_aI, zc2_some, Option.bind_some, ↓si_m1, ↓si_m2, ↓si_m3, iI_lit, iI_add, iI_sub, iI_mul, leT, leF, ltT, ltF, eqT, eqF, zinT, clI, Int.toNat_natCast, tN1, tNa, tN0, tNm, if_pos, if_neg, zI_sI, zI_sJ, zI_sR, zJ_sI, zJ_sJ, zJ_sR, zR_sI, zR_sJ, zR_sR, zK_sI, zK_sJ, zK_sR, zL_sI, zL_sJ, zL_sR, zI_aI, zJ_aI, zR_aI, zK_aI, zL_aI, z2_at, z2_a, z2_k, z1_self, z1_ne, true_and, and_true, bIt, bIf, Bool.false_eq_true, Bool.true_eq_false, eq_self, not_true_eq_false, not_false_eq_true, ↓si_bit1, ↓si_bit0, e, if_true]
      rw [bsum_s, e]
      simp only [if_true]
      rw [show (d : Int) - ((c : Int) - (bsum m c : Nat)) = (d : Int) - (((c + 1 : Nat) : Int) - ((bsum m c + 1 : Nat) : Int)) by omega]
      rfl
  · have h3 := bsum_c m (zfst (uP m d) n)
    show bX12_rowCards_96 g (iI m) (iI (zfst (uP m d) n)) (iI ((d : Int) - ((zfst (uP m d) n : Nat) - bsum m (zfst (uP m d) n)))) h = _
    unfold bX12_rowCards_96
    rw [show (d : Int) - ((zfst (uP m d) n : Nat) - (bsum m (zfst (uP m d) n) : Nat)) = 0 by omega]
    simp (maxSteps := 1000000) (disch := (first | assumption | exact ne_b rfl | omega)) only [↓reduceIte, ↓zlet_eq, ↓bdR_sI, ↓bdR_sJ, ↓bdR_aI, zc2_some, Option.bind_some, ↓si_m1, ↓si_m2, ↓si_m3, iI_lit, iI_add, iI_sub, iI_mul, leT, leF, ltT, ltF, eqT, eqF, zinT, clI, Int.toNat_natCast, tN1, tNa, tN0, tNm, if_pos, if_neg, zI_sI, zI_sJ, zI_sR, zJ_sI, zJ_sJ, zJ_sR, zR_sI, zR_sJ, zR_sR, zK_sI, zK_sJ, zK_sR, zL_sI, zL_sJ, zL_sR, zI_aI, zJ_aI, zR_aI, zK_aI, zL_aI, z2_at, z2_a, z2_k, z1_self, z1_ne, true_and, and_true, bIt, bIf, Bool.false_eq_true, Bool.true_eq_false, eq_self, not_true_eq_false, not_false_eq_true, ↓si_bit1, hat.1]
def rcH (t : Tk) (q r2 : Nat) (h : Zh) : Zh := zaI (zaI h 81 (fun j => if tsh t - tsh t ≤ j ∧ j < tsh t then iI (dgt (tn t) (tsh t) (q / tT t) j) else zI h 81 j)) r2 (afill (tsh t) (fun j => iI (unp (tn t) (tsh t) (q / tT t) j)) (zI h r2))
theorem fX12_rowCards_eq {tr r2 q : Nat} {t : Tk} {h : Zh} (s : St h) (htr : 101 ≤ tr) (r3 : zR h 76 3 = some tr) (qt : Tr h tr t) (tok : Tok t) (k1 : zK h r2 = 100) (k2 : zL h r2 = 5) (hr2 : r2 ≠ 81) (hr3 : r2 < 101) (hq : q < 2147483648) : fX12_rowCards 76 (iI q) r2 h = some (rcH t q r2 h) := by
  obtain ⟨bn4, bn12, bu1, bu4, bnu, bk2, bk5, bkn, bp1, bp2, bpk, bH, bsp, bs1, bs4, bT1, bT16, bR1, bR2, bH1, bff, bff1⟩ := tok.b
  have ht81 : tr ≠ 81 := by omega
  have ht2 : tr ≠ r2 := by omega
  have hr81 : (81 : Nat) ≠ r2 := fun e => hr2 e.symm
  unfold fX12_rowCards
  simp (maxSteps := 1000000) (disch := (first | assumption | exact ne_b rfl | omega)) only [↓reduceIte, ↓zlet_eq, ↓bdR_sI, ↓bdR_sJ, ↓bdR_aI, zc2_some, Option.bind_some, ↓si_m1, ↓si_m2, ↓si_m3, iI_lit, iI_add, iI_sub, iI_mul, leT, leF, ltT, ltF, eqT, eqF, zinT, clI, Int.toNat_natCast, tN1, tNa, tN0, tNm, if_pos, if_neg, zI_sI, zI_sJ, zI_sR, zJ_sI, zJ_sJ, zJ_sR, zR_sI, zR_sJ, zR_sR, zK_sI, zK_sJ, zK_sR, zL_sI, zL_sJ, zL_sR, zI_aI, zJ_aI, zR_aI, zK_aI, zL_aI, z2_at, z2_a, z2_k, z1_self, z1_ne, true_and, and_true, bIt, bIf, Bool.false_eq_true, Bool.true_eq_false, eq_self, not_true_eq_false, not_false_eq_true, sK76, sK77, sK78, sK79, sK80, sK81, sK82, sK83, sK84, sK85, sK86, sK87, sK88, sK89, sK90, sK91, sK92, sK93, sK94, sK95, sK96, sK97, sK98, sK99, sK100, sL77, sL78, sL79, sL80, sL81, sL82, sL83, sL84, sL85, sL86, sL87, sL88, sL89, sL90, sL91, sL92, sL93, sL94, sL95, sL96, sL97, sL98, sL99, sL100, sR76_5, sR76_16, sR76_18, sR76_19, sR76_20, sR76_21, sR76_23, sR76_25, sR76_26, sR76_27, sR76_28, sR76_29, sR76_30, sR76_31, sR76_32, sR76_33, sR76_34, sR76_37, sR76_38, sR76_39, sR76_40, sR76_41, sR76_42, ↓sB76_5, ↓sB76_16, ↓sB76_18, ↓sB76_19, ↓sB76_20, ↓sB76_21, ↓sB76_23, ↓sB76_25, ↓sB76_26, ↓sB76_27, ↓sB76_28, ↓sB76_29, ↓sB76_30, ↓sB76_31, ↓sB76_32, ↓sB76_33, ↓sB76_34, ↓sB76_37, ↓sB76_38, ↓sB76_39, ↓sB76_40, ↓sB76_41, ↓sB76_42, ↓bd_of r3, qt.fK, qt.f0, qt.f1, qt.f2, qt.f3, qt.f4, qt.f7, qt.f8, qt.f9, fX11_tilts_eq qt tok, si_divN]
  have hqT : q / tT t < 2147483648 := Nat.lt_of_le_of_lt (Nat.div_le_self _ _) hq
  have hrs : ∀ x, rst (tn t) (tsh t) (q / tT t) x < 2147483648 := by
    intro x
    induction x with
    | zero => exact hqT
    | succ x ih => rw [rst]; exact Nat.lt_of_le_of_lt (Nat.div_le_self _ _) ih
  refine (lp_fb (st := fun x => ((iI (rst (tn t) (tsh t) (q / tT t) x), iI ((tsh t : Int) - 1 - x), zaI h 81 (fun j => if tsh t - x ≤ j ∧ j < tsh t then iI (dgt (tn t) (tsh t) (q / tT t) j) else zI h 81 j)) : Int32 × Int32 × Zh)) (e := 0) (s' := (iI (rst (tn t) (tsh t) (q / tT t) (tsh t)), iI (-1), zaI h 81 (fun j => if tsh t - tsh t ≤ j ∧ j < tsh t then iI (dgt (tn t) (tsh t) (q / tT t) j) else zI h 81 j))) (tsh t) ?_ (by omega) ?_ ?_).trans ?_
  · have e : (fun j => if tsh t - 0 ≤ j ∧ j < tsh t then iI (dgt (tn t) (tsh t) (q / tT t) j) else zI h 81 j) = zI h 81 := by
      funext j
      rw [if_neg (by omega)]
    simp only [e, zaI_self]
    simp [rst]
  · intro x hx
    show bX12_rowCards_27 h 76 81 (iI (rst (tn t) (tsh t) (q / tT t) x)) (iI ((tsh t : Int) - 1 - x)) (zaI h 81 _) = _
    unfold bX12_rowCards_27
    have hrt := hrs x
    have e1 : (tsh t : Int) - 1 - x = ((tsh t - 1 - x : Nat) : Int) := by omega
    have e2 : (tn t : Int) - ((tsh t - 1 - x : Nat) : Int) = ((tn t - (tsh t - 1 - x) : Nat) : Int) := by omega
    rw [e1]
    simp (maxSteps := 1000000) (disch := (first | assumption | exact ne_b rfl | omega)) only [↓reduceIte, ↓zlet_eq, ↓bdR_sI, ↓bdR_sJ, ↓bdR_aI, zc2_some, Option.bind_some, ↓si_m1, ↓si_m2, ↓si_m3, iI_lit, iI_add, iI_sub, iI_mul, leT, leF, ltT, ltF, eqT, eqF, zinT, clI, Int.toNat_natCast, tN1, tNa, tN0, tNm, if_pos, if_neg, zI_sI, zI_sJ, zI_sR, zJ_sI, zJ_sJ, zJ_sR, zR_sI, zR_sJ, zR_sR, zK_sI, zK_sJ, zK_sR, zL_sI, zL_sJ, zL_sR, zI_aI, zJ_aI, zR_aI, zK_aI, zL_aI, z2_at, z2_a, z2_k, z1_self, z1_ne, true_and, and_true, bIt, bIf, Bool.false_eq_true, Bool.true_eq_false, eq_self, not_true_eq_false, not_false_eq_true, sK76, sK77, sK78, sK79, sK80, sK81, sK82, sK83, sK84, sK85, sK86, sK87, sK88, sK89, sK90, sK91, sK92, sK93, sK94, sK95, sK96, sK97, sK98, sK99, sK100, sL77, sL78, sL79, sL80, sL81, sL82, sL83, sL84, sL85, sL86, sL87, sL88, sL89, sL90, sL91, sL92, sL93, sL94, sL95, sL96, sL97, sL98, sL99, sL100, sR76_5, sR76_16, sR76_18, sR76_19, sR76_20, sR76_21, sR76_23, sR76_25, sR76_26, sR76_27, sR76_28, sR76_29, sR76_30, sR76_31, sR76_32, sR76_33, sR76_34, sR76_37, sR76_38, sR76_39, sR76_40, sR76_41, sR76_42, ↓sB76_5, ↓sB76_16, ↓sB76_18, ↓sB76_19, ↓sB76_20, ↓sB76_21, ↓sB76_23, ↓sB76_25, ↓sB76_26, ↓sB76_27, ↓sB76_28, ↓sB76_29, ↓sB76_30, ↓sB76_31, ↓sB76_32, ↓sB76_33, ↓sB76_34, ↓sB76_37, ↓sB76_38, ↓sB76_39, ↓sB76_40, ↓sB76_41, ↓sB76_42, ↓bd_of r3, qt.fK, qt.f0, qt.f1, qt.f2, qt.f3, qt.f4, qt.f7, qt.f8, qt.f9, e2, si_divN, si_remN, zsI_aI]
    rw [show rst (tn t) (tsh t) (q / tT t) (x + 1) = rst (tn t) (tsh t) (q / tT t) x / (tn t - (tsh t - 1 - x)) from rfl, show ((tsh t - 1 - x : Nat) : Int) + -1 = (tsh t : Int) - 1 - ((x + 1 : Nat) : Int) by omega]
    congr 5
    funext j
    unfold z1
    dsimp only
    by_cases c : j = tsh t - 1 - x
    · rw [if_pos c, if_pos (by omega), c]
      unfold dgt
      rw [show tsh t - 1 - (tsh t - 1 - x) = x by omega]
    · rw [if_neg c]
      by_cases c2 : tsh t - x ≤ j ∧ j < tsh t
      · rw [if_pos c2, if_pos (by omega)]
      · rw [if_neg c2, if_neg (by omega)]
  · show bX12_rowCards_27 h 76 81 (iI (rst (tn t) (tsh t) (q / tT t) (tsh t))) (iI ((tsh t : Int) - 1 - tsh t)) _ = _
    unfold bX12_rowCards_27
    rw [show (tsh t : Int) - 1 - tsh t = -1 by omega]
    simp (maxSteps := 1000000) (disch := (first | assumption | exact ne_b rfl | omega)) only [↓reduceIte, ↓zlet_eq, ↓bdR_sI, ↓bdR_sJ, ↓bdR_aI, zc2_some, Option.bind_some, ↓si_m1, ↓si_m2, ↓si_m3, iI_lit, iI_add, iI_sub, iI_mul, leT, leF, ltT, ltF, eqT, eqF, zinT, clI, Int.toNat_natCast, tN1, tNa, tN0, tNm, if_pos, if_neg, zI_sI, zI_sJ, zI_sR, zJ_sI, zJ_sJ, zJ_sR, zR_sI, zR_sJ, zR_sR, zK_sI, zK_sJ, zK_sR, zL_sI, zL_sJ, zL_sR, zI_aI, zJ_aI, zR_aI, zK_aI, zL_aI, z2_at, z2_a, z2_k, z1_self, z1_ne, true_and, and_true, bIt, bIf, Bool.false_eq_true, Bool.true_eq_false, eq_self, not_true_eq_false, not_false_eq_true]
  · show kX12_rowCards_27 h 76 r2 81 1 _ _ _ = _
    unfold kX12_rowCards_27
    simp (maxSteps := 1000000) (disch := (first | assumption | exact ne_b rfl | omega)) only [↓reduceIte, ↓zlet_eq, ↓bdR_sI, ↓bdR_sJ, ↓bdR_aI, zc2_some, Option.bind_some, ↓si_m1, ↓si_m2, ↓si_m3, iI_lit, iI_add, iI_sub, iI_mul, leT, leF, ltT, ltF, eqT, eqF, zinT, clI, Int.toNat_natCast, tN1, tNa, tN0, tNm, if_pos, if_neg, zI_sI, zI_sJ, zI_sR, zJ_sI, zJ_sJ, zJ_sR, zR_sI, zR_sJ, zR_sR, zK_sI, zK_sJ, zK_sR, zL_sI, zL_sJ, zL_sR, zI_aI, zJ_aI, zR_aI, zK_aI, zL_aI, z2_at, z2_a, z2_k, z1_self, z1_ne, true_and, and_true, bIt, bIf, Bool.false_eq_true, Bool.true_eq_false, eq_self, not_true_eq_false, not_false_eq_true]
    refine (lp_fb (st := fun x => ((iI (umask (tn t) (dgt (tn t) (tsh t) (q / tT t)) x), iI (x : Int), zaI (zaI h 81 (fun j => if tsh t - tsh t ≤ j ∧ j < tsh t then iI (dgt (tn t) (tsh t) (q / tT t) j) else zI h 81 j)) r2 (afill x (fun j => iI (unp (tn t) (tsh t) (q / tT t) j)) (zI h r2))) : Int32 × Int32 × Zh)) (e := 0) (s' := (iI (umask (tn t) (dgt (tn t) (tsh t) (q / tT t)) (tsh t)), iI (tsh t), rcH t q r2 h)) (tsh t) ?_ (by omega) ?_ ?_).trans rfl
    · have e : zI h r2 = zI (zaI h 81 (fun j => if tsh t - tsh t ≤ j ∧ j < tsh t then iI (dgt (tn t) (tsh t) (q / tT t) j) else zI h 81 j)) r2 := by
        rw [zI_aI, z1_ne _ _ hr2]
      rw [e, zaI_f0]
      rfl
    · intro x hx
      show bX12_rowCards_74 h 76 r2 81 (iI (umask (tn t) (dgt (tn t) (tsh t) (q / tT t)) x)) (iI x) (zaI _ r2 _) = _
      obtain ⟨g1, g2⟩ := unp_ok (n := tn t) (sh := tsh t) (q := q / tT t) (by omega)
      have hm : umask (tn t) (dgt (tn t) (tsh t) (q / tT t)) x < 4096 := by
        rw [← umask_f]
        exact fmask_lt (N := 12) x (fun j hj => by have := g2 j (by omega); unfold unp at this; omega)
      have hdl := dgt_lt (n := tn t) (sh := tsh t) (q := q / tT t) (i := x) (by omega)
      have hul := g2 x hx
      unfold bX12_rowCards_74
      simp (maxSteps := 1000000) (disch := (first | assumption | exact ne_b rfl | omega)) only [↓reduceIte, ↓zlet_eq, ↓bdR_sI, ↓bdR_sJ, ↓bdR_aI, zc2_some, Option.bind_some, ↓si_m1, ↓si_m2, ↓si_m3, iI_lit, iI_add, iI_sub, iI_mul, leT, leF, ltT, ltF, eqT, eqF, zinT, clI, Int.toNat_natCast, tN1, tNa, tN0, tNm, if_pos, if_neg, zI_sI, zI_sJ, zI_sR, zJ_sI, zJ_sJ, zJ_sR, zR_sI, zR_sJ, zR_sR, zK_sI, zK_sJ, zK_sR, zL_sI, zL_sJ, zL_sR, zI_aI, zJ_aI, zR_aI, zK_aI, zL_aI, z2_at, z2_a, z2_k, z1_self, z1_ne, true_and, and_true, bIt, bIf, Bool.false_eq_true, Bool.true_eq_false, eq_self, not_true_eq_false, not_false_eq_true, sK76, sK77, sK78, sK79, sK80, sK81, sK82, sK83, sK84, sK85, sK86, sK87, sK88, sK89, sK90, sK91, sK92, sK93, sK94, sK95, sK96, sK97, sK98, sK99, sK100, sL77, sL78, sL79, sL80, sL81, sL82, sL83, sL84, sL85, sL86, sL87, sL88, sL89, sL90, sL91, sL92, sL93, sL94, sL95, sL96, sL97, sL98, sL99, sL100, sR76_5, sR76_16, sR76_18, sR76_19, sR76_20, sR76_21, sR76_23, sR76_25, sR76_26, sR76_27, sR76_28, sR76_29, sR76_30, sR76_31, sR76_32, sR76_33, sR76_34, sR76_37, sR76_38, sR76_39, sR76_40, sR76_41, sR76_42, ↓sB76_5, ↓sB76_16, ↓sB76_18, ↓sB76_19, ↓sB76_20, ↓sB76_21, ↓sB76_23, ↓sB76_25, ↓sB76_26, ↓sB76_27, ↓sB76_28, ↓sB76_29, ↓sB76_30, ↓sB76_31, ↓sB76_32, ↓sB76_33, ↓sB76_34, ↓sB76_37, ↓sB76_38, ↓sB76_39, ↓sB76_40, ↓sB76_41, ↓sB76_42, ↓bd_of r3, qt.fK, qt.f0, qt.f1, qt.f2, qt.f3, qt.f4, qt.f7, qt.f8, qt.f9]
      refine (lp_bd (rowCards_in (n := tn t) hm bn12 (by omega) hul)).trans ?_
      show kX12_rowCards_96 h 76 r2 81 _ (iI x) 1 (iI (unp (tn t) (tsh t) (q / tT t) x)) (iI 0) _ = _
      unfold kX12_rowCards_96
      simp (maxSteps := 1000000) (disch := (first | assumption | exact ne_b rfl | omega)) only [↓reduceIte, ↓zlet_eq, ↓bdR_sI, ↓bdR_sJ, ↓bdR_aI, zc2_some, Option.bind_some, ↓si_m1, ↓si_m2, ↓si_m3, iI_lit, iI_add, iI_sub, iI_mul, leT, leF, ltT, ltF, eqT, eqF, zinT, clI, Int.toNat_natCast, tN1, tNa, tN0, tNm, if_pos, if_neg, zI_sI, zI_sJ, zI_sR, zJ_sI, zJ_sJ, zJ_sR, zR_sI, zR_sJ, zR_sR, zK_sI, zK_sJ, zK_sR, zL_sI, zL_sJ, zL_sR, zI_aI, zJ_aI, zR_aI, zK_aI, zL_aI, z2_at, z2_a, z2_k, z1_self, z1_ne, true_and, and_true, bIt, bIf, Bool.false_eq_true, Bool.true_eq_false, eq_self, not_true_eq_false, not_false_eq_true, k1, k2, si_one, iI_or, zsI_aI]
      rw [afill_s rfl]
      rfl
    · show bX12_rowCards_74 h 76 r2 81 _ (iI (tsh t)) _ = _
      unfold bX12_rowCards_74
      simp (maxSteps := 1000000) (disch := (first | assumption | exact ne_b rfl | omega)) only [↓reduceIte, ↓zlet_eq, ↓bdR_sI, ↓bdR_sJ, ↓bdR_aI, zc2_some, Option.bind_some, ↓si_m1, ↓si_m2, ↓si_m3, iI_lit, iI_add, iI_sub, iI_mul, leT, leF, ltT, ltF, eqT, eqF, zinT, clI, Int.toNat_natCast, tN1, tNa, tN0, tNm, if_pos, if_neg, zI_sI, zI_sJ, zI_sR, zJ_sI, zJ_sJ, zJ_sR, zR_sI, zR_sJ, zR_sR, zK_sI, zK_sJ, zK_sR, zL_sI, zL_sJ, zL_sR, zI_aI, zJ_aI, zR_aI, zK_aI, zL_aI, z2_at, z2_a, z2_k, z1_self, z1_ne, true_and, and_true, bIt, bIf, Bool.false_eq_true, Bool.true_eq_false, eq_self, not_true_eq_false, not_false_eq_true, sK76, sK77, sK78, sK79, sK80, sK81, sK82, sK83, sK84, sK85, sK86, sK87, sK88, sK89, sK90, sK91, sK92, sK93, sK94, sK95, sK96, sK97, sK98, sK99, sK100, sL77, sL78, sL79, sL80, sL81, sL82, sL83, sL84, sL85, sL86, sL87, sL88, sL89, sL90, sL91, sL92, sL93, sL94, sL95, sL96, sL97, sL98, sL99, sL100, sR76_5, sR76_16, sR76_18, sR76_19, sR76_20, sR76_21, sR76_23, sR76_25, sR76_26, sR76_27, sR76_28, sR76_29, sR76_30, sR76_31, sR76_32, sR76_33, sR76_34, sR76_37, sR76_38, sR76_39, sR76_40, sR76_41, sR76_42, ↓sB76_5, ↓sB76_16, ↓sB76_18, ↓sB76_19, ↓sB76_20, ↓sB76_21, ↓sB76_23, ↓sB76_25, ↓sB76_26, ↓sB76_27, ↓sB76_28, ↓sB76_29, ↓sB76_30, ↓sB76_31, ↓sB76_32, ↓sB76_33, ↓sB76_34, ↓sB76_37, ↓sB76_38, ↓sB76_39, ↓sB76_40, ↓sB76_41, ↓sB76_42, ↓bd_of r3, qt.fK, qt.f0, qt.f1, qt.f2, qt.f3, qt.f4, qt.f7, qt.f8, qt.f9]
      rfl
theorem rcH_fm (t : Tk) (q r2 : Nat) (h : Zh) : Fm [81, r2] h (rcH t q r2 h) := (Fm_aI _ _ (by simp)).tr (Fm_aI _ _ (by simp))
theorem rcH_at {t : Tk} {q r2 j : Nat} {h : Zh} (hj : j < tsh t) : zI (rcH t q r2 h) r2 j = iI (unp (tn t) (tsh t) (q / tT t) j) := by
  unfold rcH
  rw [zI_aI, z1_self, afill_lt hj]
/-! fitting -/
theorem zfst_sh {P : Nat → Bool} {n : Nat} (h : P 0 = false) : zfst P (n + 1) = zfst (fun j => P (j + 1)) n + 1 := by
  obtain ⟨g1, g2, g3⟩ := zfst_all (fun j => P (j + 1)) n
  refine zfst_eq (by omega) (fun i hi => ?_) (fun hi => g3 (by omega))
  cases i with
  | zero => exact h
  | succ i => exact g2 i (by omega)
theorem zfst_congr {P Q : Nat → Bool} {n : Nat} (h : ∀ i, i < n → P i = Q i) : zfst P n = zfst Q n := by
  obtain ⟨g1, g2, g3⟩ := zfst_all Q n
  exact zfst_eq g1 (fun i hi => by rw [h i (by omega)]; exact g2 i hi) (fun hi => by rw [h _ hi]; exact g3 hi)
theorem pli_skip {c : Nat → Nat} {x f k : Nat} (hf : f < k) (hx : c f ≠ x) : f + pli c x f k = f + 1 + pli c x (f + 1) k := by
  unfold pli
  obtain ⟨m, hm⟩ : ∃ m, k - f = m + 1 := ⟨k - f - 1, by omega⟩
  rw [hm, zfst_sh (by simp [hx]), show k - (f + 1) = m by omega]
  have : zfst (fun j => decide (c (f + (j + 1)) = x)) m = zfst (fun j => decide (c (f + 1 + j) = x)) m := zfst_congr (fun i _ => by rw [show f + (i + 1) = f + 1 + i by omega])
  rw [this]
  omega
theorem pli_le (c : Nat → Nat) (x f k : Nat) : pli c x f k ≤ k - f := zfst_le _ _
theorem pli_at {c : Nat → Nat} {x f k : Nat} (h : pli c x f k < k - f) : c (f + pli c x f k) = x := of_decide_eq_true (zfst_at (P := fun j => decide (c (f + j) = x)) h)
theorem pli_congr {c d : Nat → Nat} {x f k : Nat} (h : ∀ i, i < k → c i = d i) : pli c x f k = pli d x f k := zfst_congr (fun i hi => by rw [h _ (by omega)])
theorem frm_congr {st : Bool} {c d w v : Nat → Nat} {k : Nat} (h : ∀ i, i < k → c i = d i) : ∀ i, (∀ j, j < i → w j = v j) → frm st c w k i = frm st d v k i
  | 0, _ => rfl
  | i + 1, h2 => by
    rw [frm, frm, frm_congr h i (fun j hj => h2 j (by omega)), h2 i (by omega), pli_congr h]
theorem unfit_congr {st hd : Bool} {c d w v : Nat → Nat} {k : Nat} (h : ∀ i, i < k → c i = d i) {i : Nat} (h2 : ∀ j, j ≤ i → w j = v j) : unfit st hd c w k i = unfit st hd d v k i := by
  unfold unfit frs
  rw [frm_congr h i (fun j hj => h2 j (by omega)), h2 i (by omega), h2 (i - 1) (by omega), pli_congr h]
/-- where the model's search of a stranger's hand stands -/
def mfr (st : Bool) (c w : Nat → Nat) (k : Nat) : Nat → Nat
  | 0 => 0
  | i + 1 => if st then mfr st c w k i + pli c (w i) (mfr st c w k i) k else mfr st c w k i
theorem mfr_ok {hd : Bool} {c w : Nat → Nat} {k sh : Nat} (hd2 : dst w sh) : ∀ i, i < sh → (∀ j, j ≤ i → unfit true hd c w k j = false) → mfr true c w k (i + 1) + 1 = frm true c w k (i + 1) ∧ c (mfr true c w k (i + 1)) = w i ∧ mfr true c w k (i + 1) < k
  | 0, _, h => by
    have h0 := h 0 (Nat.le_refl _)
    unfold unfit frs at h0
    simp [frm] at h0
    have e := pli_at (c := c) (x := w 0) (f := 0) (k := k) (by omega)
    rw [mfr, if_pos rfl, mfr, frm, if_pos rfl, frm]
    simp only [Nat.zero_add] at e ⊢
    exact ⟨trivial, e, by omega⟩
  | i + 1, hi, h => by
    obtain ⟨i1, i2, i3⟩ := mfr_ok hd2 i (by omega) (fun j hj => h j (by omega))
    have h0 := h (i + 1) (Nat.le_refl _)
    unfold unfit frs at h0
    simp at h0
    have h0 := h0.1
    have hsk := pli_skip (c := c) (x := w (i + 1)) (f := mfr true c w k (i + 1)) (k := k) i3 (by rw [i2]; exact hd2 i (i + 1) (by omega) hi)
    rw [i1] at hsk
    have e := pli_at (c := c) (x := w (i + 1)) (f := frm true c w k (i + 1)) (k := k) h0
    rw [mfr, if_pos rfl, frm, if_pos rfl, hsk]
    exact ⟨rfl, e, by omega⟩
theorem mfr_f {c w : Nat → Nat} {k : Nat} : ∀ i, mfr false c w k i = 0
  | 0 => rfl
  | i + 1 => by rw [mfr, if_neg (by decide), mfr_f i]
noncomputable def munf (t : Tk) (x : Nat) (w : Nat → Nat) (i : Nat) : Bool := !hasC t x (w i) || (thd t && decide (0 < i) && decide (w i < w (i - 1))) || (tst t && !decide (mfr (tst t) (hc t x) w (tk t) i + pli (hc t x) (w i) (mfr (tst t) (hc t x) w (tk t) i) (tk t) < tk t))
theorem hasC_pli {t : Tk} {x y : Nat} : hasC t x y = decide (pli (hc t x) y 0 (tk t) < tk t - 0) := by
  have := zfst_mask (w := hc t x) (x := y) (a := tk t)
  unfold hasC pli
  simp only [Nat.zero_add, Nat.sub_zero]
  cases e : (fmask (hc t x) (tk t)).testBit y
  · symm; rw [decide_eq_false_iff_not, this, e]; decide
  · symm; rw [decide_eq_true_iff, this, e]
theorem pli_has {t : Tk} {x y f : Nat} (h : pli (hc t x) y f (tk t) < tk t - f) : hasC t x y = true := by
  unfold hasC
  exact (fmask_bit _ _ _).mpr ⟨f + pli (hc t x) y f (tk t), by omega, pli_at h⟩
theorem munf_eq {t : Tk} {x : Nat} {w : Nat → Nat} (hd : dst w (tsh t)) {i : Nat} (hi : i < tsh t) (h : ∀ j, j < i → unfit (tst t) (thd t) (hc t x) w (tk t) j = false) : munf t x w i = unfit (tst t) (thd t) (hc t x) w (tk t) i := by
  unfold munf unfit frs
  cases e : tst t
  · simp only [Bool.false_and, Bool.or_false, Bool.false_eq_true, if_false]
    rw [hasC_pli]
  · rw [e] at h
    simp only [if_true, Bool.true_and]
    have key : mfr true (hc t x) w (tk t) i + pli (hc t x) (w i) (mfr true (hc t x) w (tk t) i) (tk t) = frm true (hc t x) w (tk t) i + pli (hc t x) (w i) (frm true (hc t x) w (tk t) i) (tk t) ∧ frm true (hc t x) w (tk t) i ≤ tk t := by
      refine ⟨?_, frs_le i h⟩
      cases i with
      | zero => rfl
      | succ i =>
        obtain ⟨i1, i2, i3⟩ := mfr_ok hd i (by omega) (fun j hj => h j (by omega))
        have hsk := pli_skip (c := hc t x) (x := w (i + 1)) (f := mfr true (hc t x) w (tk t) (i + 1)) (k := tk t) i3 (by rw [i2]; exact hd i (i + 1) (by omega) hi)
        rw [i1] at hsk
        exact hsk
    rw [key.1]
    by_cases c : pli (hc t x) (w i) (frm true (hc t x) w (tk t) i) (tk t) < tk t - frm true (hc t x) w (tk t) i
    · rw [pli_has c, decide_eq_true (show frm true (hc t x) w (tk t) i + pli (hc t x) (w i) (frm true (hc t x) w (tk t) i) (tk t) < tk t by omega), decide_eq_true c]
      simp
    · rw [decide_eq_false (show ¬ frm true (hc t x) w (tk t) i + pli (hc t x) (w i) (frm true (hc t x) w (tk t) i) (tk t) < tk t by omega), decide_eq_false c]
      simp
noncomputable def fitB (t : Tk) (x r : Nat) : Bool := decide (¬ zfst (unfit (tst t) (thd t) (hc t x) (unp (tn t) (tsh t) (r / tT t)) (tk t)) (tsh t) < tsh t)
theorem zfst_seq {P Q : Nat → Bool} {n : Nat} (h : ∀ i, i < n → (∀ j, j < i → Q j = false) → P i = Q i) : zfst P n = zfst Q n := by
  obtain ⟨g1, g2, g3⟩ := zfst_all Q n
  exact zfst_eq g1 (fun i hi => by rw [h i (by omega) (fun j hj => g2 j (by omega))]; exact g2 i hi) (fun hi => by rw [h _ hi g2]; exact g3 hi)
theorem rowFits_in {tr i fr : Nat} {t : Tk} {x : Nat} {w : Nat → Nat} {g h : Zh} (sg : St g) (s : St h) (r3 : zR h 76 3 = some tr) (qg : zK g tr = 11) (q : Tr h tr t) (cd : Cd h t) (tok : Tok t) (hx : x < tH t) (hi : i < tsh t) (hfr : fr ≤ tk t) (hw : zI h 80 i = iI (w i)) (hw2 : w i < tn t) : lp (fun q : Int32 × Zh => bX12_rowFits_90 g 76 (iI x) (iI i) q.1 q.2) zB (iI fr, h) = some (1, (iI ((fr + pli (hc t x) (w i) fr (tk t) : Nat) : Int), h)) := by
  obtain ⟨bn4, bn12, bu1, bu4, bnu, bk2, bk5, bkn, bp1, bp2, bpk, bH, bsp, bs1, bs4, bT1, bT16, bR1, bR2, bH1, bff, bff1⟩ := tok.b
  have hpl := pli_le (hc t x) (w i) fr (tk t)
  refine lp_for0 (st := fun j => ((iI ((fr + j : Nat) : Int), h) : Int32 × Zh)) (e := 0) (pli (hc t x) (w i) fr (tk t)) rfl (by omega) ?_ ?_
  · intro j hj
    show bX12_rowFits_90 g 76 (iI x) (iI i) (iI ((fr + j : Nat) : Int)) h = _
    unfold bX12_rowFits_90
    have h1 : ¬ (hc t x (fr + j) = w i) := of_decide_eq_false (zfst_before (P := fun j => decide (hc t x (fr + j) = w i)) hj)
    have h2 := hc_lt tok hx (show fr + j < tk t by omega)
    simp (maxSteps := 1000000) (disch := (first | assumption | exact ne_b rfl | omega)) only [↓reduceIte, ↓zlet_eq, ↓bdR_sI, ↓bdR_sJ, ↓bdR_aI, zc2_some, Option.bind_some, ↓si_m1, ↓si_m2, ↓si_m3, iI_lit, iI_add, iI_sub, iI_mul, leT, leF, ltT, ltF, eqT, eqF, zinT, clI, Int.toNat_natCast, tN1, tNa, tN0, tNm, if_pos, if_neg, zI_sI, zI_sJ, zI_sR, zJ_sI, zJ_sJ, zJ_sR, zR_sI, zR_sJ, zR_sR, zK_sI, zK_sJ, zK_sR, zL_sI, zL_sJ, zL_sR, zI_aI, zJ_aI, zR_aI, zK_aI, zL_aI, z2_at, z2_a, z2_k, z1_self, z1_ne, true_and, and_true, bIt, bIf, Bool.false_eq_true, Bool.true_eq_false, eq_self, not_true_eq_false, not_false_eq_true, sK76, sK77, sK78, sK79, sK80, sK81, sK82, sK83, sK84, sK85, sK86, sK87, sK88, sK89, sK90, sK91, sK92, sK93, sK94, sK95, sK96, sK97, sK98, sK99, sK100, sL77, sL78, sL79, sL80, sL81, sL82, sL83, sL84, sL85, sL86, sL87, sL88, sL89, sL90, sL91, sL92, sL93, sL94, sL95, sL96, sL97, sL98, sL99, sL100, sR76_5, sR76_16, sR76_18, sR76_19, sR76_20, sR76_21, sR76_23, sR76_25, sR76_26, sR76_27, sR76_28, sR76_29, sR76_30, sR76_31, sR76_32, sR76_33, sR76_34, sR76_37, sR76_38, sR76_39, sR76_40, sR76_41, sR76_42, ↓sB76_5, ↓sB76_16, ↓sB76_18, ↓sB76_19, ↓sB76_20, ↓sB76_21, ↓sB76_23, ↓sB76_25, ↓sB76_26, ↓sB76_27, ↓sB76_28, ↓sB76_29, ↓sB76_30, ↓sB76_31, ↓sB76_32, ↓sB76_33, ↓sB76_34, ↓sB76_37, ↓sB76_38, ↓sB76_39, ↓sB76_40, ↓sB76_41, ↓sB76_42, ↓bd_of r3, qg, q.fK, q.f0, q.f1, q.f2, q.f3, q.f4, q.f7, q.f8, q.f9, ↓zc_of (fX12_cardOf_eq s cd tok hx (show fr + j < tk t by omega)), hw]
    rfl
  · show bX12_rowFits_90 g 76 (iI x) (iI i) (iI ((fr + pli (hc t x) (w i) fr (tk t) : Nat) : Int)) h = _
    unfold bX12_rowFits_90
    by_cases c : pli (hc t x) (w i) fr (tk t) < tk t - fr
    · have h1 := pli_at c
      have h2 := hc_lt tok hx (show fr + pli (hc t x) (w i) fr (tk t) < tk t by omega)
      simp (maxSteps := 1000000) (disch := (first | assumption | exact ne_b rfl | omega)) only [↓reduceIte, ↓zlet_eq, ↓bdR_sI, ↓bdR_sJ, ↓bdR_aI, zc2_some, Option.bind_some, ↓si_m1, ↓si_m2, ↓si_m3, iI_lit, iI_add, iI_sub, iI_mul, leT, leF, ltT, ltF, eqT, eqF, zinT, clI, Int.toNat_natCast, tN1, tNa, tN0, tNm, if_pos, if_neg, zI_sI, zI_sJ, zI_sR, zJ_sI, zJ_sJ, zJ_sR, zR_sI, zR_sJ, zR_sR, zK_sI, zK_sJ, zK_sR, zL_sI, zL_sJ, zL_sR, zI_aI, zJ_aI, zR_aI, zK_aI, zL_aI, z2_at, z2_a, z2_k, z1_self, z1_ne, true_and, and_true, bIt, bIf, Bool.false_eq_true, Bool.true_eq_false, eq_self, not_true_eq_false, not_false_eq_true, sK76, sK77, sK78, sK79, sK80, sK81, sK82, sK83, sK84, sK85, sK86, sK87, sK88, sK89, sK90, sK91, sK92, sK93, sK94, sK95, sK96, sK97, sK98, sK99, sK100, sL77, sL78, sL79, sL80, sL81, sL82, sL83, sL84, sL85, sL86, sL87, sL88, sL89, sL90, sL91, sL92, sL93, sL94, sL95, sL96, sL97, sL98, sL99, sL100, sR76_5, sR76_16, sR76_18, sR76_19, sR76_20, sR76_21, sR76_23, sR76_25, sR76_26, sR76_27, sR76_28, sR76_29, sR76_30, sR76_31, sR76_32, sR76_33, sR76_34, sR76_37, sR76_38, sR76_39, sR76_40, sR76_41, sR76_42, ↓sB76_5, ↓sB76_16, ↓sB76_18, ↓sB76_19, ↓sB76_20, ↓sB76_21, ↓sB76_23, ↓sB76_25, ↓sB76_26, ↓sB76_27, ↓sB76_28, ↓sB76_29, ↓sB76_30, ↓sB76_31, ↓sB76_32, ↓sB76_33, ↓sB76_34, ↓sB76_37, ↓sB76_38, ↓sB76_39, ↓sB76_40, ↓sB76_41, ↓sB76_42, ↓bd_of r3, qg, q.fK, q.f0, q.f1, q.f2, q.f3, q.f4, q.f7, q.f8, q.f9, ↓zc_of (fX12_cardOf_eq s cd tok hx (show fr + pli (hc t x) (w i) fr (tk t) < tk t by omega)), hw]
    · simp (maxSteps := 1000000) (disch := (first | assumption | exact ne_b rfl | omega)) only [↓reduceIte, ↓zlet_eq, ↓bdR_sI, ↓bdR_sJ, ↓bdR_aI, zc2_some, Option.bind_some, ↓si_m1, ↓si_m2, ↓si_m3, iI_lit, iI_add, iI_sub, iI_mul, leT, leF, ltT, ltF, eqT, eqF, zinT, clI, Int.toNat_natCast, tN1, tNa, tN0, tNm, if_pos, if_neg, zI_sI, zI_sJ, zI_sR, zJ_sI, zJ_sJ, zJ_sR, zR_sI, zR_sJ, zR_sR, zK_sI, zK_sJ, zK_sR, zL_sI, zL_sJ, zL_sR, zI_aI, zJ_aI, zR_aI, zK_aI, zL_aI, z2_at, z2_a, z2_k, z1_self, z1_ne, true_and, and_true, bIt, bIf, Bool.false_eq_true, Bool.true_eq_false, eq_self, not_true_eq_false, not_false_eq_true, sK76, sK77, sK78, sK79, sK80, sK81, sK82, sK83, sK84, sK85, sK86, sK87, sK88, sK89, sK90, sK91, sK92, sK93, sK94, sK95, sK96, sK97, sK98, sK99, sK100, sL77, sL78, sL79, sL80, sL81, sL82, sL83, sL84, sL85, sL86, sL87, sL88, sL89, sL90, sL91, sL92, sL93, sL94, sL95, sL96, sL97, sL98, sL99, sL100, sR76_5, sR76_16, sR76_18, sR76_19, sR76_20, sR76_21, sR76_23, sR76_25, sR76_26, sR76_27, sR76_28, sR76_29, sR76_30, sR76_31, sR76_32, sR76_33, sR76_34, sR76_37, sR76_38, sR76_39, sR76_40, sR76_41, sR76_42, ↓sB76_5, ↓sB76_16, ↓sB76_18, ↓sB76_19, ↓sB76_20, ↓sB76_21, ↓sB76_23, ↓sB76_25, ↓sB76_26, ↓sB76_27, ↓sB76_28, ↓sB76_29, ↓sB76_30, ↓sB76_31, ↓sB76_32, ↓sB76_33, ↓sB76_34, ↓sB76_37, ↓sB76_38, ↓sB76_39, ↓sB76_40, ↓sB76_41, ↓sB76_42, ↓bd_of r3, qg, q.fK, q.f0, q.f1, q.f2, q.f3, q.f4, q.f7, q.f8, q.f9]
theorem mfr_le {t : Tk} {x : Nat} {w : Nat → Nat} : ∀ i, mfr (tst t) (hc t x) w (tk t) i ≤ tk t
  | 0 => by simp [mfr]
  | i + 1 => by
    have ih := mfr_le (t := t) (x := x) (w := w) i
    have := pli_le (hc t x) (w i) (mfr (tst t) (hc t x) w (tk t) i) (tk t)
    rw [mfr]
    split <;> omega
theorem rowFits_j {tr i : Nat} {t : Tk} {x : Nat} {w : Nat → Nat} {g h : Zh} (sg : St g) (s : St h) (r3 : zR h 76 3 = some tr) (qg : zK g tr = 11) (q : Tr h tr t) (cd : Cd h t) (tok : Tok t) (hx : x < tH t) (hi : i < tsh t) (hw1 : zI h 80 i = iI (w i)) (hw2 : w i < tn t) : jX12_rowFits_77 g 76 (iI x) (iI (mfr (tst t) (hc t x) w (tk t) i)) (iI i) h = if (tst t && !decide (mfr (tst t) (hc t x) w (tk t) i + pli (hc t x) (w i) (mfr (tst t) (hc t x) w (tk t) i) (tk t) < tk t)) = true then some (2, (iI (tk t), iI i, h)) else some (0, (iI (mfr (tst t) (hc t x) w (tk t) (i + 1)), iI ((i + 1 : Nat) : Int), h)) := by
  obtain ⟨bn4, bn12, bu1, bu4, bnu, bk2, bk5, bkn, bp1, bp2, bpk, bH, bsp, bs1, bs4, bT1, bT16, bR1, bR2, bH1, bff, bff1⟩ := tok.b
  have hml := mfr_le (t := t) (x := x) (w := w) i
  have hpl := pli_le (hc t x) (w i) (mfr (tst t) (hc t x) w (tk t) i) (tk t)
  have q7 := q.f7
  unfold jX12_rowFits_77
  rw [bd_of r3, if_pos qg, q7]
  cases e : tst t
  · rw [if_pos (show iI (bI false) = 0 from rfl), zlet_eq, mfr_f, mfr_f, iI_lit, iI_add]
    rfl
  · rw [e] at hml hpl
    rw [if_neg (show ¬ iI (bI true) = 0 by decide)]
    refine (lp_bd (rowFits_in (fr := mfr true (hc t x) w (tk t) i) sg s r3 qg q cd tok hx hi hml hw1 hw2)).trans ?_
    show kX12_rowFits_90 g 76 (iI x) (iI i) 1 (iI ((mfr true (hc t x) w (tk t) i + pli (hc t x) (w i) (mfr true (hc t x) w (tk t) i) (tk t) : Nat) : Int)) h = _
    unfold kX12_rowFits_90
    rw [bd_of r3, if_pos qg, q.f2]
    by_cases c : mfr true (hc t x) w (tk t) i + pli (hc t x) (w i) (mfr true (hc t x) w (tk t) i) (tk t) < tk t
    · rw [decide_eq_true c, if_neg (by rw [iI_eq ⟨by omega, by omega⟩ ⟨by omega, by omega⟩]; omega), if_neg (by decide), zlet_eq, iI_lit, iI_add, mfr, if_pos rfl]
      rfl
    · have c2 : mfr true (hc t x) w (tk t) i + pli (hc t x) (w i) (mfr true (hc t x) w (tk t) i) (tk t) = tk t := by omega
      rw [decide_eq_false c, c2, if_pos rfl, if_pos (by decide)]
theorem rowFits_b {tr i : Nat} {t : Tk} {x : Nat} {w : Nat → Nat} {g h : Zh} (sg : St g) (s : St h) (r3 : zR h 76 3 = some tr) (qg : zK g tr = 11) (q : Tr h tr t) (cd : Cd h t) (tok : Tok t) (hx : x < tH t) (hi : i < tsh t) (hw : ∀ j, j < tsh t → zI h 80 j = iI (w j) ∧ w j < tn t) : ∃ e y, (e = 0 ∨ e = 1) ∧ bX12_rowFits_14 g 76 (iI x) (iI (mfr (tst t) (hc t x) w (tk t) i)) (iI i) h = if munf t x w i = true then some (e + 1, (y, iI i, h)) else some (0, (iI (mfr (tst t) (hc t x) w (tk t) (i + 1)), iI ((i + 1 : Nat) : Int), h)) := by
  obtain ⟨bn4, bn12, bu1, bu4, bnu, bk2, bk5, bkn, bp1, bp2, bpk, bH, bsp, bs1, bs4, bT1, bT16, bR1, bR2, bH1, bff, bff1⟩ := tok.b
  have hw1 := (hw i hi).1
  have hw2 := (hw i hi).2
  have hj := rowFits_j sg s r3 qg q cd tok hx hi hw1 hw2
  have hh := fX12_has_eq s r3 q cd tok hx (show w i < 2147483648 by omega)
  have q8 := q.f8
  have q4 := q.f4
  unfold bX12_rowFits_14
  rw [bd_of r3, if_pos qg, q4, if_neg (by rw [iI_le ⟨by omega, by omega⟩ ⟨by omega, by omega⟩]; omega), sB76_19 s, if_pos (sK80 sg), sL80 sg, if_pos ((si_zin (by omega) (by omega)).mpr ⟨by omega, by omega⟩), iI_clampN (by omega), hw1, hh, zc2_some]
  cases eh : hasC t x (w i)
  · have em : munf t x w i = true := by unfold munf; rw [eh]; simp
    exact ⟨0, _, Or.inl rfl, by rw [if_pos em, if_pos (show iI (bI false) = 0 from rfl)]⟩
  · rw [if_neg (show ¬ iI (bI true) = 0 by decide), bd_of r3, if_pos qg, q8]
    cases ed : thd t
    · have em : munf t x w i = (tst t && !decide (mfr (tst t) (hc t x) w (tk t) i + pli (hc t x) (w i) (mfr (tst t) (hc t x) w (tk t) i) (tk t) < tk t)) := by unfold munf; rw [eh, ed]; simp
      exact ⟨1, _, Or.inr rfl, by rw [if_pos (show iI (bI false) = 0 from rfl), hj, em]⟩
    · rw [if_neg (show ¬ iI (bI true) = 0 by decide)]
      by_cases c0 : i = 0
      · have em : munf t x w i = (tst t && !decide (mfr (tst t) (hc t x) w (tk t) i + pli (hc t x) (w i) (mfr (tst t) (hc t x) w (tk t) i) (tk t) < tk t)) := by
          unfold munf; rw [eh, ed, decide_eq_false (show ¬ 0 < i by omega)]; simp
        exact ⟨1, _, Or.inr rfl, by rw [if_pos (by rw [iI_lit, iI_le ⟨by omega, by omega⟩ ⟨by omega, by omega⟩]; omega), hj, em]⟩
      · have hv := hw (i - 1) (by omega)
        have hv1 := hv.1
        have hv2 := hv.2
        have e1 : (i : Int) - 1 = ((i - 1 : Nat) : Int) := by omega
        rw [if_neg (by rw [iI_lit, iI_le ⟨by omega, by omega⟩ ⟨by omega, by omega⟩]; omega), sB76_19 s, if_pos (sK80 sg), sL80 sg, if_pos ((si_zin (by omega) (by omega)).mpr ⟨by omega, by omega⟩), sB76_19 s, if_pos (sK80 sg), sL80 sg, show (1 : Int32) = iI 1 from rfl, iI_sub, e1, if_pos ((si_zin (by omega) (by omega)).mpr ⟨by omega, by omega⟩), iI_clampN (show i - 1 < 2147483648 by omega), hw1, hv1]
        by_cases c : w (i - 1) ≤ w i
        · have em : munf t x w i = (tst t && !decide (mfr (tst t) (hc t x) w (tk t) i + pli (hc t x) (w i) (mfr (tst t) (hc t x) w (tk t) i) (tk t) < tk t)) := by
            unfold munf; rw [eh, ed, decide_eq_false (show ¬ w i < w (i - 1) by omega)]; simp
          exact ⟨1, _, Or.inr rfl, by rw [if_pos (by rw [iI_le ⟨by omega, by omega⟩ ⟨by omega, by omega⟩]; omega), hj, em]⟩
        · have em : munf t x w i = true := by
            unfold munf; rw [eh, ed, decide_eq_true (show 0 < i by omega), decide_eq_true (show w i < w (i - 1) by omega)]; simp
          exact ⟨0, _, Or.inl rfl, by rw [if_neg (by rw [iI_le ⟨by omega, by omega⟩ ⟨by omega, by omega⟩]; omega), if_pos em]⟩
theorem Cd.fm {S : List Nat} {h h' : Zh} {t : Tk} (c : Cd h t) (f : Fm S h h') (h1 : 76 ∉ S) (h2 : 78 ∉ S) : Cd h' t := by
  unfold Cd
  rw [f.I h1, f.I h2]
  exact c
theorem fX12_rowFits_eq {tr x r : Nat} {t : Tk} {h : Zh} (s : St h) (htr : 101 ≤ tr) (r3 : zR h 76 3 = some tr) (q : Tr h tr t) (cd : Cd h t) (tok : Tok t) (hx : x < tH t) (hr : r < 2147483648) : fX12_rowFits 76 (iI x) (iI r) h = some (iI (bI (fitB t x r)), rcH t r 80 h) := by
  obtain ⟨bn4, bn12, bu1, bu4, bnu, bk2, bk5, bkn, bp1, bp2, bpk, bH, bsp, bs1, bs4, bT1, bT16, bR1, bR2, bH1, bff, bff1⟩ := tok.b
  have hf := rcH_fm t r 80 h
  have s2 := s.fm hf
  have q2 := q.fm hf (by simp; omega)
  have cd2 := cd.fm hf (by simp) (by simp)
  have r32 : zR (rcH t r 80 h) 76 3 = some tr := by rw [hf.R]; exact r3
  obtain ⟨g1, g2⟩ := unp_ok (n := tn t) (sh := tsh t) (q := r / tT t) (by omega)
  have hw : ∀ j, j < tsh t → zI (rcH t r 80 h) 80 j = iI (unp (tn t) (tsh t) (r / tT t) j) ∧ unp (tn t) (tsh t) (r / tT t) j < tn t := fun j hj => ⟨rcH_at hj, g2 j hj⟩
  unfold fX12_rowFits
  simp (maxSteps := 1000000) (disch := (first | assumption | exact ne_b rfl | omega)) only [↓reduceIte, ↓zlet_eq, ↓bdR_sI, ↓bdR_sJ, ↓bdR_aI, zc2_some, Option.bind_some, ↓si_m1, ↓si_m2, ↓si_m3, iI_lit, iI_add, iI_sub, iI_mul, leT, leF, ltT, ltF, eqT, eqF, zinT, clI, Int.toNat_natCast, tN1, tNa, tN0, tNm, if_pos, if_neg, zI_sI, zI_sJ, zI_sR, zJ_sI, zJ_sJ, zJ_sR, zR_sI, zR_sJ, zR_sR, zK_sI, zK_sJ, zK_sR, zL_sI, zL_sJ, zL_sR, zI_aI, zJ_aI, zR_aI, zK_aI, zL_aI, z2_at, z2_a, z2_k, z1_self, z1_ne, true_and, and_true, bIt, bIf, Bool.false_eq_true, Bool.true_eq_false, eq_self, not_true_eq_false, not_false_eq_true, sK76, sK77, sK78, sK79, sK80, sK81, sK82, sK83, sK84, sK85, sK86, sK87, sK88, sK89, sK90, sK91, sK92, sK93, sK94, sK95, sK96, sK97, sK98, sK99, sK100, sL77, sL78, sL79, sL80, sL81, sL82, sL83, sL84, sL85, sL86, sL87, sL88, sL89, sL90, sL91, sL92, sL93, sL94, sL95, sL96, sL97, sL98, sL99, sL100, sR76_5, sR76_16, sR76_18, sR76_19, sR76_20, sR76_21, sR76_23, sR76_25, sR76_26, sR76_27, sR76_28, sR76_29, sR76_30, sR76_31, sR76_32, sR76_33, sR76_34, sR76_37, sR76_38, sR76_39, sR76_40, sR76_41, sR76_42, ↓sB76_5, ↓sB76_16, ↓sB76_18, ↓sB76_19, ↓sB76_20, ↓sB76_21, ↓sB76_23, ↓sB76_25, ↓sB76_26, ↓sB76_27, ↓sB76_28, ↓sB76_29, ↓sB76_30, ↓sB76_31, ↓sB76_32, ↓sB76_33, ↓sB76_34, ↓sB76_37, ↓sB76_38, ↓sB76_39, ↓sB76_40, ↓sB76_41, ↓sB76_42, fX12_rowCards_eq s htr r3 q tok (sK80 s) (sL80 s) (by decide) (by decide) hr]
  have hb := fun i hi => rowFits_b (i := i) (w := unp (tn t) (tsh t) (r / tT t)) s s2 r32 q.fK q2 cd2 tok hx hi hw
  refine (lp_sc (st := fun i => ((iI (mfr (tst t) (hc t x) (unp (tn t) (tsh t) (r / tT t)) (tk t) i), iI (i : Int), rcH t r 80 h) : Int32 × Int32 × Zh)) (munf t x (unp (tn t) (tsh t) (r / tT t))) (tsh t) rfl (by omega) (fun i hi hP => by
    obtain ⟨e, y, -, h1⟩ := hb i hi
    rw [if_neg (by rw [hP]; decide)] at h1
    exact h1) (y1 := some (iI 0, rcH t r 80 h)) (e2 := 2) (s2 := (iI (mfr (tst t) (hc t x) (unp (tn t) (tsh t) (r / tT t)) (tk t) (tsh t)), iI (tsh t), rcH t r 80 h)) (fun i hi _ hP _ => ?_) ?_).trans ?_
  · obtain ⟨e, y, h2, h1⟩ := hb i hi
    rw [if_pos hP] at h1
    refine ⟨e, _, h1, ?_⟩
    rcases h2 with rfl | rfl <;> rfl
  · show bX12_rowFits_14 h 76 (iI x) _ (iI (tsh t)) _ = _
    unfold bX12_rowFits_14
    simp (maxSteps := 1000000) (disch := (first | assumption | exact ne_b rfl | omega)) only [↓reduceIte, ↓zlet_eq, ↓bdR_sI, ↓bdR_sJ, ↓bdR_aI, zc2_some, Option.bind_some, ↓si_m1, ↓si_m2, ↓si_m3, iI_lit, iI_add, iI_sub, iI_mul, leT, leF, ltT, ltF, eqT, eqF, zinT, clI, Int.toNat_natCast, tN1, tNa, tN0, tNm, if_pos, if_neg, zI_sI, zI_sJ, zI_sR, zJ_sI, zJ_sJ, zJ_sR, zR_sI, zR_sJ, zR_sR, zK_sI, zK_sJ, zK_sR, zL_sI, zL_sJ, zL_sR, zI_aI, zJ_aI, zR_aI, zK_aI, zL_aI, z2_at, z2_a, z2_k, z1_self, z1_ne, true_and, and_true, bIt, bIf, Bool.false_eq_true, Bool.true_eq_false, eq_self, not_true_eq_false, not_false_eq_true, sK76, sK77, sK78, sK79, sK80, sK81, sK82, sK83, sK84, sK85, sK86, sK87, sK88, sK89, sK90, sK91, sK92, sK93, sK94, sK95, sK96, sK97, sK98, sK99, sK100, sL77, sL78, sL79, sL80, sL81, sL82, sL83, sL84, sL85, sL86, sL87, sL88, sL89, sL90, sL91, sL92, sL93, sL94, sL95, sL96, sL97, sL98, sL99, sL100, sR76_5, sR76_16, sR76_18, sR76_19, sR76_20, sR76_21, sR76_23, sR76_25, sR76_26, sR76_27, sR76_28, sR76_29, sR76_30, sR76_31, sR76_32, sR76_33, sR76_34, sR76_37, sR76_38, sR76_39, sR76_40, sR76_41, sR76_42, ↓sB76_5, ↓sB76_16, ↓sB76_18, ↓sB76_19, ↓sB76_20, ↓sB76_21, ↓sB76_23, ↓sB76_25, ↓sB76_26, ↓sB76_27, ↓sB76_28, ↓sB76_29, ↓sB76_30, ↓sB76_31, ↓sB76_32, ↓sB76_33, ↓sB76_34, ↓sB76_37, ↓sB76_38, ↓sB76_39, ↓sB76_40, ↓sB76_41, ↓sB76_42, ↓bd_of r32, q.fK, q2.fK, q2.f0, q2.f1, q2.f2, q2.f3, q2.f4, q2.f7, q2.f8, q2.f9]
  · have e : zfst (munf t x (unp (tn t) (tsh t) (r / tT t))) (tsh t) = zfst (unfit (tst t) (thd t) (hc t x) (unp (tn t) (tsh t) (r / tT t)) (tk t)) (tsh t) := zfst_seq (fun i hi hq => munf_eq g1 hi hq)
    rw [e]
    unfold fitB
    by_cases c : zfst (unfit (tst t) (thd t) (hc t x) (unp (tn t) (tsh t) (r / tT t)) (tk t)) (tsh t) < tsh t
    · rw [if_pos c, decide_eq_false (fun q => q c)]
      rfl
    · rw [if_neg c, decide_eq_true c]
      rfl
